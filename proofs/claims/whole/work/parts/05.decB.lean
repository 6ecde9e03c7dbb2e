theorem dX7_init_147 : decode cX7_init 147 = .ok (.putfield 67, 3) := by decide +kernel
theorem dX7_init_150 : decode cX7_init 150 = .ok (.aload_n 0, 1) := by decide +kernel
theorem dX7_init_151 : decode cX7_init 151 = .ok (.iconst 5, 1) := by decide +kernel
theorem dX7_init_152 : decode cX7_init 152 = .ok (.newarray .int, 2) := by decide +kernel
theorem dX7_init_154 : decode cX7_init 154 = .ok (.putfield 70, 3) := by decide +kernel
theorem dX7_init_157 : decode cX7_init 157 = .ok (.aload_n 0, 1) := by decide +kernel
theorem dX7_init_158 : decode cX7_init 158 = .ok (.bipush 31, 2) := by decide +kernel
theorem dX7_init_160 : decode cX7_init 160 = .ok (.newarray .int, 2) := by decide +kernel
theorem dX7_init_162 : decode cX7_init 162 = .ok (.putfield 73, 3) := by decide +kernel
theorem dX7_init_165 : decode cX7_init 165 = .ok (.aload_n 0, 1) := by decide +kernel
theorem dX7_init_166 : decode cX7_init 166 = .ok (.bipush 9, 2) := by decide +kernel
theorem dX7_init_168 : decode cX7_init 168 = .ok (.newarray .int, 2) := by decide +kernel
theorem dX7_init_170 : decode cX7_init 170 = .ok (.putfield 76, 3) := by decide +kernel
theorem dX7_init_173 : decode cX7_init 173 = .ok (.aload_n 0, 1) := by decide +kernel
theorem dX7_init_174 : decode cX7_init 174 = .ok (.bipush 9, 2) := by decide +kernel
theorem dX7_init_176 : decode cX7_init 176 = .ok (.newarray .int, 2) := by decide +kernel
theorem dX7_init_178 : decode cX7_init 178 = .ok (.putfield 79, 3) := by decide +kernel
theorem dX7_init_181 : decode cX7_init 181 = .ok (.aload_n 0, 1) := by decide +kernel
theorem dX7_init_182 : decode cX7_init 182 = .ok (.bipush 9, 2) := by decide +kernel
theorem dX7_init_184 : decode cX7_init 184 = .ok (.newarray .int, 2) := by decide +kernel
theorem dX7_init_186 : decode cX7_init 186 = .ok (.putfield 82, 3) := by decide +kernel
theorem dX7_init_189 : decode cX7_init 189 = .ok (.aload_n 0, 1) := by decide +kernel
theorem dX7_init_190 : decode cX7_init 190 = .ok (.sipush 512, 3) := by decide +kernel
theorem dX7_init_193 : decode cX7_init 193 = .ok (.newarray .int, 2) := by decide +kernel
theorem dX7_init_195 : decode cX7_init 195 = .ok (.putfield 85, 3) := by decide +kernel
theorem dX7_init_198 : decode cX7_init 198 = .ok (.return_, 1) := by decide +kernel
theorem dX7_thrown_0 : decode cX7_thrown 0 = .ok (.aload_n 0, 1) := by decide +kernel
theorem dX7_thrown_1 : decode cX7_thrown 1 = .ok (.getfield 88, 3) := by decide +kernel
theorem dX7_thrown_4 : decode cX7_thrown 4 = .ok (.ireturn, 1) := by decide +kernel
theorem dX7_throwsIf_0 : decode cX7_throwsIf 0 = .ok (.iload_n 1, 1) := by decide +kernel
theorem dX7_throwsIf_1 : decode cX7_throwsIf 1 = .ok (.ifCond .eq 8, 3) := by decide +kernel
theorem dX7_throwsIf_4 : decode cX7_throwsIf 4 = .ok (.aload_n 0, 1) := by decide +kernel
theorem dX7_throwsIf_5 : decode cX7_throwsIf 5 = .ok (.iload_n 2, 1) := by decide +kernel
theorem dX7_throwsIf_6 : decode cX7_throwsIf 6 = .ok (.putfield 88, 3) := by decide +kernel
theorem dX7_throwsIf_9 : decode cX7_throwsIf 9 = .ok (.iload_n 1, 1) := by decide +kernel
theorem dX7_throwsIf_10 : decode cX7_throwsIf 10 = .ok (.ireturn, 1) := by decide +kernel
theorem dX7_in_0 : decode cX7_in 0 = .ok (.iload_n 0, 1) := by decide +kernel
theorem dX7_in_1 : decode cX7_in 1 = .ok (.iload_n 1, 1) := by decide +kernel
theorem dX7_in_2 : decode cX7_in 2 = .ok (.if_icmp .lt 12, 3) := by decide +kernel
theorem dX7_in_5 : decode cX7_in 5 = .ok (.iload_n 0, 1) := by decide +kernel
theorem dX7_in_6 : decode cX7_in 6 = .ok (.iload_n 2, 1) := by decide +kernel
theorem dX7_in_7 : decode cX7_in 7 = .ok (.if_icmp .gt 7, 3) := by decide +kernel
theorem dX7_in_10 : decode cX7_in 10 = .ok (.iconst 1, 1) := by decide +kernel
theorem dX7_in_11 : decode cX7_in 11 = .ok (.goto 4, 3) := by decide +kernel
theorem dX7_in_14 : decode cX7_in 14 = .ok (.iconst 0, 1) := by decide +kernel
theorem dX7_in_15 : decode cX7_in 15 = .ok (.ireturn, 1) := by decide +kernel
set_option maxRecDepth 20000 in
theorem ggX7_noChannel_X7_in : GoodIn wsX7_noChannel wsX7_in := goodIn_r _ [5] (by decide +kernel) (by decide +kernel)
set_option maxRecDepth 20000 in
theorem gX7_noChannel_X7_in : GoodIn wsX7_noChannel (va_wsS RX7 94 yX7_in wsX7_in) := goodIn_app (goodIn_of _ (by decide +kernel)) ggX7_noChannel_X7_in
theorem dX7_noChannel_0 : decode cX7_noChannel 0 = .ok (.iload_n 1, 1) := by decide +kernel
theorem dX7_noChannel_1 : decode cX7_noChannel 1 = .ok (.iconst 0, 1) := by decide +kernel
theorem dX7_noChannel_2 : decode cX7_noChannel 2 = .ok (.aload_n 0, 1) := by decide +kernel
theorem dX7_noChannel_3 : decode cX7_noChannel 3 = .ok (.getfield 91, 3) := by decide +kernel
theorem dX7_noChannel_6 : decode cX7_noChannel 6 = .ok (.iconst 1, 1) := by decide +kernel
theorem dX7_noChannel_7 : decode cX7_noChannel 7 = .ok (.isub, 1) := by decide +kernel
theorem dX7_noChannel_8 : decode cX7_noChannel 8 = .ok (.invokestatic 94, 3) := by decide +kernel
theorem dX7_noChannel_11 : decode cX7_noChannel 11 = .ok (.ifCond .ne 7, 3) := by decide +kernel
theorem dX7_noChannel_14 : decode cX7_noChannel 14 = .ok (.iconst 1, 1) := by decide +kernel
theorem dX7_noChannel_15 : decode cX7_noChannel 15 = .ok (.goto 4, 3) := by decide +kernel
theorem dX7_noChannel_18 : decode cX7_noChannel 18 = .ok (.iconst 0, 1) := by decide +kernel
theorem dX7_noChannel_19 : decode cX7_noChannel 19 = .ok (.ireturn, 1) := by decide +kernel
set_option maxRecDepth 20000 in
theorem ggX7_noWell_X7_noChannel : GoodIn wsX7_noWell wsX7_noChannel := goodIn_r _ [6, 7, 8, 9, 5, 10, 11, 12, 13, 14, 15, 16, 17, 18, 19, 20, 21, 22, 23, 24, 25, 26, 27, 28, 29, 30, 31, 32, 33, 34, 35, 36, 37, 38, 39, 40, 41, 42, 43, 44, 45, 46] (by decide +kernel) (by decide +kernel)
set_option maxRecDepth 20000 in
theorem gX7_noWell_X7_noChannel : GoodIn wsX7_noWell (wsV RX7 98 RX7 yX7_noChannel wsX7_noChannel) := goodIn_app (goodIn_of _ (by decide +kernel)) ggX7_noWell_X7_noChannel
set_option maxRecDepth 20000 in
theorem ggX7_noWell_X7_in : GoodIn wsX7_noWell wsX7_in := goodIn_r _ [10] (by decide +kernel) (by decide +kernel)
set_option maxRecDepth 20000 in
theorem gX7_noWell_X7_in : GoodIn wsX7_noWell (va_wsS RX7 94 yX7_in wsX7_in) := goodIn_app (goodIn_of _ (by decide +kernel)) ggX7_noWell_X7_in
theorem dX7_noWell_0 : decode cX7_noWell 0 = .ok (.aload_n 0, 1) := by decide +kernel
theorem dX7_noWell_1 : decode cX7_noWell 1 = .ok (.iload_n 1, 1) := by decide +kernel
theorem dX7_noWell_2 : decode cX7_noWell 2 = .ok (.invokevirtual 98, 3) := by decide +kernel
theorem dX7_noWell_5 : decode cX7_noWell 5 = .ok (.ifCond .ne 19, 3) := by decide +kernel
theorem dX7_noWell_8 : decode cX7_noWell 8 = .ok (.iload_n 2, 1) := by decide +kernel
theorem dX7_noWell_9 : decode cX7_noWell 9 = .ok (.iconst 0, 1) := by decide +kernel
theorem dX7_noWell_10 : decode cX7_noWell 10 = .ok (.aload_n 0, 1) := by decide +kernel
theorem dX7_noWell_11 : decode cX7_noWell 11 = .ok (.getfield 16, 3) := by decide +kernel
theorem dX7_noWell_14 : decode cX7_noWell 14 = .ok (.iload_n 1, 1) := by decide +kernel
theorem dX7_noWell_15 : decode cX7_noWell 15 = .ok (.iaload, 1) := by decide +kernel
theorem dX7_noWell_16 : decode cX7_noWell 16 = .ok (.iconst 1, 1) := by decide +kernel
theorem dX7_noWell_17 : decode cX7_noWell 17 = .ok (.isub, 1) := by decide +kernel
theorem dX7_noWell_18 : decode cX7_noWell 18 = .ok (.invokestatic 94, 3) := by decide +kernel
theorem dX7_noWell_21 : decode cX7_noWell 21 = .ok (.ifCond .ne 7, 3) := by decide +kernel
theorem dX7_noWell_24 : decode cX7_noWell 24 = .ok (.iconst 1, 1) := by decide +kernel
theorem dX7_noWell_25 : decode cX7_noWell 25 = .ok (.goto 4, 3) := by decide +kernel
theorem dX7_noWell_28 : decode cX7_noWell 28 = .ok (.iconst 0, 1) := by decide +kernel
theorem dX7_noWell_29 : decode cX7_noWell 29 = .ok (.ireturn, 1) := by decide +kernel
set_option maxRecDepth 20000 in
theorem ggX7_noShare_X7_in : GoodIn wsX7_noShare wsX7_in := goodIn_r _ [5] (by decide +kernel) (by decide +kernel)
set_option maxRecDepth 20000 in
theorem gX7_noShare_X7_in : GoodIn wsX7_noShare (va_wsS RX7 94 yX7_in wsX7_in) := goodIn_app (goodIn_of _ (by decide +kernel)) ggX7_noShare_X7_in
theorem dX7_noShare_0 : decode cX7_noShare 0 = .ok (.iload_n 1, 1) := by decide +kernel
theorem dX7_noShare_1 : decode cX7_noShare 1 = .ok (.iconst 0, 1) := by decide +kernel
theorem dX7_noShare_2 : decode cX7_noShare 2 = .ok (.aload_n 0, 1) := by decide +kernel
theorem dX7_noShare_3 : decode cX7_noShare 3 = .ok (.getfield 102, 3) := by decide +kernel
theorem dX7_noShare_6 : decode cX7_noShare 6 = .ok (.iconst 1, 1) := by decide +kernel
theorem dX7_noShare_7 : decode cX7_noShare 7 = .ok (.isub, 1) := by decide +kernel
theorem dX7_noShare_8 : decode cX7_noShare 8 = .ok (.invokestatic 94, 3) := by decide +kernel
theorem dX7_noShare_11 : decode cX7_noShare 11 = .ok (.ifCond .ne 7, 3) := by decide +kernel
theorem dX7_noShare_14 : decode cX7_noShare 14 = .ok (.iconst 1, 1) := by decide +kernel
theorem dX7_noShare_15 : decode cX7_noShare 15 = .ok (.goto 4, 3) := by decide +kernel
theorem dX7_noShare_18 : decode cX7_noShare 18 = .ok (.iconst 0, 1) := by decide +kernel
theorem dX7_noShare_19 : decode cX7_noShare 19 = .ok (.ireturn, 1) := by decide +kernel
set_option maxRecDepth 20000 in
theorem ggX7_ground_X7_in : GoodIn wsX7_ground wsX7_in := goodIn_r _ [7] (by decide +kernel) (by decide +kernel)
set_option maxRecDepth 20000 in
theorem gX7_ground_X7_in : GoodIn wsX7_ground (va_wsS RX7 94 yX7_in wsX7_in) := goodIn_app (goodIn_of _ (by decide +kernel)) ggX7_ground_X7_in
set_option maxRecDepth 20000 in
theorem ggX7_ground_X7_throwsIf : GoodIn wsX7_ground wsX7_throwsIf := goodIn_r _ [11, 1, 12, 13, 14, 15, 16, 17, 18, 19, 20, 21, 22, 23, 24, 25, 26, 27, 28, 29, 30, 31, 32, 33, 34, 35, 36, 37, 38, 39, 40, 41, 42, 43, 44, 45, 46, 47] (by decide +kernel) (by decide +kernel)
set_option maxRecDepth 20000 in
theorem gX7_ground_X7_throwsIf : GoodIn wsX7_ground (wsV RX7 105 RX7 yX7_throwsIf wsX7_throwsIf) := goodIn_app (goodIn_of _ (by decide +kernel)) ggX7_ground_X7_throwsIf
theorem dX7_ground_0 : decode cX7_ground 0 = .ok (.aload_n 0, 1) := by decide +kernel
theorem dX7_ground_1 : decode cX7_ground 1 = .ok (.iconst 0, 1) := by decide +kernel
theorem dX7_ground_2 : decode cX7_ground 2 = .ok (.putfield 88, 3) := by decide +kernel
theorem dX7_ground_5 : decode cX7_ground 5 = .ok (.aload_n 0, 1) := by decide +kernel
theorem dX7_ground_6 : decode cX7_ground 6 = .ok (.iload_n 1, 1) := by decide +kernel
theorem dX7_ground_7 : decode cX7_ground 7 = .ok (.iconst 0, 1) := by decide +kernel
theorem dX7_ground_8 : decode cX7_ground 8 = .ok (.sipush 2000, 3) := by decide +kernel
theorem dX7_ground_11 : decode cX7_ground 11 = .ok (.invokestatic 94, 3) := by decide +kernel
theorem dX7_ground_14 : decode cX7_ground 14 = .ok (.ifCond .eq 13, 3) := by decide +kernel
theorem dX7_ground_17 : decode cX7_ground 17 = .ok (.iload_n 2, 1) := by decide +kernel
theorem dX7_ground_18 : decode cX7_ground 18 = .ok (.iconst 0, 1) := by decide +kernel
theorem dX7_ground_19 : decode cX7_ground 19 = .ok (.bipush 20, 2) := by decide +kernel
theorem dX7_ground_21 : decode cX7_ground 21 = .ok (.invokestatic 94, 3) := by decide +kernel
theorem dX7_ground_24 : decode cX7_ground 24 = .ok (.ifCond .ne 7, 3) := by decide +kernel
theorem dX7_ground_27 : decode cX7_ground 27 = .ok (.iconst 1, 1) := by decide +kernel
theorem dX7_ground_28 : decode cX7_ground 28 = .ok (.goto 4, 3) := by decide +kernel
theorem dX7_ground_31 : decode cX7_ground 31 = .ok (.iconst 0, 1) := by decide +kernel
theorem dX7_ground_32 : decode cX7_ground 32 = .ok (.iconst 1, 1) := by decide +kernel
theorem dX7_ground_33 : decode cX7_ground 33 = .ok (.invokevirtual 105, 3) := by decide +kernel
theorem dX7_ground_36 : decode cX7_ground 36 = .ok (.ifCond .eq 4, 3) := by decide +kernel
theorem dX7_ground_39 : decode cX7_ground 39 = .ok (.return_, 1) := by decide +kernel
theorem dX7_ground_40 : decode cX7_ground 40 = .ok (.aload_n 0, 1) := by decide +kernel
theorem dX7_ground_41 : decode cX7_ground 41 = .ok (.iload_n 1, 1) := by decide +kernel
theorem dX7_ground_42 : decode cX7_ground 42 = .ok (.putfield 7, 3) := by decide +kernel
theorem dX7_ground_45 : decode cX7_ground 45 = .ok (.aload_n 0, 1) := by decide +kernel
theorem dX7_ground_46 : decode cX7_ground 46 = .ok (.iload_n 2, 1) := by decide +kernel
theorem dX7_ground_47 : decode cX7_ground 47 = .ok (.putfield 13, 3) := by decide +kernel
theorem dX7_ground_50 : decode cX7_ground 50 = .ok (.return_, 1) := by decide +kernel
set_option maxRecDepth 20000 in
theorem ggX7_channel_X7_throwsIf : GoodIn wsX7_channel wsX7_throwsIf := goodIn_r _ [7, 1, 8, 9, 10, 11, 12, 13, 14, 15, 16, 17, 18, 19, 20, 21, 22, 23, 24, 25, 26, 27, 28, 29, 30, 31, 32, 33, 34, 35, 36, 37, 38, 39, 40, 41, 42, 43] (by decide +kernel) (by decide +kernel)
set_option maxRecDepth 20000 in
theorem gX7_channel_X7_throwsIf : GoodIn wsX7_channel (wsV RX7 105 RX7 yX7_throwsIf wsX7_throwsIf) := goodIn_app (goodIn_of _ (by decide +kernel)) ggX7_channel_X7_throwsIf
theorem dX7_channel_0 : decode cX7_channel 0 = .ok (.aload_n 0, 1) := by decide +kernel
theorem dX7_channel_1 : decode cX7_channel 1 = .ok (.iconst 0, 1) := by decide +kernel
theorem dX7_channel_2 : decode cX7_channel 2 = .ok (.putfield 88, 3) := by decide +kernel
theorem dX7_channel_5 : decode cX7_channel 5 = .ok (.aload_n 0, 1) := by decide +kernel
theorem dX7_channel_6 : decode cX7_channel 6 = .ok (.aload_n 0, 1) := by decide +kernel
theorem dX7_channel_7 : decode cX7_channel 7 = .ok (.getfield 91, 3) := by decide +kernel
theorem dX7_channel_10 : decode cX7_channel 10 = .ok (.bipush 8, 2) := by decide +kernel
theorem dX7_channel_12 : decode cX7_channel 12 = .ok (.if_icmp .ne 7, 3) := by decide +kernel
theorem dX7_channel_15 : decode cX7_channel 15 = .ok (.iconst 1, 1) := by decide +kernel
theorem dX7_channel_16 : decode cX7_channel 16 = .ok (.goto 4, 3) := by decide +kernel
theorem dX7_channel_19 : decode cX7_channel 19 = .ok (.iconst 0, 1) := by decide +kernel
theorem dX7_channel_20 : decode cX7_channel 20 = .ok (.iconst 1, 1) := by decide +kernel
theorem dX7_channel_21 : decode cX7_channel 21 = .ok (.invokevirtual 105, 3) := by decide +kernel
theorem dX7_channel_24 : decode cX7_channel 24 = .ok (.ifCond .eq 5, 3) := by decide +kernel
theorem dX7_channel_27 : decode cX7_channel 27 = .ok (.iconst 0, 1) := by decide +kernel
theorem dX7_channel_28 : decode cX7_channel 28 = .ok (.ireturn, 1) := by decide +kernel
theorem dX7_channel_29 : decode cX7_channel 29 = .ok (.aload_n 0, 1) := by decide +kernel
theorem dX7_channel_30 : decode cX7_channel 30 = .ok (.dup, 1) := by decide +kernel
theorem dX7_channel_31 : decode cX7_channel 31 = .ok (.getfield 91, 3) := by decide +kernel
theorem dX7_channel_34 : decode cX7_channel 34 = .ok (.iconst 1, 1) := by decide +kernel
theorem dX7_channel_35 : decode cX7_channel 35 = .ok (.iadd, 1) := by decide +kernel
theorem dX7_channel_36 : decode cX7_channel 36 = .ok (.putfield 91, 3) := by decide +kernel
theorem dX7_channel_39 : decode cX7_channel 39 = .ok (.aload_n 0, 1) := by decide +kernel
theorem dX7_channel_40 : decode cX7_channel 40 = .ok (.getfield 91, 3) := by decide +kernel
theorem dX7_channel_43 : decode cX7_channel 43 = .ok (.iconst 1, 1) := by decide +kernel
theorem dX7_channel_44 : decode cX7_channel 44 = .ok (.isub, 1) := by decide +kernel
theorem dX7_channel_45 : decode cX7_channel 45 = .ok (.ireturn, 1) := by decide +kernel
set_option maxRecDepth 20000 in
theorem ggX7_well_X7_noChannel : GoodIn wsX7_well wsX7_noChannel := goodIn_r _ [11, 12, 13, 14, 10, 15, 20, 21, 22, 23, 24, 25, 26, 27, 28, 29, 30, 31, 32, 33, 34, 35, 36, 37, 38, 39, 40, 41, 42, 43, 44, 45, 46, 47, 48, 49, 50, 51, 52, 53, 54, 55] (by decide +kernel) (by decide +kernel)
set_option maxRecDepth 20000 in
theorem gX7_well_X7_noChannel : GoodIn wsX7_well (wsV RX7 98 RX7 yX7_noChannel wsX7_noChannel) := goodIn_app (goodIn_of _ (by decide +kernel)) ggX7_well_X7_noChannel
set_option maxRecDepth 20000 in
theorem ggX7_well_X7_throwsIf : GoodIn wsX7_well wsX7_throwsIf := goodIn_r _ [19, 1, 20, 21, 22, 23, 24, 25, 26, 27, 28, 29, 30, 31, 32, 33, 34, 35, 36, 37, 38, 39, 40, 41, 42, 43, 44, 45, 46, 47, 48, 49, 50, 51, 52, 53, 54, 55] (by decide +kernel) (by decide +kernel)
set_option maxRecDepth 20000 in
theorem gX7_well_X7_throwsIf : GoodIn wsX7_well (wsV RX7 105 RX7 yX7_throwsIf wsX7_throwsIf) := goodIn_app (goodIn_of _ (by decide +kernel)) ggX7_well_X7_throwsIf
set_option maxRecDepth 20000 in
theorem ggX7_well_X7_in : GoodIn wsX7_well wsX7_in := goodIn_r _ [15] (by decide +kernel) (by decide +kernel)
set_option maxRecDepth 20000 in
theorem gX7_well_X7_in : GoodIn wsX7_well (va_wsS RX7 94 yX7_in wsX7_in) := goodIn_app (goodIn_of _ (by decide +kernel)) ggX7_well_X7_in
theorem dX7_well_0 : decode cX7_well 0 = .ok (.aload_n 0, 1) := by decide +kernel
theorem dX7_well_1 : decode cX7_well 1 = .ok (.iconst 0, 1) := by decide +kernel
theorem dX7_well_2 : decode cX7_well 2 = .ok (.putfield 88, 3) := by decide +kernel
theorem dX7_well_5 : decode cX7_well 5 = .ok (.aload_n 0, 1) := by decide +kernel
theorem dX7_well_6 : decode cX7_well 6 = .ok (.aload_n 0, 1) := by decide +kernel
theorem dX7_well_7 : decode cX7_well 7 = .ok (.iload_n 1, 1) := by decide +kernel
theorem dX7_well_8 : decode cX7_well 8 = .ok (.invokevirtual 98, 3) := by decide +kernel
theorem dX7_well_11 : decode cX7_well 11 = .ok (.iconst 1, 1) := by decide +kernel
theorem dX7_well_12 : decode cX7_well 12 = .ok (.invokevirtual 105, 3) := by decide +kernel
theorem dX7_well_15 : decode cX7_well 15 = .ok (.ifCond .ne 17, 3) := by decide +kernel
theorem dX7_well_18 : decode cX7_well 18 = .ok (.aload_n 0, 1) := by decide +kernel
theorem dX7_well_19 : decode cX7_well 19 = .ok (.aload_n 0, 1) := by decide +kernel
theorem dX7_well_20 : decode cX7_well 20 = .ok (.getfield 20, 3) := by decide +kernel
theorem dX7_well_23 : decode cX7_well 23 = .ok (.iload_n 1, 1) := by decide +kernel
theorem dX7_well_24 : decode cX7_well 24 = .ok (.baload, 1) := by decide +kernel
theorem dX7_well_25 : decode cX7_well 25 = .ok (.iconst 2, 1) := by decide +kernel
theorem dX7_well_26 : decode cX7_well 26 = .ok (.invokevirtual 105, 3) := by decide +kernel
theorem dX7_well_29 : decode cX7_well 29 = .ok (.ifCond .eq 5, 3) := by decide +kernel
theorem dX7_well_32 : decode cX7_well 32 = .ok (.iconst 0, 1) := by decide +kernel
theorem dX7_well_33 : decode cX7_well 33 = .ok (.ireturn, 1) := by decide +kernel
theorem dX7_well_34 : decode cX7_well 34 = .ok (.bipush 20, 2) := by decide +kernel
theorem dX7_well_36 : decode cX7_well 36 = .ok (.iload_n 1, 1) := by decide +kernel
theorem dX7_well_37 : decode cX7_well 37 = .ok (.imul, 1) := by decide +kernel
theorem dX7_well_38 : decode cX7_well 38 = .ok (.aload_n 0, 1) := by decide +kernel
theorem dX7_well_39 : decode cX7_well 39 = .ok (.getfield 16, 3) := by decide +kernel
theorem dX7_well_42 : decode cX7_well 42 = .ok (.iload_n 1, 1) := by decide +kernel
theorem dX7_well_43 : decode cX7_well 43 = .ok (.iaload, 1) := by decide +kernel
theorem dX7_well_44 : decode cX7_well 44 = .ok (.iadd, 1) := by decide +kernel
theorem dX7_well_45 : decode cX7_well 45 = .ok (.istore 5, 2) := by decide +kernel
theorem dX7_well_47 : decode cX7_well 47 = .ok (.iload_n 2, 1) := by decide +kernel
theorem dX7_well_48 : decode cX7_well 48 = .ok (.iconst 0, 1) := by decide +kernel
theorem dX7_well_49 : decode cX7_well 49 = .ok (.bipush 100, 2) := by decide +kernel
theorem dX7_well_51 : decode cX7_well 51 = .ok (.invokestatic 94, 3) := by decide +kernel
theorem dX7_well_54 : decode cX7_well 54 = .ok (.ifCond .eq 52, 3) := by decide +kernel
theorem dX7_well_57 : decode cX7_well 57 = .ok (.iload_n 3, 1) := by decide +kernel
theorem dX7_well_58 : decode cX7_well 58 = .ok (.iconst 0, 1) := by decide +kernel
theorem dX7_well_59 : decode cX7_well 59 = .ok (.bipush 100, 2) := by decide +kernel
theorem dX7_well_61 : decode cX7_well 61 = .ok (.invokestatic 94, 3) := by decide +kernel
theorem dX7_well_64 : decode cX7_well 64 = .ok (.ifCond .eq 42, 3) := by decide +kernel
theorem dX7_well_67 : decode cX7_well 67 = .ok (.iload 4, 2) := by decide +kernel
theorem dX7_well_69 : decode cX7_well 69 = .ok (.iconst 0, 1) := by decide +kernel
theorem dX7_well_70 : decode cX7_well 70 = .ok (.sipush 1000, 3) := by decide +kernel
theorem dX7_well_73 : decode cX7_well 73 = .ok (.invokestatic 94, 3) := by decide +kernel
theorem dX7_well_76 : decode cX7_well 76 = .ok (.ifCond .eq 30, 3) := by decide +kernel
theorem dX7_well_79 : decode cX7_well 79 = .ok (.aload_n 0, 1) := by decide +kernel
theorem dX7_well_80 : decode cX7_well 80 = .ok (.getfield 16, 3) := by decide +kernel
theorem dX7_well_83 : decode cX7_well 83 = .ok (.iload_n 1, 1) := by decide +kernel
theorem dX7_well_84 : decode cX7_well 84 = .ok (.iaload, 1) := by decide +kernel
theorem dX7_well_85 : decode cX7_well 85 = .ok (.ifCond .eq 17, 3) := by decide +kernel
theorem dX7_well_88 : decode cX7_well 88 = .ok (.iload 4, 2) := by decide +kernel
theorem dX7_well_90 : decode cX7_well 90 = .ok (.aload_n 0, 1) := by decide +kernel
theorem dX7_well_91 : decode cX7_well 91 = .ok (.getfield 39, 3) := by decide +kernel
theorem dX7_well_94 : decode cX7_well 94 = .ok (.iload 5, 2) := by decide +kernel
theorem dX7_well_96 : decode cX7_well 96 = .ok (.iconst 1, 1) := by decide +kernel
theorem dX7_well_97 : decode cX7_well 97 = .ok (.isub, 1) := by decide +kernel
theorem dX7_well_98 : decode cX7_well 98 = .ok (.iaload, 1) := by decide +kernel
theorem dX7_well_99 : decode cX7_well 99 = .ok (.if_icmp .lt 7, 3) := by decide +kernel
theorem dX7_well_102 : decode cX7_well 102 = .ok (.iconst 1, 1) := by decide +kernel
theorem dX7_well_103 : decode cX7_well 103 = .ok (.goto 4, 3) := by decide +kernel
theorem dX7_well_106 : decode cX7_well 106 = .ok (.iconst 0, 1) := by decide +kernel
theorem dX7_well_107 : decode cX7_well 107 = .ok (.istore 6, 2) := by decide +kernel
theorem dX7_well_109 : decode cX7_well 109 = .ok (.aload_n 0, 1) := by decide +kernel
theorem dX7_well_110 : decode cX7_well 110 = .ok (.iload 6, 2) := by decide +kernel
theorem dX7_well_112 : decode cX7_well 112 = .ok (.ifCond .ne 7, 3) := by decide +kernel
theorem dX7_well_115 : decode cX7_well 115 = .ok (.iconst 1, 1) := by decide +kernel
theorem dX7_well_116 : decode cX7_well 116 = .ok (.goto 4, 3) := by decide +kernel
theorem dX7_well_119 : decode cX7_well 119 = .ok (.iconst 0, 1) := by decide +kernel
theorem dX7_well_120 : decode cX7_well 120 = .ok (.iconst 3, 1) := by decide +kernel
theorem dX7_well_121 : decode cX7_well 121 = .ok (.invokevirtual 105, 3) := by decide +kernel
theorem dX7_well_124 : decode cX7_well 124 = .ok (.ifCond .ne 27, 3) := by decide +kernel
theorem dX7_well_127 : decode cX7_well 127 = .ok (.aload_n 0, 1) := by decide +kernel
theorem dX7_well_128 : decode cX7_well 128 = .ok (.aload_n 0, 1) := by decide +kernel
theorem dX7_well_129 : decode cX7_well 129 = .ok (.getfield 16, 3) := by decide +kernel
theorem dX7_well_132 : decode cX7_well 132 = .ok (.iload_n 1, 1) := by decide +kernel
theorem dX7_well_133 : decode cX7_well 133 = .ok (.iaload, 1) := by decide +kernel
theorem dX7_well_134 : decode cX7_well 134 = .ok (.bipush 20, 2) := by decide +kernel
theorem dX7_well_136 : decode cX7_well 136 = .ok (.if_icmp .ne 7, 3) := by decide +kernel
theorem dX7_well_139 : decode cX7_well 139 = .ok (.iconst 1, 1) := by decide +kernel
theorem dX7_well_140 : decode cX7_well 140 = .ok (.goto 4, 3) := by decide +kernel
theorem dX7_well_143 : decode cX7_well 143 = .ok (.iconst 0, 1) := by decide +kernel
theorem dX7_well_144 : decode cX7_well 144 = .ok (.iconst 4, 1) := by decide +kernel
theorem dX7_well_145 : decode cX7_well 145 = .ok (.invokevirtual 105, 3) := by decide +kernel
theorem dX7_well_148 : decode cX7_well 148 = .ok (.ifCond .eq 5, 3) := by decide +kernel
theorem dX7_well_151 : decode cX7_well 151 = .ok (.iconst 0, 1) := by decide +kernel
theorem dX7_well_152 : decode cX7_well 152 = .ok (.ireturn, 1) := by decide +kernel
theorem dX7_well_153 : decode cX7_well 153 = .ok (.aload_n 0, 1) := by decide +kernel
theorem dX7_well_154 : decode cX7_well 154 = .ok (.getfield 33, 3) := by decide +kernel
theorem dX7_well_157 : decode cX7_well 157 = .ok (.iload 5, 2) := by decide +kernel
theorem dX7_well_159 : decode cX7_well 159 = .ok (.iload_n 2, 1) := by decide +kernel
theorem dX7_well_160 : decode cX7_well 160 = .ok (.iastore, 1) := by decide +kernel
theorem dX7_well_161 : decode cX7_well 161 = .ok (.aload_n 0, 1) := by decide +kernel
theorem dX7_well_162 : decode cX7_well 162 = .ok (.getfield 36, 3) := by decide +kernel
theorem dX7_well_165 : decode cX7_well 165 = .ok (.iload 5, 2) := by decide +kernel
theorem dX7_well_167 : decode cX7_well 167 = .ok (.iload_n 3, 1) := by decide +kernel
theorem dX7_well_168 : decode cX7_well 168 = .ok (.iastore, 1) := by decide +kernel
theorem dX7_well_169 : decode cX7_well 169 = .ok (.aload_n 0, 1) := by decide +kernel
theorem dX7_well_170 : decode cX7_well 170 = .ok (.getfield 39, 3) := by decide +kernel
theorem dX7_well_173 : decode cX7_well 173 = .ok (.iload 5, 2) := by decide +kernel
theorem dX7_well_175 : decode cX7_well 175 = .ok (.iload 4, 2) := by decide +kernel
theorem dX7_well_177 : decode cX7_well 177 = .ok (.iastore, 1) := by decide +kernel
theorem dX7_well_178 : decode cX7_well 178 = .ok (.aload_n 0, 1) := by decide +kernel
theorem dX7_well_179 : decode cX7_well 179 = .ok (.getfield 16, 3) := by decide +kernel
theorem dX7_well_182 : decode cX7_well 182 = .ok (.iload_n 1, 1) := by decide +kernel
theorem dX7_well_183 : decode cX7_well 183 = .ok (.dup2, 1) := by decide +kernel
theorem dX7_well_184 : decode cX7_well 184 = .ok (.iaload, 1) := by decide +kernel
theorem dX7_well_185 : decode cX7_well 185 = .ok (.iconst 1, 1) := by decide +kernel
theorem dX7_well_186 : decode cX7_well 186 = .ok (.iadd, 1) := by decide +kernel
theorem dX7_well_187 : decode cX7_well 187 = .ok (.iastore, 1) := by decide +kernel
theorem dX7_well_188 : decode cX7_well 188 = .ok (.aload_n 0, 1) := by decide +kernel
theorem dX7_well_189 : decode cX7_well 189 = .ok (.getfield 16, 3) := by decide +kernel
theorem dX7_well_192 : decode cX7_well 192 = .ok (.iload_n 1, 1) := by decide +kernel
theorem dX7_well_193 : decode cX7_well 193 = .ok (.iaload, 1) := by decide +kernel
theorem dX7_well_194 : decode cX7_well 194 = .ok (.iconst 1, 1) := by decide +kernel
theorem dX7_well_195 : decode cX7_well 195 = .ok (.isub, 1) := by decide +kernel
theorem dX7_well_196 : decode cX7_well 196 = .ok (.ireturn, 1) := by decide +kernel
theorem dX7_steps_0 : decode cX7_steps 0 = .ok (.iload_n 0, 1) := by decide +kernel
theorem dX7_steps_1 : decode cX7_steps 1 = .ok (.iload_n 2, 1) := by decide +kernel
theorem dX7_steps_2 : decode cX7_steps 2 = .ok (.isub, 1) := by decide +kernel
theorem dX7_steps_3 : decode cX7_steps 3 = .ok (.invokestatic 109, 3) := by decide +kernel
theorem dX7_steps_6 : decode cX7_steps 6 = .ok (.iload_n 1, 1) := by decide +kernel
theorem dX7_steps_7 : decode cX7_steps 7 = .ok (.iload_n 3, 1) := by decide +kernel
theorem dX7_steps_8 : decode cX7_steps 8 = .ok (.isub, 1) := by decide +kernel
theorem dX7_steps_9 : decode cX7_steps 9 = .ok (.invokestatic 109, 3) := by decide +kernel
theorem dX7_steps_12 : decode cX7_steps 12 = .ok (.invokestatic 115, 3) := by decide +kernel
theorem dX7_steps_15 : decode cX7_steps 15 = .ok (.ireturn, 1) := by decide +kernel
set_option maxRecDepth 20000 in
theorem ggX7_mayBe_X7_steps : GoodIn wsX7_mayBe wsX7_steps := goodIn_r _ [11, 12, 13, 14, 15, 16, 17, 18] (by decide +kernel) (by decide +kernel)
set_option maxRecDepth 20000 in
theorem gX7_mayBe_X7_steps : GoodIn wsX7_mayBe (va_wsS RX7 119 yX7_steps wsX7_steps) := goodIn_app (goodIn_of _ (by decide +kernel)) ggX7_mayBe_X7_steps
theorem dX7_mayBe_0 : decode cX7_mayBe 0 = .ok (.aload_n 0, 1) := by decide +kernel
theorem dX7_mayBe_1 : decode cX7_mayBe 1 = .ok (.getfield 16, 3) := by decide +kernel
theorem dX7_mayBe_4 : decode cX7_mayBe 4 = .ok (.iload_n 1, 1) := by decide +kernel
theorem dX7_mayBe_5 : decode cX7_mayBe 5 = .ok (.iaload, 1) := by decide +kernel
theorem dX7_mayBe_6 : decode cX7_mayBe 6 = .ok (.iconst 2, 1) := by decide +kernel
theorem dX7_mayBe_7 : decode cX7_mayBe 7 = .ok (.if_icmp .ge 5, 3) := by decide +kernel
theorem dX7_mayBe_10 : decode cX7_mayBe 10 = .ok (.iconst 0, 1) := by decide +kernel
theorem dX7_mayBe_11 : decode cX7_mayBe 11 = .ok (.ireturn, 1) := by decide +kernel
theorem dX7_mayBe_12 : decode cX7_mayBe 12 = .ok (.bipush 20, 2) := by decide +kernel
theorem dX7_mayBe_14 : decode cX7_mayBe 14 = .ok (.iload_n 1, 1) := by decide +kernel
theorem dX7_mayBe_15 : decode cX7_mayBe 15 = .ok (.imul, 1) := by decide +kernel
theorem dX7_mayBe_16 : decode cX7_mayBe 16 = .ok (.istore_n 2, 1) := by decide +kernel
theorem dX7_mayBe_17 : decode cX7_mayBe 17 = .ok (.iload_n 2, 1) := by decide +kernel
theorem dX7_mayBe_18 : decode cX7_mayBe 18 = .ok (.bipush 20, 2) := by decide +kernel
theorem dX7_mayBe_20 : decode cX7_mayBe 20 = .ok (.iload_n 1, 1) := by decide +kernel
theorem dX7_mayBe_21 : decode cX7_mayBe 21 = .ok (.imul, 1) := by decide +kernel
theorem dX7_mayBe_22 : decode cX7_mayBe 22 = .ok (.aload_n 0, 1) := by decide +kernel
theorem dX7_mayBe_23 : decode cX7_mayBe 23 = .ok (.getfield 16, 3) := by decide +kernel
theorem dX7_mayBe_26 : decode cX7_mayBe 26 = .ok (.iload_n 1, 1) := by decide +kernel
theorem dX7_mayBe_27 : decode cX7_mayBe 27 = .ok (.iaload, 1) := by decide +kernel
theorem dX7_mayBe_28 : decode cX7_mayBe 28 = .ok (.iadd, 1) := by decide +kernel
theorem dX7_mayBe_29 : decode cX7_mayBe 29 = .ok (.if_icmp .ge 128, 3) := by decide +kernel
theorem dX7_mayBe_32 : decode cX7_mayBe 32 = .ok (.iconst 0, 1) := by decide +kernel
theorem dX7_mayBe_33 : decode cX7_mayBe 33 = .ok (.istore_n 3, 1) := by decide +kernel
theorem dX7_mayBe_34 : decode cX7_mayBe 34 = .ok (.iload_n 3, 1) := by decide +kernel
theorem dX7_mayBe_35 : decode cX7_mayBe 35 = .ok (.aload_n 0, 1) := by decide +kernel
theorem dX7_mayBe_36 : decode cX7_mayBe 36 = .ok (.getfield 91, 3) := by decide +kernel
theorem dX7_mayBe_39 : decode cX7_mayBe 39 = .ok (.if_icmp .ge 112, 3) := by decide +kernel
theorem dX7_mayBe_42 : decode cX7_mayBe 42 = .ok (.aload_n 0, 1) := by decide +kernel
theorem dX7_mayBe_43 : decode cX7_mayBe 43 = .ok (.getfield 20, 3) := by decide +kernel
theorem dX7_mayBe_46 : decode cX7_mayBe 46 = .ok (.iload_n 3, 1) := by decide +kernel
theorem dX7_mayBe_47 : decode cX7_mayBe 47 = .ok (.baload, 1) := by decide +kernel
theorem dX7_mayBe_48 : decode cX7_mayBe 48 = .ok (.ifCond .ne 6, 3) := by decide +kernel
theorem dX7_mayBe_51 : decode cX7_mayBe 51 = .ok (.goto 94, 3) := by decide +kernel
theorem dX7_mayBe_54 : decode cX7_mayBe 54 = .ok (.bipush 20, 2) := by decide +kernel
theorem dX7_mayBe_56 : decode cX7_mayBe 56 = .ok (.iload_n 3, 1) := by decide +kernel
theorem dX7_mayBe_57 : decode cX7_mayBe 57 = .ok (.imul, 1) := by decide +kernel
theorem dX7_mayBe_58 : decode cX7_mayBe 58 = .ok (.istore 4, 2) := by decide +kernel
theorem dX7_mayBe_60 : decode cX7_mayBe 60 = .ok (.iload 4, 2) := by decide +kernel
theorem dX7_mayBe_62 : decode cX7_mayBe 62 = .ok (.bipush 20, 2) := by decide +kernel
theorem dX7_mayBe_64 : decode cX7_mayBe 64 = .ok (.iload_n 3, 1) := by decide +kernel
theorem dX7_mayBe_65 : decode cX7_mayBe 65 = .ok (.imul, 1) := by decide +kernel
theorem dX7_mayBe_66 : decode cX7_mayBe 66 = .ok (.aload_n 0, 1) := by decide +kernel
theorem dX7_mayBe_67 : decode cX7_mayBe 67 = .ok (.getfield 16, 3) := by decide +kernel
theorem dX7_mayBe_70 : decode cX7_mayBe 70 = .ok (.iload_n 3, 1) := by decide +kernel
theorem dX7_mayBe_71 : decode cX7_mayBe 71 = .ok (.iaload, 1) := by decide +kernel
theorem dX7_mayBe_72 : decode cX7_mayBe 72 = .ok (.iadd, 1) := by decide +kernel
theorem dX7_mayBe_73 : decode cX7_mayBe 73 = .ok (.if_icmp .ge 72, 3) := by decide +kernel
theorem dX7_mayBe_76 : decode cX7_mayBe 76 = .ok (.aload_n 0, 1) := by decide +kernel
theorem dX7_mayBe_77 : decode cX7_mayBe 77 = .ok (.getfield 33, 3) := by decide +kernel
theorem dX7_mayBe_80 : decode cX7_mayBe 80 = .ok (.iload_n 2, 1) := by decide +kernel
theorem dX7_mayBe_81 : decode cX7_mayBe 81 = .ok (.iaload, 1) := by decide +kernel
theorem dX7_mayBe_82 : decode cX7_mayBe 82 = .ok (.aload_n 0, 1) := by decide +kernel
theorem dX7_mayBe_83 : decode cX7_mayBe 83 = .ok (.getfield 36, 3) := by decide +kernel
theorem dX7_mayBe_86 : decode cX7_mayBe 86 = .ok (.iload_n 2, 1) := by decide +kernel
theorem dX7_mayBe_87 : decode cX7_mayBe 87 = .ok (.iaload, 1) := by decide +kernel
theorem dX7_mayBe_88 : decode cX7_mayBe 88 = .ok (.aload_n 0, 1) := by decide +kernel
theorem dX7_mayBe_89 : decode cX7_mayBe 89 = .ok (.getfield 33, 3) := by decide +kernel
theorem dX7_mayBe_92 : decode cX7_mayBe 92 = .ok (.iload 4, 2) := by decide +kernel
theorem dX7_mayBe_94 : decode cX7_mayBe 94 = .ok (.iaload, 1) := by decide +kernel
theorem dX7_mayBe_95 : decode cX7_mayBe 95 = .ok (.aload_n 0, 1) := by decide +kernel
theorem dX7_mayBe_96 : decode cX7_mayBe 96 = .ok (.getfield 36, 3) := by decide +kernel
theorem dX7_mayBe_99 : decode cX7_mayBe 99 = .ok (.iload 4, 2) := by decide +kernel
theorem dX7_mayBe_101 : decode cX7_mayBe 101 = .ok (.iaload, 1) := by decide +kernel
theorem dX7_mayBe_102 : decode cX7_mayBe 102 = .ok (.invokestatic 119, 3) := by decide +kernel
theorem dX7_mayBe_105 : decode cX7_mayBe 105 = .ok (.aload_n 0, 1) := by decide +kernel
theorem dX7_mayBe_106 : decode cX7_mayBe 106 = .ok (.getfield 57, 3) := by decide +kernel
theorem dX7_mayBe_109 : decode cX7_mayBe 109 = .ok (.iconst 0, 1) := by decide +kernel
theorem dX7_mayBe_110 : decode cX7_mayBe 110 = .ok (.iaload, 1) := by decide +kernel
theorem dX7_mayBe_111 : decode cX7_mayBe 111 = .ok (.if_icmp .ge 28, 3) := by decide +kernel
theorem dX7_mayBe_114 : decode cX7_mayBe 114 = .ok (.aload_n 0, 1) := by decide +kernel
theorem dX7_mayBe_115 : decode cX7_mayBe 115 = .ok (.getfield 39, 3) := by decide +kernel
theorem dX7_mayBe_118 : decode cX7_mayBe 118 = .ok (.iload_n 2, 1) := by decide +kernel
theorem dX7_mayBe_119 : decode cX7_mayBe 119 = .ok (.iaload, 1) := by decide +kernel
theorem dX7_mayBe_120 : decode cX7_mayBe 120 = .ok (.aload_n 0, 1) := by decide +kernel
theorem dX7_mayBe_121 : decode cX7_mayBe 121 = .ok (.getfield 39, 3) := by decide +kernel
theorem dX7_mayBe_124 : decode cX7_mayBe 124 = .ok (.iload 4, 2) := by decide +kernel
theorem dX7_mayBe_126 : decode cX7_mayBe 126 = .ok (.iaload, 1) := by decide +kernel
theorem dX7_mayBe_127 : decode cX7_mayBe 127 = .ok (.aload_n 0, 1) := by decide +kernel
theorem dX7_mayBe_128 : decode cX7_mayBe 128 = .ok (.getfield 57, 3) := by decide +kernel
theorem dX7_mayBe_131 : decode cX7_mayBe 131 = .ok (.iconst 1, 1) := by decide +kernel
theorem dX7_mayBe_132 : decode cX7_mayBe 132 = .ok (.iaload, 1) := by decide +kernel
theorem dX7_mayBe_133 : decode cX7_mayBe 133 = .ok (.iadd, 1) := by decide +kernel
theorem dX7_mayBe_134 : decode cX7_mayBe 134 = .ok (.if_icmp .ge 5, 3) := by decide +kernel
theorem dX7_mayBe_137 : decode cX7_mayBe 137 = .ok (.iconst 0, 1) := by decide +kernel
theorem dX7_mayBe_138 : decode cX7_mayBe 138 = .ok (.ireturn, 1) := by decide +kernel
theorem dX7_mayBe_139 : decode cX7_mayBe 139 = .ok (.iinc 4 1, 3) := by decide +kernel
theorem dX7_mayBe_142 : decode cX7_mayBe 142 = .ok (.goto (-82), 3) := by decide +kernel
theorem dX7_mayBe_145 : decode cX7_mayBe 145 = .ok (.iinc 3 1, 3) := by decide +kernel
theorem dX7_mayBe_148 : decode cX7_mayBe 148 = .ok (.goto (-114), 3) := by decide +kernel
theorem dX7_mayBe_151 : decode cX7_mayBe 151 = .ok (.iinc 2 1, 3) := by decide +kernel
theorem dX7_mayBe_154 : decode cX7_mayBe 154 = .ok (.goto (-137), 3) := by decide +kernel
theorem dX7_mayBe_157 : decode cX7_mayBe 157 = .ok (.iconst 1, 1) := by decide +kernel
theorem dX7_mayBe_158 : decode cX7_mayBe 158 = .ok (.ireturn, 1) := by decide +kernel
set_option maxRecDepth 20000 in
theorem ggX7_may_X7_noChannel : GoodIn wsX7_may wsX7_noChannel := goodIn_r _ [7, 8, 9, 10, 6, 11, 35, 36, 37, 38, 39, 40, 41, 42, 43, 44, 45, 46, 47, 48, 49, 50, 51, 52, 53, 54, 55, 56, 57, 58, 59, 60, 61, 62, 63, 64, 65, 66, 67, 68, 69, 70] (by decide +kernel) (by decide +kernel)
set_option maxRecDepth 20000 in
theorem gX7_may_X7_noChannel : GoodIn wsX7_may (wsV RX7 98 RX7 yX7_noChannel wsX7_noChannel) := goodIn_app (goodIn_of _ (by decide +kernel)) ggX7_may_X7_noChannel
set_option maxRecDepth 20000 in
theorem ggX7_may_X7_throwsIf : GoodIn wsX7_may wsX7_throwsIf := goodIn_r _ [15, 1, 35, 36, 37, 38, 39, 40, 41, 42, 43, 44, 45, 46, 47, 48, 49, 50, 51, 52, 53, 54, 55, 56, 57, 58, 59, 60, 61, 62, 63, 64, 65, 66, 67, 68, 69, 70] (by decide +kernel) (by decide +kernel)
set_option maxRecDepth 20000 in
theorem gX7_may_X7_throwsIf : GoodIn wsX7_may (wsV RX7 105 RX7 yX7_throwsIf wsX7_throwsIf) := goodIn_app (goodIn_of _ (by decide +kernel)) ggX7_may_X7_throwsIf
set_option maxRecDepth 20000 in
theorem ggX7_may_X7_mayBe : GoodIn wsX7_may wsX7_mayBe := goodIn_r _ [19, 20, 8, 2, 21, 22, 23, 24, 25, 26, 6, 27, 28, 29, 30, 31, 32, 33, 34, 35, 36, 37, 38, 39, 40, 41, 42, 43, 44, 45, 46, 47, 48, 49, 50, 51, 52, 53, 54, 55, 56, 57, 58, 59, 60, 61, 62, 63, 64, 65, 66, 67, 68, 69, 70] (by decide +kernel) (by decide +kernel)
set_option maxRecDepth 20000 in
theorem gX7_may_X7_mayBe : GoodIn wsX7_may (wsV RX7 123 RX7 yX7_mayBe wsX7_mayBe) := goodIn_app (goodIn_of _ (by decide +kernel)) ggX7_may_X7_mayBe
theorem dX7_may_0 : decode cX7_may 0 = .ok (.aload_n 0, 1) := by decide +kernel
theorem dX7_may_1 : decode cX7_may 1 = .ok (.iconst 0, 1) := by decide +kernel
theorem dX7_may_2 : decode cX7_may 2 = .ok (.putfield 88, 3) := by decide +kernel
theorem dX7_may_5 : decode cX7_may 5 = .ok (.aload_n 0, 1) := by decide +kernel
theorem dX7_may_6 : decode cX7_may 6 = .ok (.aload_n 0, 1) := by decide +kernel
theorem dX7_may_7 : decode cX7_may 7 = .ok (.iload_n 1, 1) := by decide +kernel
theorem dX7_may_8 : decode cX7_may 8 = .ok (.invokevirtual 98, 3) := by decide +kernel
theorem dX7_may_11 : decode cX7_may 11 = .ok (.iconst 1, 1) := by decide +kernel
theorem dX7_may_12 : decode cX7_may 12 = .ok (.invokevirtual 105, 3) := by decide +kernel
theorem dX7_may_15 : decode cX7_may 15 = .ok (.ifCond .ne 29, 3) := by decide +kernel
theorem dX7_may_18 : decode cX7_may 18 = .ok (.aload_n 0, 1) := by decide +kernel
theorem dX7_may_19 : decode cX7_may 19 = .ok (.aload_n 0, 1) := by decide +kernel
theorem dX7_may_20 : decode cX7_may 20 = .ok (.getfield 20, 3) := by decide +kernel
theorem dX7_may_23 : decode cX7_may 23 = .ok (.iload_n 1, 1) := by decide +kernel
theorem dX7_may_24 : decode cX7_may 24 = .ok (.baload, 1) := by decide +kernel
theorem dX7_may_25 : decode cX7_may 25 = .ok (.iconst 2, 1) := by decide +kernel
theorem dX7_may_26 : decode cX7_may 26 = .ok (.invokevirtual 105, 3) := by decide +kernel
theorem dX7_may_29 : decode cX7_may 29 = .ok (.ifCond .ne 15, 3) := by decide +kernel
theorem dX7_may_32 : decode cX7_may 32 = .ok (.aload_n 0, 1) := by decide +kernel
theorem dX7_may_33 : decode cX7_may 33 = .ok (.iload_n 1, 1) := by decide +kernel
theorem dX7_may_34 : decode cX7_may 34 = .ok (.invokevirtual 123, 3) := by decide +kernel
theorem dX7_may_37 : decode cX7_may 37 = .ok (.ifCond .eq 7, 3) := by decide +kernel
theorem dX7_may_40 : decode cX7_may 40 = .ok (.iconst 1, 1) := by decide +kernel
theorem dX7_may_41 : decode cX7_may 41 = .ok (.goto 4, 3) := by decide +kernel
theorem dX7_may_44 : decode cX7_may 44 = .ok (.iconst 0, 1) := by decide +kernel
theorem dX7_may_45 : decode cX7_may 45 = .ok (.ireturn, 1) := by decide +kernel
set_option maxRecDepth 20000 in
theorem ggX7_dig_X7_noChannel : GoodIn wsX7_dig wsX7_noChannel := goodIn_r _ [13, 14, 15, 16, 12, 17, 50, 51, 52, 53, 54, 55, 56, 57, 58, 59, 60, 61, 62, 63, 64, 65, 66, 67, 68, 69, 70, 71, 72, 73, 74, 75, 76, 77, 78, 79, 80, 81, 82, 83, 84, 85] (by decide +kernel) (by decide +kernel)
set_option maxRecDepth 20000 in
theorem gX7_dig_X7_noChannel : GoodIn wsX7_dig (wsV RX7 98 RX7 yX7_noChannel wsX7_noChannel) := goodIn_app (goodIn_of _ (by decide +kernel)) ggX7_dig_X7_noChannel
set_option maxRecDepth 20000 in
theorem ggX7_dig_X7_throwsIf : GoodIn wsX7_dig wsX7_throwsIf := goodIn_r _ [21, 1, 50, 51, 52, 53, 54, 55, 56, 57, 58, 59, 60, 61, 62, 63, 64, 65, 66, 67, 68, 69, 70, 71, 72, 73, 74, 75, 76, 77, 78, 79, 80, 81, 82, 83, 84, 85] (by decide +kernel) (by decide +kernel)
set_option maxRecDepth 20000 in
theorem gX7_dig_X7_throwsIf : GoodIn wsX7_dig (wsV RX7 105 RX7 yX7_throwsIf wsX7_throwsIf) := goodIn_app (goodIn_of _ (by decide +kernel)) ggX7_dig_X7_throwsIf
set_option maxRecDepth 20000 in
theorem ggX7_dig_X7_in : GoodIn wsX7_dig wsX7_in := goodIn_r _ [17] (by decide +kernel) (by decide +kernel)
set_option maxRecDepth 20000 in
theorem gX7_dig_X7_in : GoodIn wsX7_dig (va_wsS RX7 94 yX7_in wsX7_in) := goodIn_app (goodIn_of _ (by decide +kernel)) ggX7_dig_X7_in
set_option maxRecDepth 20000 in
theorem ggX7_dig_X7_mayBe : GoodIn wsX7_dig wsX7_mayBe := goodIn_r _ [25, 26, 14, 2, 27, 28, 29, 30, 31, 32, 12, 33, 34, 35, 36, 37, 38, 39, 40, 50, 51, 52, 53, 54, 55, 56, 57, 58, 59, 60, 61, 62, 63, 64, 65, 66, 67, 68, 69, 70, 71, 72, 73, 74, 75, 76, 77, 78, 79, 80, 81, 82, 83, 84, 85] (by decide +kernel) (by decide +kernel)
set_option maxRecDepth 20000 in
theorem gX7_dig_X7_mayBe : GoodIn wsX7_dig (wsV RX7 123 RX7 yX7_mayBe wsX7_mayBe) := goodIn_app (goodIn_of _ (by decide +kernel)) ggX7_dig_X7_mayBe
set_option maxRecDepth 20000 in
theorem ggX7_dig_X7_adds : GoodIn wsX7_dig wsX7_adds := goodIn_r _ [44, 45, 3, 46, 47, 48, 12, 49, 50, 51, 52, 53, 54, 55, 56, 57, 58, 59, 60, 61, 62, 63, 64, 65, 66, 67, 68, 69, 70, 71, 72, 73, 74, 75, 76, 77, 78, 79, 80, 81, 82, 83, 84, 85] (by decide +kernel) (by decide +kernel)
set_option maxRecDepth 20000 in
theorem gX7_dig_X7_adds : GoodIn wsX7_dig (wsV RX7 132 RX7 yX7_adds wsX7_adds) := goodIn_app (goodIn_of _ (by decide +kernel)) ggX7_dig_X7_adds
theorem dX7_dig_0 : decode cX7_dig 0 = .ok (.aload_n 0, 1) := by decide +kernel
theorem dX7_dig_1 : decode cX7_dig 1 = .ok (.iconst 0, 1) := by decide +kernel
theorem dX7_dig_2 : decode cX7_dig 2 = .ok (.putfield 88, 3) := by decide +kernel
theorem dX7_dig_5 : decode cX7_dig 5 = .ok (.aload_n 0, 1) := by decide +kernel
theorem dX7_dig_6 : decode cX7_dig 6 = .ok (.aload_n 0, 1) := by decide +kernel
theorem dX7_dig_7 : decode cX7_dig 7 = .ok (.iload_n 1, 1) := by decide +kernel
theorem dX7_dig_8 : decode cX7_dig 8 = .ok (.invokevirtual 98, 3) := by decide +kernel
theorem dX7_dig_11 : decode cX7_dig 11 = .ok (.iconst 1, 1) := by decide +kernel
theorem dX7_dig_12 : decode cX7_dig 12 = .ok (.invokevirtual 105, 3) := by decide +kernel
theorem dX7_dig_15 : decode cX7_dig 15 = .ok (.ifCond .ne 50, 3) := by decide +kernel
theorem dX7_dig_18 : decode cX7_dig 18 = .ok (.aload_n 0, 1) := by decide +kernel
theorem dX7_dig_19 : decode cX7_dig 19 = .ok (.aload_n 0, 1) := by decide +kernel
theorem dX7_dig_20 : decode cX7_dig 20 = .ok (.getfield 20, 3) := by decide +kernel
theorem dX7_dig_23 : decode cX7_dig 23 = .ok (.iload_n 1, 1) := by decide +kernel
theorem dX7_dig_24 : decode cX7_dig 24 = .ok (.baload, 1) := by decide +kernel
theorem dX7_dig_25 : decode cX7_dig 25 = .ok (.iconst 2, 1) := by decide +kernel
theorem dX7_dig_26 : decode cX7_dig 26 = .ok (.invokevirtual 105, 3) := by decide +kernel
theorem dX7_dig_29 : decode cX7_dig 29 = .ok (.ifCond .ne 36, 3) := by decide +kernel
theorem dX7_dig_32 : decode cX7_dig 32 = .ok (.aload_n 0, 1) := by decide +kernel
theorem dX7_dig_33 : decode cX7_dig 33 = .ok (.iload_n 2, 1) := by decide +kernel
theorem dX7_dig_34 : decode cX7_dig 34 = .ok (.iconst 0, 1) := by decide +kernel
theorem dX7_dig_35 : decode cX7_dig 35 = .ok (.bipush 30, 2) := by decide +kernel
theorem dX7_dig_37 : decode cX7_dig 37 = .ok (.invokestatic 94, 3) := by decide +kernel
theorem dX7_dig_40 : decode cX7_dig 40 = .ok (.ifCond .eq 13, 3) := by decide +kernel
theorem dX7_dig_43 : decode cX7_dig 43 = .ok (.iload_n 3, 1) := by decide +kernel
theorem dX7_dig_44 : decode cX7_dig 44 = .ok (.iconst 1, 1) := by decide +kernel
theorem dX7_dig_45 : decode cX7_dig 45 = .ok (.bipush 15, 2) := by decide +kernel
theorem dX7_dig_47 : decode cX7_dig 47 = .ok (.invokestatic 94, 3) := by decide +kernel
theorem dX7_dig_50 : decode cX7_dig 50 = .ok (.ifCond .ne 7, 3) := by decide +kernel
theorem dX7_dig_53 : decode cX7_dig 53 = .ok (.iconst 1, 1) := by decide +kernel
theorem dX7_dig_54 : decode cX7_dig 54 = .ok (.goto 4, 3) := by decide +kernel
theorem dX7_dig_57 : decode cX7_dig 57 = .ok (.iconst 0, 1) := by decide +kernel
theorem dX7_dig_58 : decode cX7_dig 58 = .ok (.iconst 3, 1) := by decide +kernel
theorem dX7_dig_59 : decode cX7_dig 59 = .ok (.invokevirtual 105, 3) := by decide +kernel
theorem dX7_dig_62 : decode cX7_dig 62 = .ok (.ifCond .eq 5, 3) := by decide +kernel
theorem dX7_dig_65 : decode cX7_dig 65 = .ok (.iconst 0, 1) := by decide +kernel
theorem dX7_dig_66 : decode cX7_dig 66 = .ok (.ireturn, 1) := by decide +kernel
theorem dX7_dig_67 : decode cX7_dig 67 = .ok (.aload_n 0, 1) := by decide +kernel
theorem dX7_dig_68 : decode cX7_dig 68 = .ok (.iload_n 1, 1) := by decide +kernel
theorem dX7_dig_69 : decode cX7_dig 69 = .ok (.invokevirtual 123, 3) := by decide +kernel
theorem dX7_dig_72 : decode cX7_dig 72 = .ok (.ifCond .eq 12, 3) := by decide +kernel
theorem dX7_dig_75 : decode cX7_dig 75 = .ok (.aload_n 0, 1) := by decide +kernel
theorem dX7_dig_76 : decode cX7_dig 76 = .ok (.getfield 102, 3) := by decide +kernel
theorem dX7_dig_79 : decode cX7_dig 79 = .ok (.bipush 60, 2) := by decide +kernel
theorem dX7_dig_81 : decode cX7_dig 81 = .ok (.if_icmp .ne 5, 3) := by decide +kernel
theorem dX7_dig_84 : decode cX7_dig 84 = .ok (.iconst (-1), 1) := by decide +kernel
theorem dX7_dig_85 : decode cX7_dig 85 = .ok (.ireturn, 1) := by decide +kernel
theorem dX7_dig_86 : decode cX7_dig 86 = .ok (.aload_n 0, 1) := by decide +kernel
theorem dX7_dig_87 : decode cX7_dig 87 = .ok (.getfield 20, 3) := by decide +kernel
theorem dX7_dig_90 : decode cX7_dig 90 = .ok (.iload_n 1, 1) := by decide +kernel
theorem dX7_dig_91 : decode cX7_dig 91 = .ok (.iconst 1, 1) := by decide +kernel
theorem dX7_dig_92 : decode cX7_dig 92 = .ok (.bastore, 1) := by decide +kernel
theorem dX7_dig_93 : decode cX7_dig 93 = .ok (.aload_n 0, 1) := by decide +kernel
theorem dX7_dig_94 : decode cX7_dig 94 = .ok (.getfield 24, 3) := by decide +kernel
theorem dX7_dig_97 : decode cX7_dig 97 = .ok (.iload_n 1, 1) := by decide +kernel
theorem dX7_dig_98 : decode cX7_dig 98 = .ok (.aload_n 0, 1) := by decide +kernel
theorem dX7_dig_99 : decode cX7_dig 99 = .ok (.getfield 126, 3) := by decide +kernel
theorem dX7_dig_102 : decode cX7_dig 102 = .ok (.iastore, 1) := by decide +kernel
theorem dX7_dig_103 : decode cX7_dig 103 = .ok (.aload_n 0, 1) := by decide +kernel
theorem dX7_dig_104 : decode cX7_dig 104 = .ok (.getfield 27, 3) := by decide +kernel
theorem dX7_dig_107 : decode cX7_dig 107 = .ok (.iload_n 1, 1) := by decide +kernel
theorem dX7_dig_108 : decode cX7_dig 108 = .ok (.aload_n 0, 1) := by decide +kernel
theorem dX7_dig_109 : decode cX7_dig 109 = .ok (.getfield 129, 3) := by decide +kernel
theorem dX7_dig_112 : decode cX7_dig 112 = .ok (.iastore, 1) := by decide +kernel
theorem dX7_dig_113 : decode cX7_dig 113 = .ok (.aload_n 0, 1) := by decide +kernel
theorem dX7_dig_114 : decode cX7_dig 114 = .ok (.dup, 1) := by decide +kernel
theorem dX7_dig_115 : decode cX7_dig 115 = .ok (.getfield 129, 3) := by decide +kernel
theorem dX7_dig_118 : decode cX7_dig 118 = .ok (.iconst 1, 1) := by decide +kernel
theorem dX7_dig_119 : decode cX7_dig 119 = .ok (.iadd, 1) := by decide +kernel
theorem dX7_dig_120 : decode cX7_dig 120 = .ok (.putfield 129, 3) := by decide +kernel
theorem dX7_dig_123 : decode cX7_dig 123 = .ok (.aload_n 0, 1) := by decide +kernel
theorem dX7_dig_124 : decode cX7_dig 124 = .ok (.getfield 30, 3) := by decide +kernel
theorem dX7_dig_127 : decode cX7_dig 127 = .ok (.iload_n 1, 1) := by decide +kernel
theorem dX7_dig_128 : decode cX7_dig 128 = .ok (.sipush 1440, 3) := by decide +kernel
theorem dX7_dig_131 : decode cX7_dig 131 = .ok (.iload_n 3, 1) := by decide +kernel
theorem dX7_dig_132 : decode cX7_dig 132 = .ok (.imul, 1) := by decide +kernel
theorem dX7_dig_133 : decode cX7_dig 133 = .ok (.iastore, 1) := by decide +kernel
theorem dX7_dig_134 : decode cX7_dig 134 = .ok (.aload_n 0, 1) := by decide +kernel
theorem dX7_dig_135 : decode cX7_dig 135 = .ok (.iload_n 1, 1) := by decide +kernel
theorem dX7_dig_136 : decode cX7_dig 136 = .ok (.iconst 0, 1) := by decide +kernel
theorem dX7_dig_137 : decode cX7_dig 137 = .ok (.aload_n 0, 1) := by decide +kernel
theorem dX7_dig_138 : decode cX7_dig 138 = .ok (.getfield 30, 3) := by decide +kernel
theorem dX7_dig_141 : decode cX7_dig 141 = .ok (.iload_n 1, 1) := by decide +kernel
theorem dX7_dig_142 : decode cX7_dig 142 = .ok (.iaload, 1) := by decide +kernel
theorem dX7_dig_143 : decode cX7_dig 143 = .ok (.iload_n 2, 1) := by decide +kernel
theorem dX7_dig_144 : decode cX7_dig 144 = .ok (.invokevirtual 132, 3) := by decide +kernel
theorem dX7_dig_147 : decode cX7_dig 147 = .ok (.aload_n 0, 1) := by decide +kernel
theorem dX7_dig_148 : decode cX7_dig 148 = .ok (.getfield 102, 3) := by decide +kernel
theorem dX7_dig_151 : decode cX7_dig 151 = .ok (.iconst 1, 1) := by decide +kernel
theorem dX7_dig_152 : decode cX7_dig 152 = .ok (.isub, 1) := by decide +kernel
theorem dX7_dig_153 : decode cX7_dig 153 = .ok (.ireturn, 1) := by decide +kernel
set_option maxRecDepth 20000 in
theorem ggX7_years_X7_in : GoodIn wsX7_years wsX7_in := goodIn_r _ [6] (by decide +kernel) (by decide +kernel)
set_option maxRecDepth 20000 in
theorem gX7_years_X7_in : GoodIn wsX7_years (va_wsS RX7 94 yX7_in wsX7_in) := goodIn_app (goodIn_of _ (by decide +kernel)) ggX7_years_X7_in
set_option maxRecDepth 20000 in
theorem ggX7_years_X7_throwsIf : GoodIn wsX7_years wsX7_throwsIf := goodIn_r _ [10, 1, 11, 12, 13, 14, 15, 16, 17, 18, 19, 20, 21, 22, 23, 24, 25, 26, 27, 28, 29, 30, 31, 32, 33, 34, 35, 36, 37, 38, 39, 40, 41, 42, 43, 44, 45, 46] (by decide +kernel) (by decide +kernel)
set_option maxRecDepth 20000 in
theorem gX7_years_X7_throwsIf : GoodIn wsX7_years (wsV RX7 105 RX7 yX7_throwsIf wsX7_throwsIf) := goodIn_app (goodIn_of _ (by decide +kernel)) ggX7_years_X7_throwsIf
theorem dX7_years_0 : decode cX7_years 0 = .ok (.aload_n 0, 1) := by decide +kernel
theorem dX7_years_1 : decode cX7_years 1 = .ok (.iconst 0, 1) := by decide +kernel
theorem dX7_years_2 : decode cX7_years 2 = .ok (.putfield 88, 3) := by decide +kernel
theorem dX7_years_5 : decode cX7_years 5 = .ok (.aload_n 0, 1) := by decide +kernel
theorem dX7_years_6 : decode cX7_years 6 = .ok (.iload_n 1, 1) := by decide +kernel
theorem dX7_years_7 : decode cX7_years 7 = .ok (.iconst 0, 1) := by decide +kernel
theorem dX7_years_8 : decode cX7_years 8 = .ok (.bipush 100, 2) := by decide +kernel
theorem dX7_years_10 : decode cX7_years 10 = .ok (.invokestatic 94, 3) := by decide +kernel
theorem dX7_years_13 : decode cX7_years 13 = .ok (.ifCond .ne 7, 3) := by decide +kernel
theorem dX7_years_16 : decode cX7_years 16 = .ok (.iconst 1, 1) := by decide +kernel
theorem dX7_years_17 : decode cX7_years 17 = .ok (.goto 4, 3) := by decide +kernel
theorem dX7_years_20 : decode cX7_years 20 = .ok (.iconst 0, 1) := by decide +kernel
theorem dX7_years_21 : decode cX7_years 21 = .ok (.iconst 1, 1) := by decide +kernel
theorem dX7_years_22 : decode cX7_years 22 = .ok (.invokevirtual 105, 3) := by decide +kernel
theorem dX7_years_25 : decode cX7_years 25 = .ok (.ifCond .eq 5, 3) := by decide +kernel
theorem dX7_years_28 : decode cX7_years 28 = .ok (.iconst 0, 1) := by decide +kernel
theorem dX7_years_29 : decode cX7_years 29 = .ok (.ireturn, 1) := by decide +kernel
theorem dX7_years_30 : decode cX7_years 30 = .ok (.aload_n 0, 1) := by decide +kernel
theorem dX7_years_31 : decode cX7_years 31 = .ok (.dup, 1) := by decide +kernel
theorem dX7_years_32 : decode cX7_years 32 = .ok (.getfield 126, 3) := by decide +kernel
theorem dX7_years_35 : decode cX7_years 35 = .ok (.iload_n 1, 1) := by decide +kernel
theorem dX7_years_36 : decode cX7_years 36 = .ok (.iadd, 1) := by decide +kernel
theorem dX7_years_37 : decode cX7_years 37 = .ok (.putfield 126, 3) := by decide +kernel
theorem dX7_years_40 : decode cX7_years 40 = .ok (.aload_n 0, 1) := by decide +kernel
theorem dX7_years_41 : decode cX7_years 41 = .ok (.getfield 126, 3) := by decide +kernel
theorem dX7_years_44 : decode cX7_years 44 = .ok (.ireturn, 1) := by decide +kernel
set_option maxRecDepth 20000 in
theorem ggX7_collapse_X7_noWell : GoodIn wsX7_collapse wsX7_noWell := goodIn_r _ [8, 9, 10, 11, 12, 7, 13, 14, 15, 16, 17, 22, 23, 24, 25, 26, 27, 28, 29, 30, 31, 32, 33, 34, 35, 36, 37, 38, 39, 40, 41, 42, 43, 44, 45, 46, 47, 48, 49, 50, 51, 52, 53, 54, 55, 56, 57] (by decide +kernel) (by decide +kernel)
set_option maxRecDepth 20000 in
theorem gX7_collapse_X7_noWell : GoodIn wsX7_collapse (wsV RX7 136 RX7 yX7_noWell wsX7_noWell) := goodIn_app (goodIn_of _ (by decide +kernel)) ggX7_collapse_X7_noWell
set_option maxRecDepth 20000 in
theorem ggX7_collapse_X7_throwsIf : GoodIn wsX7_collapse wsX7_throwsIf := goodIn_r _ [21, 1, 22, 23, 24, 25, 26, 27, 28, 29, 30, 31, 32, 33, 34, 35, 36, 37, 38, 39, 40, 41, 42, 43, 44, 45, 46, 47, 48, 49, 50, 51, 52, 53, 54, 55, 56, 57] (by decide +kernel) (by decide +kernel)
set_option maxRecDepth 20000 in
theorem gX7_collapse_X7_throwsIf : GoodIn wsX7_collapse (wsV RX7 105 RX7 yX7_throwsIf wsX7_throwsIf) := goodIn_app (goodIn_of _ (by decide +kernel)) ggX7_collapse_X7_throwsIf
theorem dX7_collapse_0 : decode cX7_collapse 0 = .ok (.aload_n 0, 1) := by decide +kernel
theorem dX7_collapse_1 : decode cX7_collapse 1 = .ok (.iconst 0, 1) := by decide +kernel
theorem dX7_collapse_2 : decode cX7_collapse 2 = .ok (.putfield 88, 3) := by decide +kernel
theorem dX7_collapse_5 : decode cX7_collapse 5 = .ok (.aload_n 0, 1) := by decide +kernel
theorem dX7_collapse_6 : decode cX7_collapse 6 = .ok (.aload_n 0, 1) := by decide +kernel
theorem dX7_collapse_7 : decode cX7_collapse 7 = .ok (.iload_n 1, 1) := by decide +kernel
theorem dX7_collapse_8 : decode cX7_collapse 8 = .ok (.iload_n 2, 1) := by decide +kernel
theorem dX7_collapse_9 : decode cX7_collapse 9 = .ok (.invokevirtual 136, 3) := by decide +kernel
theorem dX7_collapse_12 : decode cX7_collapse 12 = .ok (.iconst 1, 1) := by decide +kernel
theorem dX7_collapse_13 : decode cX7_collapse 13 = .ok (.invokevirtual 105, 3) := by decide +kernel
theorem dX7_collapse_16 : decode cX7_collapse 16 = .ok (.ifCond .ne 25, 3) := by decide +kernel
theorem dX7_collapse_19 : decode cX7_collapse 19 = .ok (.aload_n 0, 1) := by decide +kernel
theorem dX7_collapse_20 : decode cX7_collapse 20 = .ok (.aload_n 0, 1) := by decide +kernel
theorem dX7_collapse_21 : decode cX7_collapse 21 = .ok (.getfield 20, 3) := by decide +kernel
theorem dX7_collapse_24 : decode cX7_collapse 24 = .ok (.iload_n 1, 1) := by decide +kernel
theorem dX7_collapse_25 : decode cX7_collapse 25 = .ok (.baload, 1) := by decide +kernel
theorem dX7_collapse_26 : decode cX7_collapse 26 = .ok (.ifCond .ne 7, 3) := by decide +kernel
theorem dX7_collapse_29 : decode cX7_collapse 29 = .ok (.iconst 1, 1) := by decide +kernel
theorem dX7_collapse_30 : decode cX7_collapse 30 = .ok (.goto 4, 3) := by decide +kernel
theorem dX7_collapse_33 : decode cX7_collapse 33 = .ok (.iconst 0, 1) := by decide +kernel
theorem dX7_collapse_34 : decode cX7_collapse 34 = .ok (.iconst 2, 1) := by decide +kernel
theorem dX7_collapse_35 : decode cX7_collapse 35 = .ok (.invokevirtual 105, 3) := by decide +kernel
theorem dX7_collapse_38 : decode cX7_collapse 38 = .ok (.ifCond .eq 5, 3) := by decide +kernel
theorem dX7_collapse_41 : decode cX7_collapse 41 = .ok (.iconst 0, 1) := by decide +kernel
theorem dX7_collapse_42 : decode cX7_collapse 42 = .ok (.ireturn, 1) := by decide +kernel
theorem dX7_collapse_43 : decode cX7_collapse 43 = .ok (.aload_n 0, 1) := by decide +kernel
theorem dX7_collapse_44 : decode cX7_collapse 44 = .ok (.getfield 42, 3) := by decide +kernel
theorem dX7_collapse_47 : decode cX7_collapse 47 = .ok (.bipush 20, 2) := by decide +kernel
theorem dX7_collapse_49 : decode cX7_collapse 49 = .ok (.iload_n 1, 1) := by decide +kernel
theorem dX7_collapse_50 : decode cX7_collapse 50 = .ok (.imul, 1) := by decide +kernel
theorem dX7_collapse_51 : decode cX7_collapse 51 = .ok (.iload_n 2, 1) := by decide +kernel
theorem dX7_collapse_52 : decode cX7_collapse 52 = .ok (.iadd, 1) := by decide +kernel
theorem dX7_collapse_53 : decode cX7_collapse 53 = .ok (.baload, 1) := by decide +kernel
theorem dX7_collapse_54 : decode cX7_collapse 54 = .ok (.istore 4, 2) := by decide +kernel
theorem dX7_collapse_56 : decode cX7_collapse 56 = .ok (.aload_n 0, 1) := by decide +kernel
theorem dX7_collapse_57 : decode cX7_collapse 57 = .ok (.getfield 42, 3) := by decide +kernel
theorem dX7_collapse_60 : decode cX7_collapse 60 = .ok (.bipush 20, 2) := by decide +kernel
theorem dX7_collapse_62 : decode cX7_collapse 62 = .ok (.iload_n 1, 1) := by decide +kernel
theorem dX7_collapse_63 : decode cX7_collapse 63 = .ok (.imul, 1) := by decide +kernel
theorem dX7_collapse_64 : decode cX7_collapse 64 = .ok (.iload_n 2, 1) := by decide +kernel
theorem dX7_collapse_65 : decode cX7_collapse 65 = .ok (.iadd, 1) := by decide +kernel
theorem dX7_collapse_66 : decode cX7_collapse 66 = .ok (.iload_n 3, 1) := by decide +kernel
theorem dX7_collapse_67 : decode cX7_collapse 67 = .ok (.bastore, 1) := by decide +kernel
theorem dX7_collapse_68 : decode cX7_collapse 68 = .ok (.iload 4, 2) := by decide +kernel
theorem dX7_collapse_70 : decode cX7_collapse 70 = .ok (.iload_n 3, 1) := by decide +kernel
theorem dX7_collapse_71 : decode cX7_collapse 71 = .ok (.if_icmp .eq 7, 3) := by decide +kernel
theorem dX7_collapse_74 : decode cX7_collapse 74 = .ok (.iconst 1, 1) := by decide +kernel
theorem dX7_collapse_75 : decode cX7_collapse 75 = .ok (.goto 4, 3) := by decide +kernel
theorem dX7_collapse_78 : decode cX7_collapse 78 = .ok (.iconst 0, 1) := by decide +kernel
theorem dX7_collapse_79 : decode cX7_collapse 79 = .ok (.ireturn, 1) := by decide +kernel
theorem dX7_runs_0 : decode cX7_runs 0 = .ok (.iconst 0, 1) := by decide +kernel
theorem dX7_runs_1 : decode cX7_runs 1 = .ok (.istore_n 2, 1) := by decide +kernel
theorem dX7_runs_2 : decode cX7_runs 2 = .ok (.iload_n 2, 1) := by decide +kernel
theorem dX7_runs_3 : decode cX7_runs 3 = .ok (.aload_n 0, 1) := by decide +kernel
theorem dX7_runs_4 : decode cX7_runs 4 = .ok (.getfield 16, 3) := by decide +kernel
theorem dX7_runs_7 : decode cX7_runs 7 = .ok (.iload_n 1, 1) := by decide +kernel
theorem dX7_runs_8 : decode cX7_runs 8 = .ok (.iaload, 1) := by decide +kernel
theorem dX7_runs_9 : decode cX7_runs 9 = .ok (.if_icmp .ge 23, 3) := by decide +kernel
theorem dX7_runs_12 : decode cX7_runs 12 = .ok (.aload_n 0, 1) := by decide +kernel
theorem dX7_runs_13 : decode cX7_runs 13 = .ok (.getfield 42, 3) := by decide +kernel
theorem dX7_runs_16 : decode cX7_runs 16 = .ok (.bipush 20, 2) := by decide +kernel
theorem dX7_runs_18 : decode cX7_runs 18 = .ok (.iload_n 1, 1) := by decide +kernel
theorem dX7_runs_19 : decode cX7_runs 19 = .ok (.imul, 1) := by decide +kernel
theorem dX7_runs_20 : decode cX7_runs 20 = .ok (.iload_n 2, 1) := by decide +kernel
theorem dX7_runs_21 : decode cX7_runs 21 = .ok (.iadd, 1) := by decide +kernel
theorem dX7_runs_22 : decode cX7_runs 22 = .ok (.baload, 1) := by decide +kernel
theorem dX7_runs_23 : decode cX7_runs 23 = .ok (.ifCond .ne 9, 3) := by decide +kernel
theorem dX7_runs_26 : decode cX7_runs 26 = .ok (.iinc 2 1, 3) := by decide +kernel
theorem dX7_runs_29 : decode cX7_runs 29 = .ok (.goto (-27), 3) := by decide +kernel
theorem dX7_runs_32 : decode cX7_runs 32 = .ok (.iload_n 2, 1) := by decide +kernel
theorem dX7_runs_33 : decode cX7_runs 33 = .ok (.ireturn, 1) := by decide +kernel
set_option maxRecDepth 20000 in
theorem ggX7_draw_X7_runs : GoodIn wsX7_draw wsX7_runs := goodIn_r _ [13, 14, 15, 22, 23, 24, 25, 26, 27, 28, 29, 30, 31, 32, 33, 34, 35, 36, 37, 38, 39, 40, 41, 42, 43, 44, 45, 46, 47, 48, 49, 50, 51, 52, 53, 54, 55, 56, 57] (by decide +kernel) (by decide +kernel)
set_option maxRecDepth 20000 in
theorem gX7_draw_X7_runs : GoodIn wsX7_draw (wsV RX7 140 RX7 yX7_runs wsX7_runs) := goodIn_app (goodIn_of _ (by decide +kernel)) ggX7_draw_X7_runs
set_option maxRecDepth 20000 in
theorem ggX7_draw_X7_steps : GoodIn wsX7_draw wsX7_steps := goodIn_r _ [18, 19, 20, 5, 21, 3, 4, 6] (by decide +kernel) (by decide +kernel)
set_option maxRecDepth 20000 in
theorem gX7_draw_X7_steps : GoodIn wsX7_draw (va_wsS RX7 119 yX7_steps wsX7_steps) := goodIn_app (goodIn_of _ (by decide +kernel)) ggX7_draw_X7_steps
theorem dX7_draw_0 : decode cX7_draw 0 = .ok (.iconst 0, 1) := by decide +kernel
theorem dX7_draw_1 : decode cX7_draw 1 = .ok (.istore 4, 2) := by decide +kernel
theorem dX7_draw_3 : decode cX7_draw 3 = .ok (.bipush 20, 2) := by decide +kernel
theorem dX7_draw_5 : decode cX7_draw 5 = .ok (.iload_n 1, 1) := by decide +kernel
theorem dX7_draw_6 : decode cX7_draw 6 = .ok (.imul, 1) := by decide +kernel
theorem dX7_draw_7 : decode cX7_draw 7 = .ok (.istore 5, 2) := by decide +kernel
theorem dX7_draw_9 : decode cX7_draw 9 = .ok (.iload 5, 2) := by decide +kernel
theorem dX7_draw_11 : decode cX7_draw 11 = .ok (.bipush 20, 2) := by decide +kernel
theorem dX7_draw_13 : decode cX7_draw 13 = .ok (.iload_n 1, 1) := by decide +kernel
theorem dX7_draw_14 : decode cX7_draw 14 = .ok (.imul, 1) := by decide +kernel
theorem dX7_draw_15 : decode cX7_draw 15 = .ok (.aload_n 0, 1) := by decide +kernel
theorem dX7_draw_16 : decode cX7_draw 16 = .ok (.iload_n 1, 1) := by decide +kernel
theorem dX7_draw_17 : decode cX7_draw 17 = .ok (.invokevirtual 140, 3) := by decide +kernel
theorem dX7_draw_20 : decode cX7_draw 20 = .ok (.iadd, 1) := by decide +kernel
theorem dX7_draw_21 : decode cX7_draw 21 = .ok (.if_icmp .ge 38, 3) := by decide +kernel
theorem dX7_draw_24 : decode cX7_draw 24 = .ok (.iload 4, 2) := by decide +kernel
theorem dX7_draw_26 : decode cX7_draw 26 = .ok (.bipush 30, 2) := by decide +kernel
theorem dX7_draw_28 : decode cX7_draw 28 = .ok (.iload_n 2, 1) := by decide +kernel
theorem dX7_draw_29 : decode cX7_draw 29 = .ok (.iload_n 3, 1) := by decide +kernel
theorem dX7_draw_30 : decode cX7_draw 30 = .ok (.aload_n 0, 1) := by decide +kernel
theorem dX7_draw_31 : decode cX7_draw 31 = .ok (.getfield 33, 3) := by decide +kernel
theorem dX7_draw_34 : decode cX7_draw 34 = .ok (.iload 5, 2) := by decide +kernel
theorem dX7_draw_36 : decode cX7_draw 36 = .ok (.iaload, 1) := by decide +kernel
theorem dX7_draw_37 : decode cX7_draw 37 = .ok (.aload_n 0, 1) := by decide +kernel
theorem dX7_draw_38 : decode cX7_draw 38 = .ok (.getfield 36, 3) := by decide +kernel
theorem dX7_draw_41 : decode cX7_draw 41 = .ok (.iload 5, 2) := by decide +kernel
theorem dX7_draw_43 : decode cX7_draw 43 = .ok (.iaload, 1) := by decide +kernel
theorem dX7_draw_44 : decode cX7_draw 44 = .ok (.invokestatic 119, 3) := by decide +kernel
theorem dX7_draw_47 : decode cX7_draw 47 = .ok (.isub, 1) := by decide +kernel
theorem dX7_draw_48 : decode cX7_draw 48 = .ok (.invokestatic 115, 3) := by decide +kernel
theorem dX7_draw_51 : decode cX7_draw 51 = .ok (.istore 4, 2) := by decide +kernel
theorem dX7_draw_53 : decode cX7_draw 53 = .ok (.iinc 5 1, 3) := by decide +kernel
theorem dX7_draw_56 : decode cX7_draw 56 = .ok (.goto (-47), 3) := by decide +kernel
theorem dX7_draw_59 : decode cX7_draw 59 = .ok (.aload_n 0, 1) := by decide +kernel
theorem dX7_draw_60 : decode cX7_draw 60 = .ok (.getfield 126, 3) := by decide +kernel
theorem dX7_draw_63 : decode cX7_draw 63 = .ok (.aload_n 0, 1) := by decide +kernel
theorem dX7_draw_64 : decode cX7_draw 64 = .ok (.getfield 24, 3) := by decide +kernel
theorem dX7_draw_67 : decode cX7_draw 67 = .ok (.iload_n 1, 1) := by decide +kernel
theorem dX7_draw_68 : decode cX7_draw 68 = .ok (.iaload, 1) := by decide +kernel
theorem dX7_draw_69 : decode cX7_draw 69 = .ok (.isub, 1) := by decide +kernel
theorem dX7_draw_70 : decode cX7_draw 70 = .ok (.istore 5, 2) := by decide +kernel
theorem dX7_draw_72 : decode cX7_draw 72 = .ok (.iload 5, 2) := by decide +kernel
theorem dX7_draw_74 : decode cX7_draw 74 = .ok (.iconst 5, 1) := by decide +kernel
theorem dX7_draw_75 : decode cX7_draw 75 = .ok (.if_icmp .ge 13, 3) := by decide +kernel
theorem dX7_draw_78 : decode cX7_draw 78 = .ok (.iload 4, 2) := by decide +kernel
theorem dX7_draw_80 : decode cX7_draw 80 = .ok (.iload 5, 2) := by decide +kernel
theorem dX7_draw_82 : decode cX7_draw 82 = .ok (.imul, 1) := by decide +kernel
theorem dX7_draw_83 : decode cX7_draw 83 = .ok (.iconst 5, 1) := by decide +kernel
theorem dX7_draw_84 : decode cX7_draw 84 = .ok (.idiv, 1) := by decide +kernel
theorem dX7_draw_85 : decode cX7_draw 85 = .ok (.goto 5, 3) := by decide +kernel
theorem dX7_draw_88 : decode cX7_draw 88 = .ok (.iload 4, 2) := by decide +kernel
theorem dX7_draw_90 : decode cX7_draw 90 = .ok (.ireturn, 1) := by decide +kernel
set_option maxRecDepth 20000 in
theorem ggX7_seeps_X7_draw : GoodIn wsX7_seeps wsX7_draw := goodIn_r _ [17, 3, 7, 18, 19, 11, 20, 21, 22, 23, 24, 25, 16, 26, 27, 28, 29, 30, 31, 32, 33, 34, 35, 36, 37, 38, 39, 40, 41, 42, 43, 44, 45, 46, 47, 48, 49, 50, 51, 52, 53, 54, 55, 56, 57, 58, 59, 60, 61, 62, 63, 64, 65, 66, 67, 68, 69, 70] (by decide +kernel) (by decide +kernel)
set_option maxRecDepth 20000 in
theorem gX7_seeps_X7_draw : GoodIn wsX7_seeps (wsV RX7 143 RX7 yX7_draw wsX7_draw) := goodIn_app (goodIn_of _ (by decide +kernel)) ggX7_seeps_X7_draw
theorem dX7_seeps_0 : decode cX7_seeps 0 = .ok (.bipush 20, 2) := by decide +kernel
theorem dX7_seeps_2 : decode cX7_seeps 2 = .ok (.iload_n 1, 1) := by decide +kernel
theorem dX7_seeps_3 : decode cX7_seeps 3 = .ok (.imul, 1) := by decide +kernel
theorem dX7_seeps_4 : decode cX7_seeps 4 = .ok (.iload_n 2, 1) := by decide +kernel
theorem dX7_seeps_5 : decode cX7_seeps 5 = .ok (.iadd, 1) := by decide +kernel
theorem dX7_seeps_6 : decode cX7_seeps 6 = .ok (.istore 4, 2) := by decide +kernel
theorem dX7_seeps_8 : decode cX7_seeps 8 = .ok (.aload_n 0, 1) := by decide +kernel
theorem dX7_seeps_9 : decode cX7_seeps 9 = .ok (.getfield 7, 3) := by decide +kernel
theorem dX7_seeps_12 : decode cX7_seeps 12 = .ok (.aload_n 0, 1) := by decide +kernel
theorem dX7_seeps_13 : decode cX7_seeps 13 = .ok (.getfield 13, 3) := by decide +kernel
theorem dX7_seeps_16 : decode cX7_seeps 16 = .ok (.aload_n 0, 1) := by decide +kernel
theorem dX7_seeps_17 : decode cX7_seeps 17 = .ok (.getfield 33, 3) := by decide +kernel
theorem dX7_seeps_20 : decode cX7_seeps 20 = .ok (.iload 4, 2) := by decide +kernel
theorem dX7_seeps_22 : decode cX7_seeps 22 = .ok (.iaload, 1) := by decide +kernel
theorem dX7_seeps_23 : decode cX7_seeps 23 = .ok (.imul, 1) := by decide +kernel
theorem dX7_seeps_24 : decode cX7_seeps 24 = .ok (.iadd, 1) := by decide +kernel
theorem dX7_seeps_25 : decode cX7_seeps 25 = .ok (.istore 5, 2) := by decide +kernel
theorem dX7_seeps_27 : decode cX7_seeps 27 = .ok (.iconst 0, 1) := by decide +kernel
theorem dX7_seeps_28 : decode cX7_seeps 28 = .ok (.istore 6, 2) := by decide +kernel
theorem dX7_seeps_30 : decode cX7_seeps 30 = .ok (.iload 6, 2) := by decide +kernel
theorem dX7_seeps_32 : decode cX7_seeps 32 = .ok (.aload_n 0, 1) := by decide +kernel
theorem dX7_seeps_33 : decode cX7_seeps 33 = .ok (.getfield 91, 3) := by decide +kernel
theorem dX7_seeps_36 : decode cX7_seeps 36 = .ok (.if_icmp .ge 61, 3) := by decide +kernel
theorem dX7_seeps_39 : decode cX7_seeps 39 = .ok (.iload 6, 2) := by decide +kernel
theorem dX7_seeps_41 : decode cX7_seeps 41 = .ok (.iload_n 1, 1) := by decide +kernel
theorem dX7_seeps_42 : decode cX7_seeps 42 = .ok (.if_icmp .eq 49, 3) := by decide +kernel
theorem dX7_seeps_45 : decode cX7_seeps 45 = .ok (.aload_n 0, 1) := by decide +kernel
theorem dX7_seeps_46 : decode cX7_seeps 46 = .ok (.getfield 20, 3) := by decide +kernel
theorem dX7_seeps_49 : decode cX7_seeps 49 = .ok (.iload 6, 2) := by decide +kernel
theorem dX7_seeps_51 : decode cX7_seeps 51 = .ok (.baload, 1) := by decide +kernel
theorem dX7_seeps_52 : decode cX7_seeps 52 = .ok (.ifCond .eq 39, 3) := by decide +kernel
theorem dX7_seeps_55 : decode cX7_seeps 55 = .ok (.aload_n 0, 1) := by decide +kernel
theorem dX7_seeps_56 : decode cX7_seeps 56 = .ok (.getfield 27, 3) := by decide +kernel
theorem dX7_seeps_59 : decode cX7_seeps 59 = .ok (.iload 6, 2) := by decide +kernel
theorem dX7_seeps_61 : decode cX7_seeps 61 = .ok (.iaload, 1) := by decide +kernel
theorem dX7_seeps_62 : decode cX7_seeps 62 = .ok (.iload_n 3, 1) := by decide +kernel
theorem dX7_seeps_63 : decode cX7_seeps 63 = .ok (.if_icmp .gt 28, 3) := by decide +kernel
theorem dX7_seeps_66 : decode cX7_seeps 66 = .ok (.iload 5, 2) := by decide +kernel
theorem dX7_seeps_68 : decode cX7_seeps 68 = .ok (.aload_n 0, 1) := by decide +kernel
theorem dX7_seeps_69 : decode cX7_seeps 69 = .ok (.iload 6, 2) := by decide +kernel
theorem dX7_seeps_71 : decode cX7_seeps 71 = .ok (.aload_n 0, 1) := by decide +kernel
theorem dX7_seeps_72 : decode cX7_seeps 72 = .ok (.getfield 33, 3) := by decide +kernel
theorem dX7_seeps_75 : decode cX7_seeps 75 = .ok (.iload 4, 2) := by decide +kernel
theorem dX7_seeps_77 : decode cX7_seeps 77 = .ok (.iaload, 1) := by decide +kernel
theorem dX7_seeps_78 : decode cX7_seeps 78 = .ok (.aload_n 0, 1) := by decide +kernel
theorem dX7_seeps_79 : decode cX7_seeps 79 = .ok (.getfield 36, 3) := by decide +kernel
theorem dX7_seeps_82 : decode cX7_seeps 82 = .ok (.iload 4, 2) := by decide +kernel
theorem dX7_seeps_84 : decode cX7_seeps 84 = .ok (.iaload, 1) := by decide +kernel
theorem dX7_seeps_85 : decode cX7_seeps 85 = .ok (.invokevirtual 143, 3) := by decide +kernel
theorem dX7_seeps_88 : decode cX7_seeps 88 = .ok (.isub, 1) := by decide +kernel
theorem dX7_seeps_89 : decode cX7_seeps 89 = .ok (.istore 5, 2) := by decide +kernel
theorem dX7_seeps_91 : decode cX7_seeps 91 = .ok (.iinc 6 1, 3) := by decide +kernel
theorem dX7_seeps_94 : decode cX7_seeps 94 = .ok (.goto (-64), 3) := by decide +kernel
theorem dX7_seeps_97 : decode cX7_seeps 97 = .ok (.iload 5, 2) := by decide +kernel
theorem dX7_seeps_99 : decode cX7_seeps 99 = .ok (.aload_n 0, 1) := by decide +kernel
theorem dX7_seeps_100 : decode cX7_seeps 100 = .ok (.getfield 39, 3) := by decide +kernel
theorem dX7_seeps_103 : decode cX7_seeps 103 = .ok (.iload 4, 2) := by decide +kernel
theorem dX7_seeps_105 : decode cX7_seeps 105 = .ok (.iaload, 1) := by decide +kernel
theorem dX7_seeps_106 : decode cX7_seeps 106 = .ok (.if_icmp .gt 7, 3) := by decide +kernel
theorem dX7_seeps_109 : decode cX7_seeps 109 = .ok (.iconst 0, 1) := by decide +kernel
theorem dX7_seeps_110 : decode cX7_seeps 110 = .ok (.goto 21, 3) := by decide +kernel
theorem dX7_seeps_113 : decode cX7_seeps 113 = .ok (.bipush 50, 2) := by decide +kernel
theorem dX7_seeps_115 : decode cX7_seeps 115 = .ok (.iload 5, 2) := by decide +kernel
theorem dX7_seeps_117 : decode cX7_seeps 117 = .ok (.aload_n 0, 1) := by decide +kernel
theorem dX7_seeps_118 : decode cX7_seeps 118 = .ok (.getfield 39, 3) := by decide +kernel
theorem dX7_seeps_121 : decode cX7_seeps 121 = .ok (.iload 4, 2) := by decide +kernel
theorem dX7_seeps_123 : decode cX7_seeps 123 = .ok (.iaload, 1) := by decide +kernel
theorem dX7_seeps_124 : decode cX7_seeps 124 = .ok (.isub, 1) := by decide +kernel
theorem dX7_seeps_125 : decode cX7_seeps 125 = .ok (.bipush 10, 2) := by decide +kernel
theorem dX7_seeps_127 : decode cX7_seeps 127 = .ok (.idiv, 1) := by decide +kernel
theorem dX7_seeps_128 : decode cX7_seeps 128 = .ok (.invokestatic 147, 3) := by decide +kernel
theorem dX7_seeps_131 : decode cX7_seeps 131 = .ok (.ireturn, 1) := by decide +kernel
set_option maxRecDepth 20000 in
theorem ggX7_flows_X7_runs : GoodIn wsX7_flows wsX7_runs := goodIn_r _ [6, 7, 8, 39, 40, 41, 42, 43, 44, 45, 46, 47, 48, 49, 50, 51, 52, 53, 54, 55, 56, 57, 58, 59, 60, 61, 62, 63, 64, 65, 66, 67, 68, 69, 70, 71, 72, 73, 74] (by decide +kernel) (by decide +kernel)
set_option maxRecDepth 20000 in
theorem gX7_flows_X7_runs : GoodIn wsX7_flows (wsV RX7 140 RX7 yX7_runs wsX7_runs) := goodIn_app (goodIn_of _ (by decide +kernel)) ggX7_flows_X7_runs
set_option maxRecDepth 20000 in
theorem ggX7_flows_X7_seeps : GoodIn wsX7_flows wsX7_seeps := goodIn_r _ [12, 13, 14, 15, 16, 17, 18, 19, 1, 20, 21, 22, 23, 24, 25, 26, 5, 27, 28, 29, 30, 31, 32, 2, 3, 4, 6, 7, 8, 33, 34, 35, 36, 37, 38, 39, 40, 41, 42, 43, 44, 45, 46, 47, 48, 49, 50, 51, 52, 53, 54, 55, 56, 57, 58, 59, 60, 61, 62, 63, 64, 65, 66, 67, 68, 69, 70, 71, 72, 73, 74] (by decide +kernel) (by decide +kernel)
set_option maxRecDepth 20000 in
theorem gX7_flows_X7_seeps : GoodIn wsX7_flows (wsV RX7 150 RX7 yX7_seeps wsX7_seeps) := goodIn_app (goodIn_of _ (by decide +kernel)) ggX7_flows_X7_seeps
theorem dX7_flows_0 : decode cX7_flows 0 = .ok (.iconst 0, 1) := by decide +kernel
theorem dX7_flows_1 : decode cX7_flows 1 = .ok (.istore_n 3, 1) := by decide +kernel
theorem dX7_flows_2 : decode cX7_flows 2 = .ok (.aload_n 0, 1) := by decide +kernel
theorem dX7_flows_3 : decode cX7_flows 3 = .ok (.iload_n 1, 1) := by decide +kernel
theorem dX7_flows_4 : decode cX7_flows 4 = .ok (.invokevirtual 140, 3) := by decide +kernel
theorem dX7_flows_7 : decode cX7_flows 7 = .ok (.iconst 1, 1) := by decide +kernel
theorem dX7_flows_8 : decode cX7_flows 8 = .ok (.isub, 1) := by decide +kernel
theorem dX7_flows_9 : decode cX7_flows 9 = .ok (.istore 4, 2) := by decide +kernel
theorem dX7_flows_11 : decode cX7_flows 11 = .ok (.iload 4, 2) := by decide +kernel
theorem dX7_flows_13 : decode cX7_flows 13 = .ok (.ifCond .lt 79, 3) := by decide +kernel
theorem dX7_flows_16 : decode cX7_flows 16 = .ok (.iload_n 3, 1) := by decide +kernel
theorem dX7_flows_17 : decode cX7_flows 17 = .ok (.aload_n 0, 1) := by decide +kernel
theorem dX7_flows_18 : decode cX7_flows 18 = .ok (.iload_n 1, 1) := by decide +kernel
theorem dX7_flows_19 : decode cX7_flows 19 = .ok (.iload 4, 2) := by decide +kernel
theorem dX7_flows_21 : decode cX7_flows 21 = .ok (.iload_n 2, 1) := by decide +kernel
theorem dX7_flows_22 : decode cX7_flows 22 = .ok (.invokevirtual 150, 3) := by decide +kernel
theorem dX7_flows_25 : decode cX7_flows 25 = .ok (.iadd, 1) := by decide +kernel
theorem dX7_flows_26 : decode cX7_flows 26 = .ok (.istore_n 3, 1) := by decide +kernel
theorem dX7_flows_27 : decode cX7_flows 27 = .ok (.iload 4, 2) := by decide +kernel
theorem dX7_flows_29 : decode cX7_flows 29 = .ok (.ifCond .ne 6, 3) := by decide +kernel
theorem dX7_flows_32 : decode cX7_flows 32 = .ok (.goto 54, 3) := by decide +kernel
theorem dX7_flows_35 : decode cX7_flows 35 = .ok (.aload_n 0, 1) := by decide +kernel
theorem dX7_flows_36 : decode cX7_flows 36 = .ok (.getfield 39, 3) := by decide +kernel
theorem dX7_flows_39 : decode cX7_flows 39 = .ok (.bipush 20, 2) := by decide +kernel
theorem dX7_flows_41 : decode cX7_flows 41 = .ok (.iload_n 1, 1) := by decide +kernel
theorem dX7_flows_42 : decode cX7_flows 42 = .ok (.imul, 1) := by decide +kernel
theorem dX7_flows_43 : decode cX7_flows 43 = .ok (.iload 4, 2) := by decide +kernel
theorem dX7_flows_45 : decode cX7_flows 45 = .ok (.iadd, 1) := by decide +kernel
theorem dX7_flows_46 : decode cX7_flows 46 = .ok (.iaload, 1) := by decide +kernel
theorem dX7_flows_47 : decode cX7_flows 47 = .ok (.aload_n 0, 1) := by decide +kernel
theorem dX7_flows_48 : decode cX7_flows 48 = .ok (.getfield 39, 3) := by decide +kernel
theorem dX7_flows_51 : decode cX7_flows 51 = .ok (.bipush 20, 2) := by decide +kernel
theorem dX7_flows_53 : decode cX7_flows 53 = .ok (.iload_n 1, 1) := by decide +kernel
theorem dX7_flows_54 : decode cX7_flows 54 = .ok (.imul, 1) := by decide +kernel
theorem dX7_flows_55 : decode cX7_flows 55 = .ok (.iload 4, 2) := by decide +kernel
theorem dX7_flows_57 : decode cX7_flows 57 = .ok (.iadd, 1) := by decide +kernel
theorem dX7_flows_58 : decode cX7_flows 58 = .ok (.iconst 1, 1) := by decide +kernel
theorem dX7_flows_59 : decode cX7_flows 59 = .ok (.isub, 1) := by decide +kernel
theorem dX7_flows_60 : decode cX7_flows 60 = .ok (.iaload, 1) := by decide +kernel
theorem dX7_flows_61 : decode cX7_flows 61 = .ok (.isub, 1) := by decide +kernel
theorem dX7_flows_62 : decode cX7_flows 62 = .ok (.istore 5, 2) := by decide +kernel
theorem dX7_flows_64 : decode cX7_flows 64 = .ok (.iload 5, 2) := by decide +kernel
theorem dX7_flows_66 : decode cX7_flows 66 = .ok (.ifCond .eq 10, 3) := by decide +kernel
theorem dX7_flows_69 : decode cX7_flows 69 = .ok (.iload 5, 2) := by decide +kernel
theorem dX7_flows_71 : decode cX7_flows 71 = .ok (.bipush 20, 2) := by decide +kernel
theorem dX7_flows_73 : decode cX7_flows 73 = .ok (.if_icmp .le 13, 3) := by decide +kernel
theorem dX7_flows_76 : decode cX7_flows 76 = .ok (.iload_n 3, 1) := by decide +kernel
theorem dX7_flows_77 : decode cX7_flows 77 = .ok (.iload_n 3, 1) := by decide +kernel
theorem dX7_flows_78 : decode cX7_flows 78 = .ok (.bipush 99, 2) := by decide +kernel
theorem dX7_flows_80 : decode cX7_flows 80 = .ok (.iadd, 1) := by decide +kernel
theorem dX7_flows_81 : decode cX7_flows 81 = .ok (.bipush 100, 2) := by decide +kernel
theorem dX7_flows_83 : decode cX7_flows 83 = .ok (.idiv, 1) := by decide +kernel
theorem dX7_flows_84 : decode cX7_flows 84 = .ok (.isub, 1) := by decide +kernel
theorem dX7_flows_85 : decode cX7_flows 85 = .ok (.istore_n 3, 1) := by decide +kernel
theorem dX7_flows_86 : decode cX7_flows 86 = .ok (.iinc 4 (-1), 3) := by decide +kernel
theorem dX7_flows_89 : decode cX7_flows 89 = .ok (.goto (-78), 3) := by decide +kernel
theorem dX7_flows_92 : decode cX7_flows 92 = .ok (.iload_n 3, 1) := by decide +kernel
theorem dX7_flows_93 : decode cX7_flows 93 = .ok (.ireturn, 1) := by decide +kernel
set_option maxRecDepth 20000 in
theorem ggX7_flow_X7_noChannel : GoodIn wsX7_flow wsX7_noChannel := goodIn_r _ [7, 8, 9, 10, 6, 11, 55, 56, 57, 58, 59, 60, 61, 62, 63, 64, 65, 66, 67, 68, 69, 70, 71, 72, 73, 74, 75, 76, 77, 78, 79, 80, 81, 82, 83, 84, 85, 86, 87, 88, 89, 90] (by decide +kernel) (by decide +kernel)
set_option maxRecDepth 20000 in
theorem gX7_flow_X7_noChannel : GoodIn wsX7_flow (wsV RX7 98 RX7 yX7_noChannel wsX7_noChannel) := goodIn_app (goodIn_of _ (by decide +kernel)) ggX7_flow_X7_noChannel
set_option maxRecDepth 20000 in
theorem ggX7_flow_X7_throwsIf : GoodIn wsX7_flow wsX7_throwsIf := goodIn_r _ [15, 1, 55, 56, 57, 58, 59, 60, 61, 62, 63, 64, 65, 66, 67, 68, 69, 70, 71, 72, 73, 74, 75, 76, 77, 78, 79, 80, 81, 82, 83, 84, 85, 86, 87, 88, 89, 90] (by decide +kernel) (by decide +kernel)
set_option maxRecDepth 20000 in
theorem gX7_flow_X7_throwsIf : GoodIn wsX7_flow (wsV RX7 105 RX7 yX7_throwsIf wsX7_throwsIf) := goodIn_app (goodIn_of _ (by decide +kernel)) ggX7_flow_X7_throwsIf
set_option maxRecDepth 20000 in
theorem ggX7_flow_X7_flows : GoodIn wsX7_flow wsX7_flows := goodIn_r _ [19, 20, 21, 22, 23, 6, 24, 25, 26, 27, 28, 29, 30, 31, 32, 33, 8, 2, 34, 35, 36, 37, 38, 39, 40, 41, 42, 43, 44, 45, 46, 47, 48, 49, 50, 51, 52, 53, 54, 55, 56, 57, 58, 59, 60, 61, 62, 63, 64, 65, 66, 67, 68, 69, 70, 71, 72, 73, 74, 75, 76, 77, 78, 79, 80, 81, 82, 83, 84, 85, 86, 87, 88, 89, 90] (by decide +kernel) (by decide +kernel)
set_option maxRecDepth 20000 in
theorem gX7_flow_X7_flows : GoodIn wsX7_flow (wsV RX7 153 RX7 yX7_flows wsX7_flows) := goodIn_app (goodIn_of _ (by decide +kernel)) ggX7_flow_X7_flows
theorem dX7_flow_0 : decode cX7_flow 0 = .ok (.aload_n 0, 1) := by decide +kernel
theorem dX7_flow_1 : decode cX7_flow 1 = .ok (.iconst 0, 1) := by decide +kernel
theorem dX7_flow_2 : decode cX7_flow 2 = .ok (.putfield 88, 3) := by decide +kernel
theorem dX7_flow_5 : decode cX7_flow 5 = .ok (.aload_n 0, 1) := by decide +kernel
theorem dX7_flow_6 : decode cX7_flow 6 = .ok (.aload_n 0, 1) := by decide +kernel
theorem dX7_flow_7 : decode cX7_flow 7 = .ok (.iload_n 1, 1) := by decide +kernel
theorem dX7_flow_8 : decode cX7_flow 8 = .ok (.invokevirtual 98, 3) := by decide +kernel
theorem dX7_flow_11 : decode cX7_flow 11 = .ok (.iconst 1, 1) := by decide +kernel
theorem dX7_flow_12 : decode cX7_flow 12 = .ok (.invokevirtual 105, 3) := by decide +kernel
theorem dX7_flow_15 : decode cX7_flow 15 = .ok (.ifCond .ne 25, 3) := by decide +kernel
theorem dX7_flow_18 : decode cX7_flow 18 = .ok (.aload_n 0, 1) := by decide +kernel
theorem dX7_flow_19 : decode cX7_flow 19 = .ok (.aload_n 0, 1) := by decide +kernel
theorem dX7_flow_20 : decode cX7_flow 20 = .ok (.getfield 20, 3) := by decide +kernel
theorem dX7_flow_23 : decode cX7_flow 23 = .ok (.iload_n 1, 1) := by decide +kernel
theorem dX7_flow_24 : decode cX7_flow 24 = .ok (.baload, 1) := by decide +kernel
theorem dX7_flow_25 : decode cX7_flow 25 = .ok (.ifCond .ne 7, 3) := by decide +kernel
theorem dX7_flow_28 : decode cX7_flow 28 = .ok (.iconst 1, 1) := by decide +kernel
theorem dX7_flow_29 : decode cX7_flow 29 = .ok (.goto 4, 3) := by decide +kernel
theorem dX7_flow_32 : decode cX7_flow 32 = .ok (.iconst 0, 1) := by decide +kernel
theorem dX7_flow_33 : decode cX7_flow 33 = .ok (.iconst 2, 1) := by decide +kernel
theorem dX7_flow_34 : decode cX7_flow 34 = .ok (.invokevirtual 105, 3) := by decide +kernel
theorem dX7_flow_37 : decode cX7_flow 37 = .ok (.ifCond .eq 7, 3) := by decide +kernel
theorem dX7_flow_40 : decode cX7_flow 40 = .ok (.iconst 0, 1) := by decide +kernel
theorem dX7_flow_41 : decode cX7_flow 41 = .ok (.goto 10, 3) := by decide +kernel
theorem dX7_flow_44 : decode cX7_flow 44 = .ok (.aload_n 0, 1) := by decide +kernel
theorem dX7_flow_45 : decode cX7_flow 45 = .ok (.iload_n 1, 1) := by decide +kernel
theorem dX7_flow_46 : decode cX7_flow 46 = .ok (.bipush 8, 2) := by decide +kernel
theorem dX7_flow_48 : decode cX7_flow 48 = .ok (.invokevirtual 153, 3) := by decide +kernel
theorem dX7_flow_51 : decode cX7_flow 51 = .ok (.ireturn, 1) := by decide +kernel
set_option maxRecDepth 20000 in
theorem ggX7_harm_X7_noChannel : GoodIn wsX7_harm wsX7_noChannel := goodIn_r _ [8, 9, 10, 11, 7, 12, 55, 56, 57, 58, 59, 60, 61, 62, 63, 64, 65, 66, 67, 68, 69, 70, 71, 72, 73, 74, 75, 76, 77, 78, 79, 80, 81, 82, 83, 84, 85, 86, 87, 88, 89, 90] (by decide +kernel) (by decide +kernel)
set_option maxRecDepth 20000 in
theorem gX7_harm_X7_noChannel : GoodIn wsX7_harm (wsV RX7 98 RX7 yX7_noChannel wsX7_noChannel) := goodIn_app (goodIn_of _ (by decide +kernel)) ggX7_harm_X7_noChannel
set_option maxRecDepth 20000 in
theorem ggX7_harm_X7_throwsIf : GoodIn wsX7_harm wsX7_throwsIf := goodIn_r _ [16, 1, 55, 56, 57, 58, 59, 60, 61, 62, 63, 64, 65, 66, 67, 68, 69, 70, 71, 72, 73, 74, 75, 76, 77, 78, 79, 80, 81, 82, 83, 84, 85, 86, 87, 88, 89, 90] (by decide +kernel) (by decide +kernel)
set_option maxRecDepth 20000 in
theorem gX7_harm_X7_throwsIf : GoodIn wsX7_harm (wsV RX7 105 RX7 yX7_throwsIf wsX7_throwsIf) := goodIn_app (goodIn_of _ (by decide +kernel)) ggX7_harm_X7_throwsIf
set_option maxRecDepth 20000 in
theorem ggX7_harm_X7_flows : GoodIn wsX7_harm wsX7_flows := goodIn_r _ [20, 21, 22, 23, 24, 7, 25, 26, 27, 28, 29, 30, 31, 32, 33, 34, 9, 2, 3, 35, 36, 37, 38, 39, 40, 41, 42, 43, 44, 45, 46, 47, 48, 49, 50, 51, 52, 53, 54, 55, 56, 57, 58, 59, 60, 61, 62, 63, 64, 65, 66, 67, 68, 69, 70, 71, 72, 73, 74, 75, 76, 77, 78, 79, 80, 81, 82, 83, 84, 85, 86, 87, 88, 89, 90] (by decide +kernel) (by decide +kernel)
set_option maxRecDepth 20000 in
theorem gX7_harm_X7_flows : GoodIn wsX7_harm (wsV RX7 153 RX7 yX7_flows wsX7_flows) := goodIn_app (goodIn_of _ (by decide +kernel)) ggX7_harm_X7_flows
theorem dX7_harm_0 : decode cX7_harm 0 = .ok (.aload_n 0, 1) := by decide +kernel
theorem dX7_harm_1 : decode cX7_harm 1 = .ok (.iconst 0, 1) := by decide +kernel
theorem dX7_harm_2 : decode cX7_harm 2 = .ok (.putfield 88, 3) := by decide +kernel
theorem dX7_harm_5 : decode cX7_harm 5 = .ok (.aload_n 0, 1) := by decide +kernel
theorem dX7_harm_6 : decode cX7_harm 6 = .ok (.aload_n 0, 1) := by decide +kernel
theorem dX7_harm_7 : decode cX7_harm 7 = .ok (.iload_n 1, 1) := by decide +kernel
theorem dX7_harm_8 : decode cX7_harm 8 = .ok (.invokevirtual 98, 3) := by decide +kernel
theorem dX7_harm_11 : decode cX7_harm 11 = .ok (.iconst 1, 1) := by decide +kernel
theorem dX7_harm_12 : decode cX7_harm 12 = .ok (.invokevirtual 105, 3) := by decide +kernel
theorem dX7_harm_15 : decode cX7_harm 15 = .ok (.ifCond .ne 25, 3) := by decide +kernel
theorem dX7_harm_18 : decode cX7_harm 18 = .ok (.aload_n 0, 1) := by decide +kernel
theorem dX7_harm_19 : decode cX7_harm 19 = .ok (.aload_n 0, 1) := by decide +kernel
theorem dX7_harm_20 : decode cX7_harm 20 = .ok (.getfield 20, 3) := by decide +kernel
theorem dX7_harm_23 : decode cX7_harm 23 = .ok (.iload_n 1, 1) := by decide +kernel
theorem dX7_harm_24 : decode cX7_harm 24 = .ok (.baload, 1) := by decide +kernel
theorem dX7_harm_25 : decode cX7_harm 25 = .ok (.ifCond .ne 7, 3) := by decide +kernel
theorem dX7_harm_28 : decode cX7_harm 28 = .ok (.iconst 1, 1) := by decide +kernel
theorem dX7_harm_29 : decode cX7_harm 29 = .ok (.goto 4, 3) := by decide +kernel
theorem dX7_harm_32 : decode cX7_harm 32 = .ok (.iconst 0, 1) := by decide +kernel
theorem dX7_harm_33 : decode cX7_harm 33 = .ok (.iconst 2, 1) := by decide +kernel
theorem dX7_harm_34 : decode cX7_harm 34 = .ok (.invokevirtual 105, 3) := by decide +kernel
theorem dX7_harm_37 : decode cX7_harm 37 = .ok (.ifCond .eq 7, 3) := by decide +kernel
theorem dX7_harm_40 : decode cX7_harm 40 = .ok (.iconst 0, 1) := by decide +kernel
theorem dX7_harm_41 : decode cX7_harm 41 = .ok (.goto 22, 3) := by decide +kernel
theorem dX7_harm_44 : decode cX7_harm 44 = .ok (.aload_n 0, 1) := by decide +kernel
theorem dX7_harm_45 : decode cX7_harm 45 = .ok (.iload_n 1, 1) := by decide +kernel
theorem dX7_harm_46 : decode cX7_harm 46 = .ok (.aload_n 0, 1) := by decide +kernel
theorem dX7_harm_47 : decode cX7_harm 47 = .ok (.getfield 27, 3) := by decide +kernel
theorem dX7_harm_50 : decode cX7_harm 50 = .ok (.iload_n 1, 1) := by decide +kernel
theorem dX7_harm_51 : decode cX7_harm 51 = .ok (.iaload, 1) := by decide +kernel
theorem dX7_harm_52 : decode cX7_harm 52 = .ok (.invokevirtual 153, 3) := by decide +kernel
theorem dX7_harm_55 : decode cX7_harm 55 = .ok (.aload_n 0, 1) := by decide +kernel
theorem dX7_harm_56 : decode cX7_harm 56 = .ok (.iload_n 1, 1) := by decide +kernel
theorem dX7_harm_57 : decode cX7_harm 57 = .ok (.bipush 8, 2) := by decide +kernel
theorem dX7_harm_59 : decode cX7_harm 59 = .ok (.invokevirtual 153, 3) := by decide +kernel
theorem dX7_harm_62 : decode cX7_harm 62 = .ok (.isub, 1) := by decide +kernel
theorem dX7_harm_63 : decode cX7_harm 63 = .ok (.ireturn, 1) := by decide +kernel
set_option maxRecDepth 20000 in
theorem ggX7_seep_X7_noWell : GoodIn wsX7_seep wsX7_noWell := goodIn_r _ [7, 8, 9, 10, 11, 6, 12, 13, 14, 15, 16, 55, 56, 57, 58, 59, 60, 61, 62, 63, 64, 65, 66, 67, 68, 69, 70, 71, 72, 73, 74, 75, 76, 77, 78, 79, 80, 81, 82, 83, 84, 85, 86, 87, 88, 89, 90] (by decide +kernel) (by decide +kernel)
set_option maxRecDepth 20000 in
theorem gX7_seep_X7_noWell : GoodIn wsX7_seep (wsV RX7 136 RX7 yX7_noWell wsX7_noWell) := goodIn_app (goodIn_of _ (by decide +kernel)) ggX7_seep_X7_noWell
set_option maxRecDepth 20000 in
theorem ggX7_seep_X7_throwsIf : GoodIn wsX7_seep wsX7_throwsIf := goodIn_r _ [20, 1, 55, 56, 57, 58, 59, 60, 61, 62, 63, 64, 65, 66, 67, 68, 69, 70, 71, 72, 73, 74, 75, 76, 77, 78, 79, 80, 81, 82, 83, 84, 85, 86, 87, 88, 89, 90] (by decide +kernel) (by decide +kernel)
set_option maxRecDepth 20000 in
theorem gX7_seep_X7_throwsIf : GoodIn wsX7_seep (wsV RX7 105 RX7 yX7_throwsIf wsX7_throwsIf) := goodIn_app (goodIn_of _ (by decide +kernel)) ggX7_seep_X7_throwsIf
set_option maxRecDepth 20000 in
theorem ggX7_seep_X7_runs : GoodIn wsX7_seep wsX7_runs := goodIn_r _ [24, 8, 25, 55, 56, 57, 58, 59, 60, 61, 62, 63, 64, 65, 66, 67, 68, 69, 70, 71, 72, 73, 74, 75, 76, 77, 78, 79, 80, 81, 82, 83, 84, 85, 86, 87, 88, 89, 90] (by decide +kernel) (by decide +kernel)
set_option maxRecDepth 20000 in
theorem gX7_seep_X7_runs : GoodIn wsX7_seep (wsV RX7 140 RX7 yX7_runs wsX7_runs) := goodIn_app (goodIn_of _ (by decide +kernel)) ggX7_seep_X7_runs
set_option maxRecDepth 20000 in
theorem ggX7_seep_X7_seeps : GoodIn wsX7_seep wsX7_seeps := goodIn_r _ [29, 30, 31, 32, 13, 2, 33, 34, 35, 36, 37, 38, 39, 40, 41, 42, 6, 43, 44, 45, 46, 47, 48, 21, 22, 23, 24, 8, 25, 49, 50, 51, 52, 53, 54, 55, 56, 57, 58, 59, 60, 61, 62, 63, 64, 65, 66, 67, 68, 69, 70, 71, 72, 73, 74, 75, 76, 77, 78, 79, 80, 81, 82, 83, 84, 85, 86, 87, 88, 89, 90] (by decide +kernel) (by decide +kernel)
set_option maxRecDepth 20000 in
theorem gX7_seep_X7_seeps : GoodIn wsX7_seep (wsV RX7 150 RX7 yX7_seeps wsX7_seeps) := goodIn_app (goodIn_of _ (by decide +kernel)) ggX7_seep_X7_seeps
theorem dX7_seep_0 : decode cX7_seep 0 = .ok (.aload_n 0, 1) := by decide +kernel
theorem dX7_seep_1 : decode cX7_seep 1 = .ok (.iconst 0, 1) := by decide +kernel
theorem dX7_seep_2 : decode cX7_seep 2 = .ok (.putfield 88, 3) := by decide +kernel
theorem dX7_seep_5 : decode cX7_seep 5 = .ok (.aload_n 0, 1) := by decide +kernel
theorem dX7_seep_6 : decode cX7_seep 6 = .ok (.aload_n 0, 1) := by decide +kernel
theorem dX7_seep_7 : decode cX7_seep 7 = .ok (.iload_n 1, 1) := by decide +kernel
theorem dX7_seep_8 : decode cX7_seep 8 = .ok (.iload_n 2, 1) := by decide +kernel
theorem dX7_seep_9 : decode cX7_seep 9 = .ok (.invokevirtual 136, 3) := by decide +kernel
theorem dX7_seep_12 : decode cX7_seep 12 = .ok (.iconst 1, 1) := by decide +kernel
theorem dX7_seep_13 : decode cX7_seep 13 = .ok (.invokevirtual 105, 3) := by decide +kernel
theorem dX7_seep_16 : decode cX7_seep 16 = .ok (.ifCond .ne 25, 3) := by decide +kernel
theorem dX7_seep_19 : decode cX7_seep 19 = .ok (.aload_n 0, 1) := by decide +kernel
theorem dX7_seep_20 : decode cX7_seep 20 = .ok (.aload_n 0, 1) := by decide +kernel
theorem dX7_seep_21 : decode cX7_seep 21 = .ok (.getfield 20, 3) := by decide +kernel
theorem dX7_seep_24 : decode cX7_seep 24 = .ok (.iload_n 1, 1) := by decide +kernel
theorem dX7_seep_25 : decode cX7_seep 25 = .ok (.baload, 1) := by decide +kernel
theorem dX7_seep_26 : decode cX7_seep 26 = .ok (.ifCond .ne 7, 3) := by decide +kernel
theorem dX7_seep_29 : decode cX7_seep 29 = .ok (.iconst 1, 1) := by decide +kernel
theorem dX7_seep_30 : decode cX7_seep 30 = .ok (.goto 4, 3) := by decide +kernel
theorem dX7_seep_33 : decode cX7_seep 33 = .ok (.iconst 0, 1) := by decide +kernel
theorem dX7_seep_34 : decode cX7_seep 34 = .ok (.iconst 2, 1) := by decide +kernel
theorem dX7_seep_35 : decode cX7_seep 35 = .ok (.invokevirtual 105, 3) := by decide +kernel
theorem dX7_seep_38 : decode cX7_seep 38 = .ok (.ifCond .eq 5, 3) := by decide +kernel
theorem dX7_seep_41 : decode cX7_seep 41 = .ok (.iconst 0, 1) := by decide +kernel
theorem dX7_seep_42 : decode cX7_seep 42 = .ok (.ireturn, 1) := by decide +kernel
theorem dX7_seep_43 : decode cX7_seep 43 = .ok (.iload_n 2, 1) := by decide +kernel
theorem dX7_seep_44 : decode cX7_seep 44 = .ok (.aload_n 0, 1) := by decide +kernel
theorem dX7_seep_45 : decode cX7_seep 45 = .ok (.iload_n 1, 1) := by decide +kernel
theorem dX7_seep_46 : decode cX7_seep 46 = .ok (.invokevirtual 140, 3) := by decide +kernel
theorem dX7_seep_49 : decode cX7_seep 49 = .ok (.if_icmp .ge 14, 3) := by decide +kernel
theorem dX7_seep_52 : decode cX7_seep 52 = .ok (.aload_n 0, 1) := by decide +kernel
theorem dX7_seep_53 : decode cX7_seep 53 = .ok (.iload_n 1, 1) := by decide +kernel
theorem dX7_seep_54 : decode cX7_seep 54 = .ok (.iload_n 2, 1) := by decide +kernel
theorem dX7_seep_55 : decode cX7_seep 55 = .ok (.bipush 8, 2) := by decide +kernel
theorem dX7_seep_57 : decode cX7_seep 57 = .ok (.invokevirtual 150, 3) := by decide +kernel
theorem dX7_seep_60 : decode cX7_seep 60 = .ok (.goto 4, 3) := by decide +kernel
theorem dX7_seep_63 : decode cX7_seep 63 = .ok (.iconst 0, 1) := by decide +kernel
theorem dX7_seep_64 : decode cX7_seep 64 = .ok (.ireturn, 1) := by decide +kernel
theorem dX7_sets_0 : decode cX7_sets 0 = .ok (.bipush 7, 2) := by decide +kernel
theorem dX7_sets_2 : decode cX7_sets 2 = .ok (.iload_n 1, 1) := by decide +kernel
theorem dX7_sets_3 : decode cX7_sets 3 = .ok (.imul, 1) := by decide +kernel
theorem dX7_sets_4 : decode cX7_sets 4 = .ok (.istore 5, 2) := by decide +kernel
theorem dX7_sets_6 : decode cX7_sets 6 = .ok (.aload_n 0, 1) := by decide +kernel
theorem dX7_sets_7 : decode cX7_sets 7 = .ok (.getfield 45, 3) := by decide +kernel
theorem dX7_sets_10 : decode cX7_sets 10 = .ok (.iload 5, 2) := by decide +kernel
theorem dX7_sets_12 : decode cX7_sets 12 = .ok (.iconst 1, 1) := by decide +kernel
theorem dX7_sets_13 : decode cX7_sets 13 = .ok (.iadd, 1) := by decide +kernel
theorem dX7_sets_14 : decode cX7_sets 14 = .ok (.iload_n 2, 1) := by decide +kernel
theorem dX7_sets_15 : decode cX7_sets 15 = .ok (.iastore, 1) := by decide +kernel
theorem dX7_sets_16 : decode cX7_sets 16 = .ok (.aload_n 0, 1) := by decide +kernel
theorem dX7_sets_17 : decode cX7_sets 17 = .ok (.getfield 45, 3) := by decide +kernel
theorem dX7_sets_20 : decode cX7_sets 20 = .ok (.iload 5, 2) := by decide +kernel
theorem dX7_sets_22 : decode cX7_sets 22 = .ok (.iconst 2, 1) := by decide +kernel
theorem dX7_sets_23 : decode cX7_sets 23 = .ok (.iadd, 1) := by decide +kernel
theorem dX7_sets_24 : decode cX7_sets 24 = .ok (.iload_n 3, 1) := by decide +kernel
theorem dX7_sets_25 : decode cX7_sets 25 = .ok (.iastore, 1) := by decide +kernel
theorem dX7_sets_26 : decode cX7_sets 26 = .ok (.aload_n 0, 1) := by decide +kernel
theorem dX7_sets_27 : decode cX7_sets 27 = .ok (.getfield 45, 3) := by decide +kernel
theorem dX7_sets_30 : decode cX7_sets 30 = .ok (.iload 5, 2) := by decide +kernel
theorem dX7_sets_32 : decode cX7_sets 32 = .ok (.iconst 3, 1) := by decide +kernel
theorem dX7_sets_33 : decode cX7_sets 33 = .ok (.iadd, 1) := by decide +kernel
theorem dX7_sets_34 : decode cX7_sets 34 = .ok (.iload 4, 2) := by decide +kernel
theorem dX7_sets_36 : decode cX7_sets 36 = .ok (.iastore, 1) := by decide +kernel
theorem dX7_sets_37 : decode cX7_sets 37 = .ok (.aload_n 0, 1) := by decide +kernel
theorem dX7_sets_38 : decode cX7_sets 38 = .ok (.getfield 45, 3) := by decide +kernel
theorem dX7_sets_41 : decode cX7_sets 41 = .ok (.iload 5, 2) := by decide +kernel
theorem dX7_sets_43 : decode cX7_sets 43 = .ok (.iconst 5, 1) := by decide +kernel
theorem dX7_sets_44 : decode cX7_sets 44 = .ok (.iadd, 1) := by decide +kernel
theorem dX7_sets_45 : decode cX7_sets 45 = .ok (.iconst 0, 1) := by decide +kernel
theorem dX7_sets_46 : decode cX7_sets 46 = .ok (.iastore, 1) := by decide +kernel
theorem dX7_sets_47 : decode cX7_sets 47 = .ok (.aload_n 0, 1) := by decide +kernel
theorem dX7_sets_48 : decode cX7_sets 48 = .ok (.getfield 45, 3) := by decide +kernel
theorem dX7_sets_51 : decode cX7_sets 51 = .ok (.iload 5, 2) := by decide +kernel
theorem dX7_sets_53 : decode cX7_sets 53 = .ok (.bipush 6, 2) := by decide +kernel
theorem dX7_sets_55 : decode cX7_sets 55 = .ok (.iadd, 1) := by decide +kernel
theorem dX7_sets_56 : decode cX7_sets 56 = .ok (.iconst 0, 1) := by decide +kernel
theorem dX7_sets_57 : decode cX7_sets 57 = .ok (.iastore, 1) := by decide +kernel
theorem dX7_sets_58 : decode cX7_sets 58 = .ok (.return_, 1) := by decide +kernel
set_option maxRecDepth 20000 in
theorem ggX7_adds_X7_sets : GoodIn wsX7_adds wsX7_sets := goodIn_r _ [7, 1, 8, 9, 10, 11, 12, 13, 14, 15, 16, 17, 18, 19, 20, 21, 22, 23, 24, 25, 26, 27, 28, 29, 30, 31, 32, 33, 34, 35, 36, 37, 38, 39, 40, 41, 42, 43] (by decide +kernel) (by decide +kernel)
set_option maxRecDepth 20000 in
theorem gX7_adds_X7_sets : GoodIn wsX7_adds (wsV RX7 156 RX7 yX7_sets wsX7_sets) := goodIn_app (goodIn_of _ (by decide +kernel)) ggX7_adds_X7_sets
theorem dX7_adds_0 : decode cX7_adds 0 = .ok (.aload_n 0, 1) := by decide +kernel
theorem dX7_adds_1 : decode cX7_adds 1 = .ok (.getfield 45, 3) := by decide +kernel
theorem dX7_adds_4 : decode cX7_adds 4 = .ok (.bipush 7, 2) := by decide +kernel
theorem dX7_adds_6 : decode cX7_adds 6 = .ok (.aload_n 0, 1) := by decide +kernel
theorem dX7_adds_7 : decode cX7_adds 7 = .ok (.getfield 102, 3) := by decide +kernel
theorem dX7_adds_10 : decode cX7_adds 10 = .ok (.imul, 1) := by decide +kernel
theorem dX7_adds_11 : decode cX7_adds 11 = .ok (.iload_n 1, 1) := by decide +kernel
theorem dX7_adds_12 : decode cX7_adds 12 = .ok (.iastore, 1) := by decide +kernel
theorem dX7_adds_13 : decode cX7_adds 13 = .ok (.aload_n 0, 1) := by decide +kernel
theorem dX7_adds_14 : decode cX7_adds 14 = .ok (.aload_n 0, 1) := by decide +kernel
theorem dX7_adds_15 : decode cX7_adds 15 = .ok (.getfield 102, 3) := by decide +kernel
theorem dX7_adds_18 : decode cX7_adds 18 = .ok (.iload_n 2, 1) := by decide +kernel
theorem dX7_adds_19 : decode cX7_adds 19 = .ok (.iload_n 3, 1) := by decide +kernel
theorem dX7_adds_20 : decode cX7_adds 20 = .ok (.iload 4, 2) := by decide +kernel
theorem dX7_adds_22 : decode cX7_adds 22 = .ok (.invokevirtual 156, 3) := by decide +kernel
theorem dX7_adds_25 : decode cX7_adds 25 = .ok (.aload_n 0, 1) := by decide +kernel
theorem dX7_adds_26 : decode cX7_adds 26 = .ok (.dup, 1) := by decide +kernel
theorem dX7_adds_27 : decode cX7_adds 27 = .ok (.getfield 102, 3) := by decide +kernel
theorem dX7_adds_30 : decode cX7_adds 30 = .ok (.iconst 1, 1) := by decide +kernel
theorem dX7_adds_31 : decode cX7_adds 31 = .ok (.iadd, 1) := by decide +kernel
theorem dX7_adds_32 : decode cX7_adds 32 = .ok (.putfield 102, 3) := by decide +kernel
theorem dX7_adds_35 : decode cX7_adds 35 = .ok (.return_, 1) := by decide +kernel
theorem dX7_isLet_0 : decode cX7_isLet 0 = .ok (.aload_n 0, 1) := by decide +kernel
theorem dX7_isLet_1 : decode cX7_isLet 1 = .ok (.getfield 45, 3) := by decide +kernel
theorem dX7_isLet_4 : decode cX7_isLet 4 = .ok (.bipush 7, 2) := by decide +kernel
theorem dX7_isLet_6 : decode cX7_isLet 6 = .ok (.iload_n 1, 1) := by decide +kernel
theorem dX7_isLet_7 : decode cX7_isLet 7 = .ok (.imul, 1) := by decide +kernel
theorem dX7_isLet_8 : decode cX7_isLet 8 = .ok (.bipush 6, 2) := by decide +kernel
theorem dX7_isLet_10 : decode cX7_isLet 10 = .ok (.iadd, 1) := by decide +kernel
theorem dX7_isLet_11 : decode cX7_isLet 11 = .ok (.iaload, 1) := by decide +kernel
theorem dX7_isLet_12 : decode cX7_isLet 12 = .ok (.aload_n 0, 1) := by decide +kernel
theorem dX7_isLet_13 : decode cX7_isLet 13 = .ok (.getfield 159, 3) := by decide +kernel
theorem dX7_isLet_16 : decode cX7_isLet 16 = .ok (.if_icmp .le 7, 3) := by decide +kernel
theorem dX7_isLet_19 : decode cX7_isLet 19 = .ok (.iconst 1, 1) := by decide +kernel
theorem dX7_isLet_20 : decode cX7_isLet 20 = .ok (.goto 4, 3) := by decide +kernel
theorem dX7_isLet_23 : decode cX7_isLet 23 = .ok (.iconst 0, 1) := by decide +kernel
theorem dX7_isLet_24 : decode cX7_isLet 24 = .ok (.ireturn, 1) := by decide +kernel
set_option maxRecDepth 20000 in
theorem ggX7_noOwner_X7_in : GoodIn wsX7_noOwner wsX7_in := goodIn_r _ [4] (by decide +kernel) (by decide +kernel)
set_option maxRecDepth 20000 in
theorem gX7_noOwner_X7_in : GoodIn wsX7_noOwner (va_wsS RX7 94 yX7_in wsX7_in) := goodIn_app (goodIn_of _ (by decide +kernel)) ggX7_noOwner_X7_in
theorem dX7_noOwner_0 : decode cX7_noOwner 0 = .ok (.iload_n 0, 1) := by decide +kernel
theorem dX7_noOwner_1 : decode cX7_noOwner 1 = .ok (.iconst 0, 1) := by decide +kernel
theorem dX7_noOwner_2 : decode cX7_noOwner 2 = .ok (.bipush 30, 2) := by decide +kernel
theorem dX7_noOwner_4 : decode cX7_noOwner 4 = .ok (.invokestatic 94, 3) := by decide +kernel
theorem dX7_noOwner_7 : decode cX7_noOwner 7 = .ok (.ifCond .ne 7, 3) := by decide +kernel
theorem dX7_noOwner_10 : decode cX7_noOwner 10 = .ok (.iconst 1, 1) := by decide +kernel
theorem dX7_noOwner_11 : decode cX7_noOwner 11 = .ok (.goto 4, 3) := by decide +kernel
theorem dX7_noOwner_14 : decode cX7_noOwner 14 = .ok (.iconst 0, 1) := by decide +kernel
theorem dX7_noOwner_15 : decode cX7_noOwner 15 = .ok (.ireturn, 1) := by decide +kernel
set_option maxRecDepth 20000 in
theorem ggX7_sell_X7_noShare : GoodIn wsX7_sell wsX7_noShare := goodIn_r _ [8, 3, 9, 10, 7, 11, 32, 33, 34, 35, 36, 37, 38, 39, 40, 41, 42, 43, 44, 45, 46, 47, 48, 49, 50, 51, 52, 53, 54, 55, 56, 57, 58, 59, 60, 61, 62, 63, 64, 65, 66, 67] (by decide +kernel) (by decide +kernel)
set_option maxRecDepth 20000 in
theorem gX7_sell_X7_noShare : GoodIn wsX7_sell (wsV RX7 162 RX7 yX7_noShare wsX7_noShare) := goodIn_app (goodIn_of _ (by decide +kernel)) ggX7_sell_X7_noShare
set_option maxRecDepth 20000 in
theorem ggX7_sell_X7_throwsIf : GoodIn wsX7_sell wsX7_throwsIf := goodIn_r _ [15, 1, 32, 33, 34, 35, 36, 37, 38, 39, 40, 41, 42, 43, 44, 45, 46, 47, 48, 49, 50, 51, 52, 53, 54, 55, 56, 57, 58, 59, 60, 61, 62, 63, 64, 65, 66, 67] (by decide +kernel) (by decide +kernel)
set_option maxRecDepth 20000 in
theorem gX7_sell_X7_throwsIf : GoodIn wsX7_sell (wsV RX7 105 RX7 yX7_throwsIf wsX7_throwsIf) := goodIn_app (goodIn_of _ (by decide +kernel)) ggX7_sell_X7_throwsIf
set_option maxRecDepth 20000 in
theorem ggX7_sell_X7_isLet : GoodIn wsX7_sell wsX7_isLet := goodIn_r _ [19, 2, 20, 32, 33, 34, 35, 36, 37, 38, 39, 40, 41, 42, 43, 44, 45, 46, 47, 48, 49, 50, 51, 52, 53, 54, 55, 56, 57, 58, 59, 60, 61, 62, 63, 64, 65, 66, 67] (by decide +kernel) (by decide +kernel)
set_option maxRecDepth 20000 in
theorem gX7_sell_X7_isLet : GoodIn wsX7_sell (wsV RX7 165 RX7 yX7_isLet wsX7_isLet) := goodIn_app (goodIn_of _ (by decide +kernel)) ggX7_sell_X7_isLet
set_option maxRecDepth 20000 in
theorem ggX7_sell_X7_noOwner : GoodIn wsX7_sell wsX7_noOwner := goodIn_r _ [23, 9, 10, 7, 11] (by decide +kernel) (by decide +kernel)
set_option maxRecDepth 20000 in
theorem gX7_sell_X7_noOwner : GoodIn wsX7_sell (va_wsS RX7 168 yX7_noOwner wsX7_noOwner) := goodIn_app (goodIn_of _ (by decide +kernel)) ggX7_sell_X7_noOwner
set_option maxRecDepth 20000 in
theorem ggX7_sell_X7_sets : GoodIn wsX7_sell wsX7_sets := goodIn_r _ [27, 2, 32, 33, 34, 35, 36, 37, 38, 39, 40, 41, 42, 43, 44, 45, 46, 47, 48, 49, 50, 51, 52, 53, 54, 55, 56, 57, 58, 59, 60, 61, 62, 63, 64, 65, 66, 67] (by decide +kernel) (by decide +kernel)
set_option maxRecDepth 20000 in
theorem gX7_sell_X7_sets : GoodIn wsX7_sell (wsV RX7 156 RX7 yX7_sets wsX7_sets) := goodIn_app (goodIn_of _ (by decide +kernel)) ggX7_sell_X7_sets
set_option maxRecDepth 20000 in
theorem ggX7_sell_X7_adds : GoodIn wsX7_sell wsX7_adds := goodIn_r _ [31, 2, 3, 24, 25, 26, 7, 27, 32, 33, 34, 35, 36, 37, 38, 39, 40, 41, 42, 43, 44, 45, 46, 47, 48, 49, 50, 51, 52, 53, 54, 55, 56, 57, 58, 59, 60, 61, 62, 63, 64, 65, 66, 67] (by decide +kernel) (by decide +kernel)
set_option maxRecDepth 20000 in
theorem gX7_sell_X7_adds : GoodIn wsX7_sell (wsV RX7 132 RX7 yX7_adds wsX7_adds) := goodIn_app (goodIn_of _ (by decide +kernel)) ggX7_sell_X7_adds
theorem dX7_sell_0 : decode cX7_sell 0 = .ok (.aload_n 0, 1) := by decide +kernel
theorem dX7_sell_1 : decode cX7_sell 1 = .ok (.iconst 0, 1) := by decide +kernel
theorem dX7_sell_2 : decode cX7_sell 2 = .ok (.putfield 88, 3) := by decide +kernel
theorem dX7_sell_5 : decode cX7_sell 5 = .ok (.aload_n 0, 1) := by decide +kernel
theorem dX7_sell_6 : decode cX7_sell 6 = .ok (.aload_n 0, 1) := by decide +kernel
theorem dX7_sell_7 : decode cX7_sell 7 = .ok (.iload_n 1, 1) := by decide +kernel
theorem dX7_sell_8 : decode cX7_sell 8 = .ok (.invokevirtual 162, 3) := by decide +kernel
theorem dX7_sell_11 : decode cX7_sell 11 = .ok (.iconst 1, 1) := by decide +kernel
theorem dX7_sell_12 : decode cX7_sell 12 = .ok (.invokevirtual 105, 3) := by decide +kernel
theorem dX7_sell_15 : decode cX7_sell 15 = .ok (.ifCond .ne 16, 3) := by decide +kernel
theorem dX7_sell_18 : decode cX7_sell 18 = .ok (.aload_n 0, 1) := by decide +kernel
theorem dX7_sell_19 : decode cX7_sell 19 = .ok (.aload_n 0, 1) := by decide +kernel
theorem dX7_sell_20 : decode cX7_sell 20 = .ok (.iload_n 1, 1) := by decide +kernel
theorem dX7_sell_21 : decode cX7_sell 21 = .ok (.invokevirtual 165, 3) := by decide +kernel
theorem dX7_sell_24 : decode cX7_sell 24 = .ok (.iconst 2, 1) := by decide +kernel
theorem dX7_sell_25 : decode cX7_sell 25 = .ok (.invokevirtual 105, 3) := by decide +kernel
theorem dX7_sell_28 : decode cX7_sell 28 = .ok (.ifCond .eq 4, 3) := by decide +kernel
theorem dX7_sell_31 : decode cX7_sell 31 = .ok (.return_, 1) := by decide +kernel
theorem dX7_sell_32 : decode cX7_sell 32 = .ok (.bipush 7, 2) := by decide +kernel
theorem dX7_sell_34 : decode cX7_sell 34 = .ok (.iload_n 1, 1) := by decide +kernel
theorem dX7_sell_35 : decode cX7_sell 35 = .ok (.imul, 1) := by decide +kernel
theorem dX7_sell_36 : decode cX7_sell 36 = .ok (.istore 5, 2) := by decide +kernel
theorem dX7_sell_38 : decode cX7_sell 38 = .ok (.aload_n 0, 1) := by decide +kernel
theorem dX7_sell_39 : decode cX7_sell 39 = .ok (.getfield 45, 3) := by decide +kernel
theorem dX7_sell_42 : decode cX7_sell 42 = .ok (.iload 5, 2) := by decide +kernel
theorem dX7_sell_44 : decode cX7_sell 44 = .ok (.iconst 1, 1) := by decide +kernel
theorem dX7_sell_45 : decode cX7_sell 45 = .ok (.iadd, 1) := by decide +kernel
theorem dX7_sell_46 : decode cX7_sell 46 = .ok (.iaload, 1) := by decide +kernel
theorem dX7_sell_47 : decode cX7_sell 47 = .ok (.istore 6, 2) := by decide +kernel
theorem dX7_sell_49 : decode cX7_sell 49 = .ok (.aload_n 0, 1) := by decide +kernel
theorem dX7_sell_50 : decode cX7_sell 50 = .ok (.getfield 45, 3) := by decide +kernel
theorem dX7_sell_53 : decode cX7_sell 53 = .ok (.iload 5, 2) := by decide +kernel
theorem dX7_sell_55 : decode cX7_sell 55 = .ok (.iconst 2, 1) := by decide +kernel
theorem dX7_sell_56 : decode cX7_sell 56 = .ok (.iadd, 1) := by decide +kernel
theorem dX7_sell_57 : decode cX7_sell 57 = .ok (.iaload, 1) := by decide +kernel
theorem dX7_sell_58 : decode cX7_sell 58 = .ok (.istore 7, 2) := by decide +kernel
theorem dX7_sell_60 : decode cX7_sell 60 = .ok (.aload_n 0, 1) := by decide +kernel
theorem dX7_sell_61 : decode cX7_sell 61 = .ok (.getfield 45, 3) := by decide +kernel
theorem dX7_sell_64 : decode cX7_sell 64 = .ok (.iload 5, 2) := by decide +kernel
theorem dX7_sell_66 : decode cX7_sell 66 = .ok (.iconst 3, 1) := by decide +kernel
theorem dX7_sell_67 : decode cX7_sell 67 = .ok (.iadd, 1) := by decide +kernel
theorem dX7_sell_68 : decode cX7_sell 68 = .ok (.iaload, 1) := by decide +kernel
theorem dX7_sell_69 : decode cX7_sell 69 = .ok (.istore 8, 2) := by decide +kernel
theorem dX7_sell_71 : decode cX7_sell 71 = .ok (.iload 4, 2) := by decide +kernel
theorem dX7_sell_73 : decode cX7_sell 73 = .ok (.invokestatic 168, 3) := by decide +kernel
theorem dX7_sell_76 : decode cX7_sell 76 = .ok (.ifCond .ne 24, 3) := by decide +kernel
theorem dX7_sell_79 : decode cX7_sell 79 = .ok (.iload_n 2, 1) := by decide +kernel
theorem dX7_sell_80 : decode cX7_sell 80 = .ok (.iload 6, 2) := by decide +kernel
theorem dX7_sell_82 : decode cX7_sell 82 = .ok (.if_icmp .lt 18, 3) := by decide +kernel
theorem dX7_sell_85 : decode cX7_sell 85 = .ok (.iload_n 2, 1) := by decide +kernel
theorem dX7_sell_86 : decode cX7_sell 86 = .ok (.iload_n 3, 1) := by decide +kernel
theorem dX7_sell_87 : decode cX7_sell 87 = .ok (.if_icmp .ge 13, 3) := by decide +kernel
theorem dX7_sell_90 : decode cX7_sell 90 = .ok (.iload_n 3, 1) := by decide +kernel
theorem dX7_sell_91 : decode cX7_sell 91 = .ok (.iload 7, 2) := by decide +kernel
theorem dX7_sell_93 : decode cX7_sell 93 = .ok (.if_icmp .gt 7, 3) := by decide +kernel
theorem dX7_sell_96 : decode cX7_sell 96 = .ok (.iconst 1, 1) := by decide +kernel
theorem dX7_sell_97 : decode cX7_sell 97 = .ok (.goto 4, 3) := by decide +kernel
theorem dX7_sell_100 : decode cX7_sell 100 = .ok (.iconst 0, 1) := by decide +kernel
theorem dX7_sell_101 : decode cX7_sell 101 = .ok (.istore 9, 2) := by decide +kernel
theorem dX7_sell_103 : decode cX7_sell 103 = .ok (.iload_n 2, 1) := by decide +kernel
theorem dX7_sell_104 : decode cX7_sell 104 = .ok (.iload 6, 2) := by decide +kernel
theorem dX7_sell_106 : decode cX7_sell 106 = .ok (.if_icmp .le 7, 3) := by decide +kernel
theorem dX7_sell_109 : decode cX7_sell 109 = .ok (.iconst 1, 1) := by decide +kernel
theorem dX7_sell_110 : decode cX7_sell 110 = .ok (.goto 4, 3) := by decide +kernel
theorem dX7_sell_113 : decode cX7_sell 113 = .ok (.iconst 0, 1) := by decide +kernel
theorem dX7_sell_114 : decode cX7_sell 114 = .ok (.iload_n 3, 1) := by decide +kernel
theorem dX7_sell_115 : decode cX7_sell 115 = .ok (.iload 7, 2) := by decide +kernel
theorem dX7_sell_117 : decode cX7_sell 117 = .ok (.if_icmp .ge 7, 3) := by decide +kernel
theorem dX7_sell_120 : decode cX7_sell 120 = .ok (.iconst 1, 1) := by decide +kernel
theorem dX7_sell_121 : decode cX7_sell 121 = .ok (.goto 4, 3) := by decide +kernel
theorem dX7_sell_124 : decode cX7_sell 124 = .ok (.iconst 0, 1) := by decide +kernel
theorem dX7_sell_125 : decode cX7_sell 125 = .ok (.iadd, 1) := by decide +kernel
theorem dX7_sell_126 : decode cX7_sell 126 = .ok (.istore 10, 2) := by decide +kernel
theorem dX7_sell_128 : decode cX7_sell 128 = .ok (.aload_n 0, 1) := by decide +kernel
theorem dX7_sell_129 : decode cX7_sell 129 = .ok (.iload 9, 2) := by decide +kernel
theorem dX7_sell_131 : decode cX7_sell 131 = .ok (.ifCond .ne 7, 3) := by decide +kernel
theorem dX7_sell_134 : decode cX7_sell 134 = .ok (.iconst 1, 1) := by decide +kernel
theorem dX7_sell_135 : decode cX7_sell 135 = .ok (.goto 4, 3) := by decide +kernel
theorem dX7_sell_138 : decode cX7_sell 138 = .ok (.iconst 0, 1) := by decide +kernel
theorem dX7_sell_139 : decode cX7_sell 139 = .ok (.iconst 3, 1) := by decide +kernel
theorem dX7_sell_140 : decode cX7_sell 140 = .ok (.invokevirtual 105, 3) := by decide +kernel
theorem dX7_sell_143 : decode cX7_sell 143 = .ok (.ifCond .ne 28, 3) := by decide +kernel
theorem dX7_sell_146 : decode cX7_sell 146 = .ok (.aload_n 0, 1) := by decide +kernel
theorem dX7_sell_147 : decode cX7_sell 147 = .ok (.aload_n 0, 1) := by decide +kernel
theorem dX7_sell_148 : decode cX7_sell 148 = .ok (.getfield 102, 3) := by decide +kernel
theorem dX7_sell_151 : decode cX7_sell 151 = .ok (.iload 10, 2) := by decide +kernel
theorem dX7_sell_153 : decode cX7_sell 153 = .ok (.iadd, 1) := by decide +kernel
theorem dX7_sell_154 : decode cX7_sell 154 = .ok (.bipush 60, 2) := by decide +kernel
theorem dX7_sell_156 : decode cX7_sell 156 = .ok (.if_icmp .le 7, 3) := by decide +kernel
theorem dX7_sell_159 : decode cX7_sell 159 = .ok (.iconst 1, 1) := by decide +kernel
theorem dX7_sell_160 : decode cX7_sell 160 = .ok (.goto 4, 3) := by decide +kernel
theorem dX7_sell_163 : decode cX7_sell 163 = .ok (.iconst 0, 1) := by decide +kernel
theorem dX7_sell_164 : decode cX7_sell 164 = .ok (.iconst 4, 1) := by decide +kernel
theorem dX7_sell_165 : decode cX7_sell 165 = .ok (.invokevirtual 105, 3) := by decide +kernel
theorem dX7_sell_168 : decode cX7_sell 168 = .ok (.ifCond .eq 4, 3) := by decide +kernel
theorem dX7_sell_171 : decode cX7_sell 171 = .ok (.return_, 1) := by decide +kernel
theorem dX7_sell_172 : decode cX7_sell 172 = .ok (.aload_n 0, 1) := by decide +kernel
theorem dX7_sell_173 : decode cX7_sell 173 = .ok (.iload_n 1, 1) := by decide +kernel
theorem dX7_sell_174 : decode cX7_sell 174 = .ok (.iload_n 2, 1) := by decide +kernel
theorem dX7_sell_175 : decode cX7_sell 175 = .ok (.iload_n 3, 1) := by decide +kernel
theorem dX7_sell_176 : decode cX7_sell 176 = .ok (.iload 4, 2) := by decide +kernel
theorem dX7_sell_178 : decode cX7_sell 178 = .ok (.invokevirtual 156, 3) := by decide +kernel
theorem dX7_sell_181 : decode cX7_sell 181 = .ok (.iload_n 2, 1) := by decide +kernel
theorem dX7_sell_182 : decode cX7_sell 182 = .ok (.iload 6, 2) := by decide +kernel
theorem dX7_sell_184 : decode cX7_sell 184 = .ok (.if_icmp .le 19, 3) := by decide +kernel
theorem dX7_sell_187 : decode cX7_sell 187 = .ok (.aload_n 0, 1) := by decide +kernel
theorem dX7_sell_188 : decode cX7_sell 188 = .ok (.aload_n 0, 1) := by decide +kernel
theorem dX7_sell_189 : decode cX7_sell 189 = .ok (.getfield 45, 3) := by decide +kernel
theorem dX7_sell_192 : decode cX7_sell 192 = .ok (.iload 5, 2) := by decide +kernel
theorem dX7_sell_194 : decode cX7_sell 194 = .ok (.iaload, 1) := by decide +kernel
theorem dX7_sell_195 : decode cX7_sell 195 = .ok (.iload 6, 2) := by decide +kernel
theorem dX7_sell_197 : decode cX7_sell 197 = .ok (.iload_n 2, 1) := by decide +kernel
theorem dX7_sell_198 : decode cX7_sell 198 = .ok (.iload 8, 2) := by decide +kernel
theorem dX7_sell_200 : decode cX7_sell 200 = .ok (.invokevirtual 132, 3) := by decide +kernel
theorem dX7_sell_203 : decode cX7_sell 203 = .ok (.iload_n 3, 1) := by decide +kernel
theorem dX7_sell_204 : decode cX7_sell 204 = .ok (.iload 7, 2) := by decide +kernel
theorem dX7_sell_206 : decode cX7_sell 206 = .ok (.if_icmp .ge 19, 3) := by decide +kernel
theorem dX7_sell_209 : decode cX7_sell 209 = .ok (.aload_n 0, 1) := by decide +kernel
theorem dX7_sell_210 : decode cX7_sell 210 = .ok (.aload_n 0, 1) := by decide +kernel
theorem dX7_sell_211 : decode cX7_sell 211 = .ok (.getfield 45, 3) := by decide +kernel
theorem dX7_sell_214 : decode cX7_sell 214 = .ok (.iload 5, 2) := by decide +kernel
theorem dX7_sell_216 : decode cX7_sell 216 = .ok (.iaload, 1) := by decide +kernel
theorem dX7_sell_217 : decode cX7_sell 217 = .ok (.iload_n 3, 1) := by decide +kernel
theorem dX7_sell_218 : decode cX7_sell 218 = .ok (.iload 7, 2) := by decide +kernel
theorem dX7_sell_220 : decode cX7_sell 220 = .ok (.iload 8, 2) := by decide +kernel
theorem dX7_sell_222 : decode cX7_sell 222 = .ok (.invokevirtual 132, 3) := by decide +kernel
theorem dX7_sell_225 : decode cX7_sell 225 = .ok (.return_, 1) := by decide +kernel
set_option maxRecDepth 20000 in
theorem ggX7_heirs_X7_noShare : GoodIn wsX7_heirs wsX7_noShare := goodIn_r _ [11, 6, 12, 13, 10, 14, 35, 36, 37, 38, 39, 40, 41, 42, 43, 44, 45, 46, 47, 48, 49, 50, 51, 52, 53, 54, 55, 56, 57, 58, 59, 60, 61, 62, 63, 64, 65, 66, 67, 68, 69, 70] (by decide +kernel) (by decide +kernel)
set_option maxRecDepth 20000 in
theorem gX7_heirs_X7_noShare : GoodIn wsX7_heirs (wsV RX7 162 RX7 yX7_noShare wsX7_noShare) := goodIn_app (goodIn_of _ (by decide +kernel)) ggX7_heirs_X7_noShare
set_option maxRecDepth 20000 in
theorem ggX7_heirs_X7_throwsIf : GoodIn wsX7_heirs wsX7_throwsIf := goodIn_r _ [18, 1, 35, 36, 37, 38, 39, 40, 41, 42, 43, 44, 45, 46, 47, 48, 49, 50, 51, 52, 53, 54, 55, 56, 57, 58, 59, 60, 61, 62, 63, 64, 65, 66, 67, 68, 69, 70] (by decide +kernel) (by decide +kernel)
set_option maxRecDepth 20000 in
theorem gX7_heirs_X7_throwsIf : GoodIn wsX7_heirs (wsV RX7 105 RX7 yX7_throwsIf wsX7_throwsIf) := goodIn_app (goodIn_of _ (by decide +kernel)) ggX7_heirs_X7_throwsIf
set_option maxRecDepth 20000 in
theorem ggX7_heirs_X7_isLet : GoodIn wsX7_heirs wsX7_isLet := goodIn_r _ [22, 4, 23, 35, 36, 37, 38, 39, 40, 41, 42, 43, 44, 45, 46, 47, 48, 49, 50, 51, 52, 53, 54, 55, 56, 57, 58, 59, 60, 61, 62, 63, 64, 65, 66, 67, 68, 69, 70] (by decide +kernel) (by decide +kernel)
set_option maxRecDepth 20000 in
theorem gX7_heirs_X7_isLet : GoodIn wsX7_heirs (wsV RX7 165 RX7 yX7_isLet wsX7_isLet) := goodIn_app (goodIn_of _ (by decide +kernel)) ggX7_heirs_X7_isLet
set_option maxRecDepth 20000 in
theorem ggX7_heirs_X7_in : GoodIn wsX7_heirs wsX7_in := goodIn_r _ [14] (by decide +kernel) (by decide +kernel)
set_option maxRecDepth 20000 in
theorem gX7_heirs_X7_in : GoodIn wsX7_heirs (va_wsS RX7 94 yX7_in wsX7_in) := goodIn_app (goodIn_of _ (by decide +kernel)) ggX7_heirs_X7_in
set_option maxRecDepth 20000 in
theorem ggX7_heirs_X7_noOwner : GoodIn wsX7_heirs wsX7_noOwner := goodIn_r _ [26, 12, 13, 10, 14] (by decide +kernel) (by decide +kernel)
set_option maxRecDepth 20000 in
theorem gX7_heirs_X7_noOwner : GoodIn wsX7_heirs (va_wsS RX7 168 yX7_noOwner wsX7_noOwner) := goodIn_app (goodIn_of _ (by decide +kernel)) ggX7_heirs_X7_noOwner
set_option maxRecDepth 20000 in
theorem ggX7_heirs_X7_sets : GoodIn wsX7_heirs wsX7_sets := goodIn_r _ [30, 4, 35, 36, 37, 38, 39, 40, 41, 42, 43, 44, 45, 46, 47, 48, 49, 50, 51, 52, 53, 54, 55, 56, 57, 58, 59, 60, 61, 62, 63, 64, 65, 66, 67, 68, 69, 70] (by decide +kernel) (by decide +kernel)
set_option maxRecDepth 20000 in
theorem gX7_heirs_X7_sets : GoodIn wsX7_heirs (wsV RX7 156 RX7 yX7_sets wsX7_sets) := goodIn_app (goodIn_of _ (by decide +kernel)) ggX7_heirs_X7_sets
set_option maxRecDepth 20000 in
theorem ggX7_heirs_X7_adds : GoodIn wsX7_heirs wsX7_adds := goodIn_r _ [34, 4, 6, 27, 28, 29, 10, 30, 35, 36, 37, 38, 39, 40, 41, 42, 43, 44, 45, 46, 47, 48, 49, 50, 51, 52, 53, 54, 55, 56, 57, 58, 59, 60, 61, 62, 63, 64, 65, 66, 67, 68, 69, 70] (by decide +kernel) (by decide +kernel)
set_option maxRecDepth 20000 in
theorem gX7_heirs_X7_adds : GoodIn wsX7_heirs (wsV RX7 132 RX7 yX7_adds wsX7_adds) := goodIn_app (goodIn_of _ (by decide +kernel)) ggX7_heirs_X7_adds
theorem dX7_heirs_0 : decode cX7_heirs 0 = .ok (.aload_n 0, 1) := by decide +kernel
theorem dX7_heirs_1 : decode cX7_heirs 1 = .ok (.iconst 0, 1) := by decide +kernel
theorem dX7_heirs_2 : decode cX7_heirs 2 = .ok (.putfield 88, 3) := by decide +kernel
theorem dX7_heirs_5 : decode cX7_heirs 5 = .ok (.aload_n 0, 1) := by decide +kernel
theorem dX7_heirs_6 : decode cX7_heirs 6 = .ok (.aload_n 0, 1) := by decide +kernel
theorem dX7_heirs_7 : decode cX7_heirs 7 = .ok (.iload_n 1, 1) := by decide +kernel
theorem dX7_heirs_8 : decode cX7_heirs 8 = .ok (.invokevirtual 162, 3) := by decide +kernel
theorem dX7_heirs_11 : decode cX7_heirs 11 = .ok (.iconst 1, 1) := by decide +kernel
theorem dX7_heirs_12 : decode cX7_heirs 12 = .ok (.invokevirtual 105, 3) := by decide +kernel
theorem dX7_heirs_15 : decode cX7_heirs 15 = .ok (.ifCond .ne 16, 3) := by decide +kernel
theorem dX7_heirs_18 : decode cX7_heirs 18 = .ok (.aload_n 0, 1) := by decide +kernel
theorem dX7_heirs_19 : decode cX7_heirs 19 = .ok (.aload_n 0, 1) := by decide +kernel
theorem dX7_heirs_20 : decode cX7_heirs 20 = .ok (.iload_n 1, 1) := by decide +kernel
theorem dX7_heirs_21 : decode cX7_heirs 21 = .ok (.invokevirtual 165, 3) := by decide +kernel
theorem dX7_heirs_24 : decode cX7_heirs 24 = .ok (.iconst 2, 1) := by decide +kernel
theorem dX7_heirs_25 : decode cX7_heirs 25 = .ok (.invokevirtual 105, 3) := by decide +kernel
theorem dX7_heirs_28 : decode cX7_heirs 28 = .ok (.ifCond .eq 5, 3) := by decide +kernel
theorem dX7_heirs_31 : decode cX7_heirs 31 = .ok (.iconst 0, 1) := by decide +kernel
theorem dX7_heirs_32 : decode cX7_heirs 32 = .ok (.ireturn, 1) := by decide +kernel
theorem dX7_heirs_33 : decode cX7_heirs 33 = .ok (.aload_n 0, 1) := by decide +kernel
theorem dX7_heirs_34 : decode cX7_heirs 34 = .ok (.getfield 48, 3) := by decide +kernel
theorem dX7_heirs_37 : decode cX7_heirs 37 = .ok (.iconst 0, 1) := by decide +kernel
theorem dX7_heirs_38 : decode cX7_heirs 38 = .ok (.iload_n 3, 1) := by decide +kernel
theorem dX7_heirs_39 : decode cX7_heirs 39 = .ok (.iastore, 1) := by decide +kernel
theorem dX7_heirs_40 : decode cX7_heirs 40 = .ok (.aload_n 0, 1) := by decide +kernel
theorem dX7_heirs_41 : decode cX7_heirs 41 = .ok (.getfield 48, 3) := by decide +kernel
theorem dX7_heirs_44 : decode cX7_heirs 44 = .ok (.iconst 1, 1) := by decide +kernel
theorem dX7_heirs_45 : decode cX7_heirs 45 = .ok (.iload 5, 2) := by decide +kernel
theorem dX7_heirs_47 : decode cX7_heirs 47 = .ok (.iastore, 1) := by decide +kernel
theorem dX7_heirs_48 : decode cX7_heirs 48 = .ok (.aload_n 0, 1) := by decide +kernel
theorem dX7_heirs_49 : decode cX7_heirs 49 = .ok (.getfield 48, 3) := by decide +kernel
theorem dX7_heirs_52 : decode cX7_heirs 52 = .ok (.iconst 2, 1) := by decide +kernel
theorem dX7_heirs_53 : decode cX7_heirs 53 = .ok (.iload 7, 2) := by decide +kernel
theorem dX7_heirs_55 : decode cX7_heirs 55 = .ok (.iastore, 1) := by decide +kernel
theorem dX7_heirs_56 : decode cX7_heirs 56 = .ok (.aload_n 0, 1) := by decide +kernel
theorem dX7_heirs_57 : decode cX7_heirs 57 = .ok (.getfield 48, 3) := by decide +kernel
theorem dX7_heirs_60 : decode cX7_heirs 60 = .ok (.iconst 3, 1) := by decide +kernel
theorem dX7_heirs_61 : decode cX7_heirs 61 = .ok (.iload 9, 2) := by decide +kernel
theorem dX7_heirs_63 : decode cX7_heirs 63 = .ok (.iastore, 1) := by decide +kernel
theorem dX7_heirs_64 : decode cX7_heirs 64 = .ok (.aload_n 0, 1) := by decide +kernel
theorem dX7_heirs_65 : decode cX7_heirs 65 = .ok (.getfield 51, 3) := by decide +kernel
theorem dX7_heirs_68 : decode cX7_heirs 68 = .ok (.iconst 0, 1) := by decide +kernel
theorem dX7_heirs_69 : decode cX7_heirs 69 = .ok (.iload 4, 2) := by decide +kernel
theorem dX7_heirs_71 : decode cX7_heirs 71 = .ok (.iastore, 1) := by decide +kernel
theorem dX7_heirs_72 : decode cX7_heirs 72 = .ok (.aload_n 0, 1) := by decide +kernel
theorem dX7_heirs_73 : decode cX7_heirs 73 = .ok (.getfield 51, 3) := by decide +kernel
theorem dX7_heirs_76 : decode cX7_heirs 76 = .ok (.iconst 1, 1) := by decide +kernel
theorem dX7_heirs_77 : decode cX7_heirs 77 = .ok (.iload 6, 2) := by decide +kernel
theorem dX7_heirs_79 : decode cX7_heirs 79 = .ok (.iastore, 1) := by decide +kernel
theorem dX7_heirs_80 : decode cX7_heirs 80 = .ok (.aload_n 0, 1) := by decide +kernel
theorem dX7_heirs_81 : decode cX7_heirs 81 = .ok (.getfield 51, 3) := by decide +kernel
theorem dX7_heirs_84 : decode cX7_heirs 84 = .ok (.iconst 2, 1) := by decide +kernel
theorem dX7_heirs_85 : decode cX7_heirs 85 = .ok (.iload 8, 2) := by decide +kernel
theorem dX7_heirs_87 : decode cX7_heirs 87 = .ok (.iastore, 1) := by decide +kernel
theorem dX7_heirs_88 : decode cX7_heirs 88 = .ok (.aload_n 0, 1) := by decide +kernel
theorem dX7_heirs_89 : decode cX7_heirs 89 = .ok (.getfield 51, 3) := by decide +kernel
theorem dX7_heirs_92 : decode cX7_heirs 92 = .ok (.iconst 3, 1) := by decide +kernel
theorem dX7_heirs_93 : decode cX7_heirs 93 = .ok (.iload 10, 2) := by decide +kernel
theorem dX7_heirs_95 : decode cX7_heirs 95 = .ok (.iastore, 1) := by decide +kernel
theorem dX7_heirs_96 : decode cX7_heirs 96 = .ok (.iload_n 2, 1) := by decide +kernel
theorem dX7_heirs_97 : decode cX7_heirs 97 = .ok (.iconst 2, 1) := by decide +kernel
theorem dX7_heirs_98 : decode cX7_heirs 98 = .ok (.iconst 4, 1) := by decide +kernel
theorem dX7_heirs_99 : decode cX7_heirs 99 = .ok (.invokestatic 94, 3) := by decide +kernel
theorem dX7_heirs_102 : decode cX7_heirs 102 = .ok (.istore 11, 2) := by decide +kernel
theorem dX7_heirs_104 : decode cX7_heirs 104 = .ok (.iconst 0, 1) := by decide +kernel
theorem dX7_heirs_105 : decode cX7_heirs 105 = .ok (.istore 12, 2) := by decide +kernel
theorem dX7_heirs_107 : decode cX7_heirs 107 = .ok (.iload 11, 2) := by decide +kernel
theorem dX7_heirs_109 : decode cX7_heirs 109 = .ok (.ifCond .eq 51, 3) := by decide +kernel
theorem dX7_heirs_112 : decode cX7_heirs 112 = .ok (.iload 12, 2) := by decide +kernel
theorem dX7_heirs_114 : decode cX7_heirs 114 = .ok (.iload_n 2, 1) := by decide +kernel
theorem dX7_heirs_115 : decode cX7_heirs 115 = .ok (.if_icmp .ge 45, 3) := by decide +kernel
theorem dX7_heirs_118 : decode cX7_heirs 118 = .ok (.aload_n 0, 1) := by decide +kernel
theorem dX7_heirs_119 : decode cX7_heirs 119 = .ok (.getfield 48, 3) := by decide +kernel
theorem dX7_heirs_122 : decode cX7_heirs 122 = .ok (.iload 12, 2) := by decide +kernel
theorem dX7_heirs_124 : decode cX7_heirs 124 = .ok (.iaload, 1) := by decide +kernel
theorem dX7_heirs_125 : decode cX7_heirs 125 = .ok (.invokestatic 168, 3) := by decide +kernel
theorem dX7_heirs_128 : decode cX7_heirs 128 = .ok (.ifCond .ne 23, 3) := by decide +kernel
theorem dX7_heirs_131 : decode cX7_heirs 131 = .ok (.aload_n 0, 1) := by decide +kernel
theorem dX7_heirs_132 : decode cX7_heirs 132 = .ok (.getfield 51, 3) := by decide +kernel
theorem dX7_heirs_135 : decode cX7_heirs 135 = .ok (.iload 12, 2) := by decide +kernel
theorem dX7_heirs_137 : decode cX7_heirs 137 = .ok (.iaload, 1) := by decide +kernel
theorem dX7_heirs_138 : decode cX7_heirs 138 = .ok (.iconst 1, 1) := by decide +kernel
theorem dX7_heirs_139 : decode cX7_heirs 139 = .ok (.bipush 100, 2) := by decide +kernel
theorem dX7_heirs_141 : decode cX7_heirs 141 = .ok (.invokestatic 94, 3) := by decide +kernel
theorem dX7_heirs_144 : decode cX7_heirs 144 = .ok (.ifCond .eq 7, 3) := by decide +kernel
theorem dX7_heirs_147 : decode cX7_heirs 147 = .ok (.iconst 1, 1) := by decide +kernel
theorem dX7_heirs_148 : decode cX7_heirs 148 = .ok (.goto 4, 3) := by decide +kernel
theorem dX7_heirs_151 : decode cX7_heirs 151 = .ok (.iconst 0, 1) := by decide +kernel
theorem dX7_heirs_152 : decode cX7_heirs 152 = .ok (.istore 11, 2) := by decide +kernel
theorem dX7_heirs_154 : decode cX7_heirs 154 = .ok (.iinc 12 1, 3) := by decide +kernel
theorem dX7_heirs_157 : decode cX7_heirs 157 = .ok (.goto (-50), 3) := by decide +kernel
theorem dX7_heirs_160 : decode cX7_heirs 160 = .ok (.aload_n 0, 1) := by decide +kernel
theorem dX7_heirs_161 : decode cX7_heirs 161 = .ok (.iload 11, 2) := by decide +kernel
theorem dX7_heirs_163 : decode cX7_heirs 163 = .ok (.ifCond .ne 7, 3) := by decide +kernel
theorem dX7_heirs_166 : decode cX7_heirs 166 = .ok (.iconst 1, 1) := by decide +kernel
theorem dX7_heirs_167 : decode cX7_heirs 167 = .ok (.goto 4, 3) := by decide +kernel
theorem dX7_heirs_170 : decode cX7_heirs 170 = .ok (.iconst 0, 1) := by decide +kernel
theorem dX7_heirs_171 : decode cX7_heirs 171 = .ok (.iconst 3, 1) := by decide +kernel
theorem dX7_heirs_172 : decode cX7_heirs 172 = .ok (.invokevirtual 105, 3) := by decide +kernel
theorem dX7_heirs_175 : decode cX7_heirs 175 = .ok (.ifCond .eq 5, 3) := by decide +kernel
theorem dX7_heirs_178 : decode cX7_heirs 178 = .ok (.iconst 0, 1) := by decide +kernel
theorem dX7_heirs_179 : decode cX7_heirs 179 = .ok (.ireturn, 1) := by decide +kernel
theorem dX7_heirs_180 : decode cX7_heirs 180 = .ok (.bipush 7, 2) := by decide +kernel
theorem dX7_heirs_182 : decode cX7_heirs 182 = .ok (.iload_n 1, 1) := by decide +kernel
theorem dX7_heirs_183 : decode cX7_heirs 183 = .ok (.imul, 1) := by decide +kernel
theorem dX7_heirs_184 : decode cX7_heirs 184 = .ok (.istore 12, 2) := by decide +kernel
theorem dX7_heirs_186 : decode cX7_heirs 186 = .ok (.aload_n 0, 1) := by decide +kernel
theorem dX7_heirs_187 : decode cX7_heirs 187 = .ok (.getfield 45, 3) := by decide +kernel
theorem dX7_heirs_190 : decode cX7_heirs 190 = .ok (.iload 12, 2) := by decide +kernel
theorem dX7_heirs_192 : decode cX7_heirs 192 = .ok (.iconst 1, 1) := by decide +kernel
theorem dX7_heirs_193 : decode cX7_heirs 193 = .ok (.iadd, 1) := by decide +kernel
theorem dX7_heirs_194 : decode cX7_heirs 194 = .ok (.iaload, 1) := by decide +kernel
theorem dX7_heirs_195 : decode cX7_heirs 195 = .ok (.istore 13, 2) := by decide +kernel
theorem dX7_heirs_197 : decode cX7_heirs 197 = .ok (.aload_n 0, 1) := by decide +kernel
theorem dX7_heirs_198 : decode cX7_heirs 198 = .ok (.getfield 45, 3) := by decide +kernel
theorem dX7_heirs_201 : decode cX7_heirs 201 = .ok (.iload 12, 2) := by decide +kernel
theorem dX7_heirs_203 : decode cX7_heirs 203 = .ok (.iconst 2, 1) := by decide +kernel
theorem dX7_heirs_204 : decode cX7_heirs 204 = .ok (.iadd, 1) := by decide +kernel
theorem dX7_heirs_205 : decode cX7_heirs 205 = .ok (.iaload, 1) := by decide +kernel
theorem dX7_heirs_206 : decode cX7_heirs 206 = .ok (.iload 13, 2) := by decide +kernel
theorem dX7_heirs_208 : decode cX7_heirs 208 = .ok (.isub, 1) := by decide +kernel
theorem dX7_heirs_209 : decode cX7_heirs 209 = .ok (.istore 14, 2) := by decide +kernel
theorem dX7_heirs_211 : decode cX7_heirs 211 = .ok (.iconst 0, 1) := by decide +kernel
theorem dX7_heirs_212 : decode cX7_heirs 212 = .ok (.istore 15, 2) := by decide +kernel
theorem dX7_heirs_214 : decode cX7_heirs 214 = .ok (.iconst 0, 1) := by decide +kernel
theorem dX7_heirs_215 : decode cX7_heirs 215 = .ok (.istore 16, 2) := by decide +kernel
theorem dX7_heirs_217 : decode cX7_heirs 217 = .ok (.iload 16, 2) := by decide +kernel
theorem dX7_heirs_219 : decode cX7_heirs 219 = .ok (.iload_n 2, 1) := by decide +kernel
theorem dX7_heirs_220 : decode cX7_heirs 220 = .ok (.if_icmp .ge 21, 3) := by decide +kernel
theorem dX7_heirs_223 : decode cX7_heirs 223 = .ok (.iload 15, 2) := by decide +kernel
theorem dX7_heirs_225 : decode cX7_heirs 225 = .ok (.aload_n 0, 1) := by decide +kernel
theorem dX7_heirs_226 : decode cX7_heirs 226 = .ok (.getfield 51, 3) := by decide +kernel
theorem dX7_heirs_229 : decode cX7_heirs 229 = .ok (.iload 16, 2) := by decide +kernel
theorem dX7_heirs_231 : decode cX7_heirs 231 = .ok (.iaload, 1) := by decide +kernel
theorem dX7_heirs_232 : decode cX7_heirs 232 = .ok (.iadd, 1) := by decide +kernel
theorem dX7_heirs_233 : decode cX7_heirs 233 = .ok (.istore 15, 2) := by decide +kernel
theorem dX7_heirs_235 : decode cX7_heirs 235 = .ok (.iinc 16 1, 3) := by decide +kernel
theorem dX7_heirs_238 : decode cX7_heirs 238 = .ok (.goto (-21), 3) := by decide +kernel
theorem dX7_heirs_241 : decode cX7_heirs 241 = .ok (.iload 14, 2) := by decide +kernel
theorem dX7_heirs_243 : decode cX7_heirs 243 = .ok (.istore 16, 2) := by decide +kernel
theorem dX7_heirs_245 : decode cX7_heirs 245 = .ok (.iconst 0, 1) := by decide +kernel
theorem dX7_heirs_246 : decode cX7_heirs 246 = .ok (.istore 17, 2) := by decide +kernel
theorem dX7_heirs_248 : decode cX7_heirs 248 = .ok (.iload 17, 2) := by decide +kernel
theorem dX7_heirs_250 : decode cX7_heirs 250 = .ok (.iload_n 2, 1) := by decide +kernel
theorem dX7_heirs_251 : decode cX7_heirs 251 = .ok (.if_icmp .ge 41, 3) := by decide +kernel
theorem dX7_heirs_254 : decode cX7_heirs 254 = .ok (.aload_n 0, 1) := by decide +kernel
theorem dX7_heirs_255 : decode cX7_heirs 255 = .ok (.getfield 54, 3) := by decide +kernel
theorem dX7_heirs_258 : decode cX7_heirs 258 = .ok (.iload 17, 2) := by decide +kernel
theorem dX7_heirs_260 : decode cX7_heirs 260 = .ok (.iload 14, 2) := by decide +kernel
theorem dX7_heirs_262 : decode cX7_heirs 262 = .ok (.aload_n 0, 1) := by decide +kernel
theorem dX7_heirs_263 : decode cX7_heirs 263 = .ok (.getfield 51, 3) := by decide +kernel
theorem dX7_heirs_266 : decode cX7_heirs 266 = .ok (.iload 17, 2) := by decide +kernel
theorem dX7_heirs_268 : decode cX7_heirs 268 = .ok (.iaload, 1) := by decide +kernel
theorem dX7_heirs_269 : decode cX7_heirs 269 = .ok (.imul, 1) := by decide +kernel
theorem dX7_heirs_270 : decode cX7_heirs 270 = .ok (.iload 15, 2) := by decide +kernel
theorem dX7_heirs_272 : decode cX7_heirs 272 = .ok (.idiv, 1) := by decide +kernel
theorem dX7_heirs_273 : decode cX7_heirs 273 = .ok (.iastore, 1) := by decide +kernel
theorem dX7_heirs_274 : decode cX7_heirs 274 = .ok (.iload 16, 2) := by decide +kernel
theorem dX7_heirs_276 : decode cX7_heirs 276 = .ok (.aload_n 0, 1) := by decide +kernel
theorem dX7_heirs_277 : decode cX7_heirs 277 = .ok (.getfield 54, 3) := by decide +kernel
theorem dX7_heirs_280 : decode cX7_heirs 280 = .ok (.iload 17, 2) := by decide +kernel
theorem dX7_heirs_282 : decode cX7_heirs 282 = .ok (.iaload, 1) := by decide +kernel
theorem dX7_heirs_283 : decode cX7_heirs 283 = .ok (.isub, 1) := by decide +kernel
theorem dX7_heirs_284 : decode cX7_heirs 284 = .ok (.istore 16, 2) := by decide +kernel
theorem dX7_heirs_286 : decode cX7_heirs 286 = .ok (.iinc 17 1, 3) := by decide +kernel
theorem dX7_heirs_289 : decode cX7_heirs 289 = .ok (.goto (-41), 3) := by decide +kernel
theorem dX7_heirs_292 : decode cX7_heirs 292 = .ok (.iconst 0, 1) := by decide +kernel
theorem dX7_heirs_293 : decode cX7_heirs 293 = .ok (.istore 17, 2) := by decide +kernel
theorem dX7_heirs_295 : decode cX7_heirs 295 = .ok (.iconst 0, 1) := by decide +kernel
theorem dX7_heirs_296 : decode cX7_heirs 296 = .ok (.istore 18, 2) := by decide +kernel
theorem dX7_heirs_298 : decode cX7_heirs 298 = .ok (.iload 18, 2) := by decide +kernel
theorem dX7_heirs_300 : decode cX7_heirs 300 = .ok (.iload_n 2, 1) := by decide +kernel
theorem dX7_heirs_301 : decode cX7_heirs 301 = .ok (.if_icmp .ge 51, 3) := by decide +kernel
theorem dX7_heirs_304 : decode cX7_heirs 304 = .ok (.aload_n 0, 1) := by decide +kernel
theorem dX7_heirs_305 : decode cX7_heirs 305 = .ok (.getfield 54, 3) := by decide +kernel
theorem dX7_heirs_308 : decode cX7_heirs 308 = .ok (.iload 18, 2) := by decide +kernel
theorem dX7_heirs_310 : decode cX7_heirs 310 = .ok (.dup2, 1) := by decide +kernel
theorem dX7_heirs_311 : decode cX7_heirs 311 = .ok (.iaload, 1) := by decide +kernel
theorem dX7_heirs_312 : decode cX7_heirs 312 = .ok (.iload 18, 2) := by decide +kernel
theorem dX7_heirs_314 : decode cX7_heirs 314 = .ok (.iload 16, 2) := by decide +kernel
theorem dX7_heirs_316 : decode cX7_heirs 316 = .ok (.if_icmp .ge 7, 3) := by decide +kernel
theorem dX7_heirs_319 : decode cX7_heirs 319 = .ok (.iconst 1, 1) := by decide +kernel
theorem dX7_heirs_320 : decode cX7_heirs 320 = .ok (.goto 4, 3) := by decide +kernel
theorem dX7_heirs_323 : decode cX7_heirs 323 = .ok (.iconst 0, 1) := by decide +kernel
theorem dX7_heirs_324 : decode cX7_heirs 324 = .ok (.iadd, 1) := by decide +kernel
theorem dX7_heirs_325 : decode cX7_heirs 325 = .ok (.iastore, 1) := by decide +kernel
theorem dX7_heirs_326 : decode cX7_heirs 326 = .ok (.iload 17, 2) := by decide +kernel
theorem dX7_heirs_328 : decode cX7_heirs 328 = .ok (.aload_n 0, 1) := by decide +kernel
theorem dX7_heirs_329 : decode cX7_heirs 329 = .ok (.getfield 54, 3) := by decide +kernel
theorem dX7_heirs_332 : decode cX7_heirs 332 = .ok (.iload 18, 2) := by decide +kernel
theorem dX7_heirs_334 : decode cX7_heirs 334 = .ok (.iaload, 1) := by decide +kernel
theorem dX7_heirs_335 : decode cX7_heirs 335 = .ok (.ifCond .le 7, 3) := by decide +kernel
theorem dX7_heirs_338 : decode cX7_heirs 338 = .ok (.iconst 1, 1) := by decide +kernel
theorem dX7_heirs_339 : decode cX7_heirs 339 = .ok (.goto 4, 3) := by decide +kernel
theorem dX7_heirs_342 : decode cX7_heirs 342 = .ok (.iconst 0, 1) := by decide +kernel
theorem dX7_heirs_343 : decode cX7_heirs 343 = .ok (.iadd, 1) := by decide +kernel
theorem dX7_heirs_344 : decode cX7_heirs 344 = .ok (.istore 17, 2) := by decide +kernel
theorem dX7_heirs_346 : decode cX7_heirs 346 = .ok (.iinc 18 1, 3) := by decide +kernel
theorem dX7_heirs_349 : decode cX7_heirs 349 = .ok (.goto (-51), 3) := by decide +kernel
theorem dX7_heirs_352 : decode cX7_heirs 352 = .ok (.aload_n 0, 1) := by decide +kernel
theorem dX7_heirs_353 : decode cX7_heirs 353 = .ok (.aload_n 0, 1) := by decide +kernel
theorem dX7_heirs_354 : decode cX7_heirs 354 = .ok (.getfield 102, 3) := by decide +kernel
theorem dX7_heirs_357 : decode cX7_heirs 357 = .ok (.iload 17, 2) := by decide +kernel
theorem dX7_heirs_359 : decode cX7_heirs 359 = .ok (.iadd, 1) := by decide +kernel
theorem dX7_heirs_360 : decode cX7_heirs 360 = .ok (.iconst 1, 1) := by decide +kernel
theorem dX7_heirs_361 : decode cX7_heirs 361 = .ok (.isub, 1) := by decide +kernel
theorem dX7_heirs_362 : decode cX7_heirs 362 = .ok (.bipush 60, 2) := by decide +kernel
theorem dX7_heirs_364 : decode cX7_heirs 364 = .ok (.if_icmp .le 7, 3) := by decide +kernel
theorem dX7_heirs_367 : decode cX7_heirs 367 = .ok (.iconst 1, 1) := by decide +kernel
theorem dX7_heirs_368 : decode cX7_heirs 368 = .ok (.goto 4, 3) := by decide +kernel
theorem dX7_heirs_371 : decode cX7_heirs 371 = .ok (.iconst 0, 1) := by decide +kernel
theorem dX7_heirs_372 : decode cX7_heirs 372 = .ok (.iconst 4, 1) := by decide +kernel
theorem dX7_heirs_373 : decode cX7_heirs 373 = .ok (.invokevirtual 105, 3) := by decide +kernel
theorem dX7_heirs_376 : decode cX7_heirs 376 = .ok (.ifCond .eq 5, 3) := by decide +kernel
theorem dX7_heirs_379 : decode cX7_heirs 379 = .ok (.iconst 0, 1) := by decide +kernel
theorem dX7_heirs_380 : decode cX7_heirs 380 = .ok (.ireturn, 1) := by decide +kernel
theorem dX7_heirs_381 : decode cX7_heirs 381 = .ok (.iconst 1, 1) := by decide +kernel
theorem dX7_heirs_382 : decode cX7_heirs 382 = .ok (.istore 18, 2) := by decide +kernel
theorem dX7_heirs_384 : decode cX7_heirs 384 = .ok (.iconst 0, 1) := by decide +kernel
theorem dX7_heirs_385 : decode cX7_heirs 385 = .ok (.istore 19, 2) := by decide +kernel
theorem dX7_heirs_387 : decode cX7_heirs 387 = .ok (.iload 19, 2) := by decide +kernel
theorem dX7_heirs_389 : decode cX7_heirs 389 = .ok (.iload_n 2, 1) := by decide +kernel
theorem dX7_heirs_390 : decode cX7_heirs 390 = .ok (.if_icmp .ge 99, 3) := by decide +kernel
theorem dX7_heirs_393 : decode cX7_heirs 393 = .ok (.aload_n 0, 1) := by decide +kernel
theorem dX7_heirs_394 : decode cX7_heirs 394 = .ok (.getfield 54, 3) := by decide +kernel
theorem dX7_heirs_397 : decode cX7_heirs 397 = .ok (.iload 19, 2) := by decide +kernel
theorem dX7_heirs_399 : decode cX7_heirs 399 = .ok (.iaload, 1) := by decide +kernel
theorem dX7_heirs_400 : decode cX7_heirs 400 = .ok (.ifCond .ne 6, 3) := by decide +kernel
theorem dX7_heirs_403 : decode cX7_heirs 403 = .ok (.goto 80, 3) := by decide +kernel
theorem dX7_heirs_406 : decode cX7_heirs 406 = .ok (.iload 18, 2) := by decide +kernel
theorem dX7_heirs_408 : decode cX7_heirs 408 = .ok (.ifCond .eq 30, 3) := by decide +kernel
theorem dX7_heirs_411 : decode cX7_heirs 411 = .ok (.aload_n 0, 1) := by decide +kernel
theorem dX7_heirs_412 : decode cX7_heirs 412 = .ok (.iload_n 1, 1) := by decide +kernel
theorem dX7_heirs_413 : decode cX7_heirs 413 = .ok (.iload 13, 2) := by decide +kernel
theorem dX7_heirs_415 : decode cX7_heirs 415 = .ok (.iload 13, 2) := by decide +kernel
theorem dX7_heirs_417 : decode cX7_heirs 417 = .ok (.aload_n 0, 1) := by decide +kernel
theorem dX7_heirs_418 : decode cX7_heirs 418 = .ok (.getfield 54, 3) := by decide +kernel
theorem dX7_heirs_421 : decode cX7_heirs 421 = .ok (.iload 19, 2) := by decide +kernel
theorem dX7_heirs_423 : decode cX7_heirs 423 = .ok (.iaload, 1) := by decide +kernel
theorem dX7_heirs_424 : decode cX7_heirs 424 = .ok (.iadd, 1) := by decide +kernel
theorem dX7_heirs_425 : decode cX7_heirs 425 = .ok (.aload_n 0, 1) := by decide +kernel
theorem dX7_heirs_426 : decode cX7_heirs 426 = .ok (.getfield 48, 3) := by decide +kernel
theorem dX7_heirs_429 : decode cX7_heirs 429 = .ok (.iload 19, 2) := by decide +kernel
theorem dX7_heirs_431 : decode cX7_heirs 431 = .ok (.iaload, 1) := by decide +kernel
theorem dX7_heirs_432 : decode cX7_heirs 432 = .ok (.invokevirtual 156, 3) := by decide +kernel
theorem dX7_heirs_435 : decode cX7_heirs 435 = .ok (.goto 33, 3) := by decide +kernel
theorem dX7_heirs_438 : decode cX7_heirs 438 = .ok (.aload_n 0, 1) := by decide +kernel
theorem dX7_heirs_439 : decode cX7_heirs 439 = .ok (.aload_n 0, 1) := by decide +kernel
theorem dX7_heirs_440 : decode cX7_heirs 440 = .ok (.getfield 45, 3) := by decide +kernel
theorem dX7_heirs_443 : decode cX7_heirs 443 = .ok (.iload 12, 2) := by decide +kernel
theorem dX7_heirs_445 : decode cX7_heirs 445 = .ok (.iaload, 1) := by decide +kernel
theorem dX7_heirs_446 : decode cX7_heirs 446 = .ok (.iload 13, 2) := by decide +kernel
theorem dX7_heirs_448 : decode cX7_heirs 448 = .ok (.iload 13, 2) := by decide +kernel
theorem dX7_heirs_450 : decode cX7_heirs 450 = .ok (.aload_n 0, 1) := by decide +kernel
theorem dX7_heirs_451 : decode cX7_heirs 451 = .ok (.getfield 54, 3) := by decide +kernel
theorem dX7_heirs_454 : decode cX7_heirs 454 = .ok (.iload 19, 2) := by decide +kernel
theorem dX7_heirs_456 : decode cX7_heirs 456 = .ok (.iaload, 1) := by decide +kernel
theorem dX7_heirs_457 : decode cX7_heirs 457 = .ok (.iadd, 1) := by decide +kernel
theorem dX7_heirs_458 : decode cX7_heirs 458 = .ok (.aload_n 0, 1) := by decide +kernel
theorem dX7_heirs_459 : decode cX7_heirs 459 = .ok (.getfield 48, 3) := by decide +kernel
theorem dX7_heirs_462 : decode cX7_heirs 462 = .ok (.iload 19, 2) := by decide +kernel
theorem dX7_heirs_464 : decode cX7_heirs 464 = .ok (.iaload, 1) := by decide +kernel
theorem dX7_heirs_465 : decode cX7_heirs 465 = .ok (.invokevirtual 132, 3) := by decide +kernel
theorem dX7_heirs_468 : decode cX7_heirs 468 = .ok (.iconst 0, 1) := by decide +kernel
theorem dX7_heirs_469 : decode cX7_heirs 469 = .ok (.istore 18, 2) := by decide +kernel
theorem dX7_heirs_471 : decode cX7_heirs 471 = .ok (.iload 13, 2) := by decide +kernel
theorem dX7_heirs_473 : decode cX7_heirs 473 = .ok (.aload_n 0, 1) := by decide +kernel
theorem dX7_heirs_474 : decode cX7_heirs 474 = .ok (.getfield 54, 3) := by decide +kernel
theorem dX7_heirs_477 : decode cX7_heirs 477 = .ok (.iload 19, 2) := by decide +kernel
theorem dX7_heirs_479 : decode cX7_heirs 479 = .ok (.iaload, 1) := by decide +kernel
theorem dX7_heirs_480 : decode cX7_heirs 480 = .ok (.iadd, 1) := by decide +kernel
theorem dX7_heirs_481 : decode cX7_heirs 481 = .ok (.istore 13, 2) := by decide +kernel
theorem dX7_heirs_483 : decode cX7_heirs 483 = .ok (.iinc 19 1, 3) := by decide +kernel
theorem dX7_heirs_486 : decode cX7_heirs 486 = .ok (.goto (-99), 3) := by decide +kernel
theorem dX7_heirs_489 : decode cX7_heirs 489 = .ok (.iload 17, 2) := by decide +kernel
theorem dX7_heirs_491 : decode cX7_heirs 491 = .ok (.ireturn, 1) := by decide +kernel
set_option maxRecDepth 20000 in
theorem ggX7_let_X7_noShare : GoodIn wsX7_let wsX7_noShare := goodIn_r _ [9, 10, 11, 12, 8, 13, 25, 26, 27, 28, 29, 30, 31, 32, 33, 34, 35, 36, 37, 38, 39, 40, 41, 42, 43, 44, 45, 46, 47, 48, 49, 50, 51, 52, 53, 54, 55, 56, 57, 58, 59, 60] (by decide +kernel) (by decide +kernel)
set_option maxRecDepth 20000 in
theorem gX7_let_X7_noShare : GoodIn wsX7_let (wsV RX7 162 RX7 yX7_noShare wsX7_noShare) := goodIn_app (goodIn_of _ (by decide +kernel)) ggX7_let_X7_noShare
set_option maxRecDepth 20000 in
theorem ggX7_let_X7_throwsIf : GoodIn wsX7_let wsX7_throwsIf := goodIn_r _ [17, 1, 25, 26, 27, 28, 29, 30, 31, 32, 33, 34, 35, 36, 37, 38, 39, 40, 41, 42, 43, 44, 45, 46, 47, 48, 49, 50, 51, 52, 53, 54, 55, 56, 57, 58, 59, 60] (by decide +kernel) (by decide +kernel)
set_option maxRecDepth 20000 in
theorem gX7_let_X7_throwsIf : GoodIn wsX7_let (wsV RX7 105 RX7 yX7_throwsIf wsX7_throwsIf) := goodIn_app (goodIn_of _ (by decide +kernel)) ggX7_let_X7_throwsIf
set_option maxRecDepth 20000 in
theorem ggX7_let_X7_isLet : GoodIn wsX7_let wsX7_isLet := goodIn_r _ [21, 2, 3, 25, 26, 27, 28, 29, 30, 31, 32, 33, 34, 35, 36, 37, 38, 39, 40, 41, 42, 43, 44, 45, 46, 47, 48, 49, 50, 51, 52, 53, 54, 55, 56, 57, 58, 59, 60] (by decide +kernel) (by decide +kernel)
set_option maxRecDepth 20000 in
theorem gX7_let_X7_isLet : GoodIn wsX7_let (wsV RX7 165 RX7 yX7_isLet wsX7_isLet) := goodIn_app (goodIn_of _ (by decide +kernel)) ggX7_let_X7_isLet
set_option maxRecDepth 20000 in
theorem ggX7_let_X7_noOwner : GoodIn wsX7_let wsX7_noOwner := goodIn_r _ [24, 11, 12, 8, 13] (by decide +kernel) (by decide +kernel)
set_option maxRecDepth 20000 in
theorem gX7_let_X7_noOwner : GoodIn wsX7_let (va_wsS RX7 168 yX7_noOwner wsX7_noOwner) := goodIn_app (goodIn_of _ (by decide +kernel)) ggX7_let_X7_noOwner
theorem dX7_let_0 : decode cX7_let 0 = .ok (.aload_n 0, 1) := by decide +kernel
theorem dX7_let_1 : decode cX7_let 1 = .ok (.iconst 0, 1) := by decide +kernel
theorem dX7_let_2 : decode cX7_let 2 = .ok (.putfield 88, 3) := by decide +kernel
theorem dX7_let_5 : decode cX7_let 5 = .ok (.aload_n 0, 1) := by decide +kernel
theorem dX7_let_6 : decode cX7_let 6 = .ok (.aload_n 0, 1) := by decide +kernel
theorem dX7_let_7 : decode cX7_let 7 = .ok (.iload_n 1, 1) := by decide +kernel
theorem dX7_let_8 : decode cX7_let 8 = .ok (.invokevirtual 162, 3) := by decide +kernel
theorem dX7_let_11 : decode cX7_let 11 = .ok (.iconst 1, 1) := by decide +kernel
theorem dX7_let_12 : decode cX7_let 12 = .ok (.invokevirtual 105, 3) := by decide +kernel
theorem dX7_let_15 : decode cX7_let 15 = .ok (.ifCond .ne 16, 3) := by decide +kernel
theorem dX7_let_18 : decode cX7_let 18 = .ok (.aload_n 0, 1) := by decide +kernel
theorem dX7_let_19 : decode cX7_let 19 = .ok (.aload_n 0, 1) := by decide +kernel
theorem dX7_let_20 : decode cX7_let 20 = .ok (.iload_n 1, 1) := by decide +kernel
theorem dX7_let_21 : decode cX7_let 21 = .ok (.invokevirtual 165, 3) := by decide +kernel
theorem dX7_let_24 : decode cX7_let 24 = .ok (.iconst 2, 1) := by decide +kernel
theorem dX7_let_25 : decode cX7_let 25 = .ok (.invokevirtual 105, 3) := by decide +kernel
theorem dX7_let_28 : decode cX7_let 28 = .ok (.ifCond .eq 4, 3) := by decide +kernel
theorem dX7_let_31 : decode cX7_let 31 = .ok (.return_, 1) := by decide +kernel
theorem dX7_let_32 : decode cX7_let 32 = .ok (.bipush 7, 2) := by decide +kernel
theorem dX7_let_34 : decode cX7_let 34 = .ok (.iload_n 1, 1) := by decide +kernel
theorem dX7_let_35 : decode cX7_let 35 = .ok (.imul, 1) := by decide +kernel
theorem dX7_let_36 : decode cX7_let 36 = .ok (.istore 5, 2) := by decide +kernel
theorem dX7_let_38 : decode cX7_let 38 = .ok (.aload_n 0, 1) := by decide +kernel
theorem dX7_let_39 : decode cX7_let 39 = .ok (.iload_n 2, 1) := by decide +kernel
theorem dX7_let_40 : decode cX7_let 40 = .ok (.invokestatic 168, 3) := by decide +kernel
theorem dX7_let_43 : decode cX7_let 43 = .ok (.ifCond .ne 37, 3) := by decide +kernel
theorem dX7_let_46 : decode cX7_let 46 = .ok (.iload_n 2, 1) := by decide +kernel
theorem dX7_let_47 : decode cX7_let 47 = .ok (.aload_n 0, 1) := by decide +kernel
theorem dX7_let_48 : decode cX7_let 48 = .ok (.getfield 45, 3) := by decide +kernel
theorem dX7_let_51 : decode cX7_let 51 = .ok (.iload 5, 2) := by decide +kernel
theorem dX7_let_53 : decode cX7_let 53 = .ok (.iconst 3, 1) := by decide +kernel
theorem dX7_let_54 : decode cX7_let 54 = .ok (.iadd, 1) := by decide +kernel
theorem dX7_let_55 : decode cX7_let 55 = .ok (.iaload, 1) := by decide +kernel
theorem dX7_let_56 : decode cX7_let 56 = .ok (.if_icmp .eq 24, 3) := by decide +kernel
theorem dX7_let_59 : decode cX7_let 59 = .ok (.iload_n 3, 1) := by decide +kernel
theorem dX7_let_60 : decode cX7_let 60 = .ok (.aload_n 0, 1) := by decide +kernel
theorem dX7_let_61 : decode cX7_let 61 = .ok (.getfield 159, 3) := by decide +kernel
theorem dX7_let_64 : decode cX7_let 64 = .ok (.if_icmp .lt 16, 3) := by decide +kernel
theorem dX7_let_67 : decode cX7_let 67 = .ok (.iload_n 3, 1) := by decide +kernel
theorem dX7_let_68 : decode cX7_let 68 = .ok (.iload 4, 2) := by decide +kernel
theorem dX7_let_70 : decode cX7_let 70 = .ok (.if_icmp .ge 10, 3) := by decide +kernel
theorem dX7_let_73 : decode cX7_let 73 = .ok (.iload 4, 2) := by decide +kernel
theorem dX7_let_75 : decode cX7_let 75 = .ok (.ldc 171, 2) := by decide +kernel
theorem dX7_let_77 : decode cX7_let 77 = .ok (.if_icmp .le 7, 3) := by decide +kernel
theorem dX7_let_80 : decode cX7_let 80 = .ok (.iconst 1, 1) := by decide +kernel
theorem dX7_let_81 : decode cX7_let 81 = .ok (.goto 4, 3) := by decide +kernel
theorem dX7_let_84 : decode cX7_let 84 = .ok (.iconst 0, 1) := by decide +kernel
theorem dX7_let_85 : decode cX7_let 85 = .ok (.iconst 3, 1) := by decide +kernel
theorem dX7_let_86 : decode cX7_let 86 = .ok (.invokevirtual 105, 3) := by decide +kernel
theorem dX7_let_89 : decode cX7_let 89 = .ok (.ifCond .eq 4, 3) := by decide +kernel
theorem dX7_let_92 : decode cX7_let 92 = .ok (.return_, 1) := by decide +kernel
theorem dX7_let_93 : decode cX7_let 93 = .ok (.aload_n 0, 1) := by decide +kernel
theorem dX7_let_94 : decode cX7_let 94 = .ok (.getfield 45, 3) := by decide +kernel
theorem dX7_let_97 : decode cX7_let 97 = .ok (.iload 5, 2) := by decide +kernel
theorem dX7_let_99 : decode cX7_let 99 = .ok (.iconst 4, 1) := by decide +kernel
theorem dX7_let_100 : decode cX7_let 100 = .ok (.iadd, 1) := by decide +kernel
theorem dX7_let_101 : decode cX7_let 101 = .ok (.iload_n 2, 1) := by decide +kernel
theorem dX7_let_102 : decode cX7_let 102 = .ok (.iastore, 1) := by decide +kernel
theorem dX7_let_103 : decode cX7_let 103 = .ok (.aload_n 0, 1) := by decide +kernel
theorem dX7_let_104 : decode cX7_let 104 = .ok (.getfield 45, 3) := by decide +kernel
theorem dX7_let_107 : decode cX7_let 107 = .ok (.iload 5, 2) := by decide +kernel
theorem dX7_let_109 : decode cX7_let 109 = .ok (.iconst 5, 1) := by decide +kernel
theorem dX7_let_110 : decode cX7_let 110 = .ok (.iadd, 1) := by decide +kernel
theorem dX7_let_111 : decode cX7_let 111 = .ok (.iload_n 3, 1) := by decide +kernel
theorem dX7_let_112 : decode cX7_let 112 = .ok (.iastore, 1) := by decide +kernel
theorem dX7_let_113 : decode cX7_let 113 = .ok (.aload_n 0, 1) := by decide +kernel
theorem dX7_let_114 : decode cX7_let 114 = .ok (.getfield 45, 3) := by decide +kernel
theorem dX7_let_117 : decode cX7_let 117 = .ok (.iload 5, 2) := by decide +kernel
theorem dX7_let_119 : decode cX7_let 119 = .ok (.bipush 6, 2) := by decide +kernel
theorem dX7_let_121 : decode cX7_let 121 = .ok (.iadd, 1) := by decide +kernel
theorem dX7_let_122 : decode cX7_let 122 = .ok (.iload 4, 2) := by decide +kernel
theorem dX7_let_124 : decode cX7_let 124 = .ok (.iastore, 1) := by decide +kernel
theorem dX7_let_125 : decode cX7_let 125 = .ok (.return_, 1) := by decide +kernel
set_option maxRecDepth 20000 in
theorem ggX7_minutes_X7_in : GoodIn wsX7_minutes wsX7_in := goodIn_r _ [7] (by decide +kernel) (by decide +kernel)
set_option maxRecDepth 20000 in
theorem gX7_minutes_X7_in : GoodIn wsX7_minutes (va_wsS RX7 94 yX7_in wsX7_in) := goodIn_app (goodIn_of _ (by decide +kernel)) ggX7_minutes_X7_in
set_option maxRecDepth 20000 in
theorem ggX7_minutes_X7_throwsIf : GoodIn wsX7_minutes wsX7_throwsIf := goodIn_r _ [11, 1, 12, 13, 14, 15, 16, 17, 18, 19, 20, 21, 22, 23, 24, 25, 26, 27, 28, 29, 30, 31, 32, 33, 34, 35, 36, 37, 38, 39, 40, 41, 42, 43, 44, 45, 46, 47] (by decide +kernel) (by decide +kernel)
set_option maxRecDepth 20000 in
theorem gX7_minutes_X7_throwsIf : GoodIn wsX7_minutes (wsV RX7 105 RX7 yX7_throwsIf wsX7_throwsIf) := goodIn_app (goodIn_of _ (by decide +kernel)) ggX7_minutes_X7_throwsIf
theorem dX7_minutes_0 : decode cX7_minutes 0 = .ok (.aload_n 0, 1) := by decide +kernel
theorem dX7_minutes_1 : decode cX7_minutes 1 = .ok (.iconst 0, 1) := by decide +kernel
theorem dX7_minutes_2 : decode cX7_minutes 2 = .ok (.putfield 88, 3) := by decide +kernel
theorem dX7_minutes_5 : decode cX7_minutes 5 = .ok (.aload_n 0, 1) := by decide +kernel
theorem dX7_minutes_6 : decode cX7_minutes 6 = .ok (.iload_n 1, 1) := by decide +kernel
theorem dX7_minutes_7 : decode cX7_minutes 7 = .ok (.iconst 0, 1) := by decide +kernel
theorem dX7_minutes_8 : decode cX7_minutes 8 = .ok (.ldc 172, 2) := by decide +kernel
theorem dX7_minutes_10 : decode cX7_minutes 10 = .ok (.invokestatic 94, 3) := by decide +kernel
theorem dX7_minutes_13 : decode cX7_minutes 13 = .ok (.ifCond .ne 7, 3) := by decide +kernel
theorem dX7_minutes_16 : decode cX7_minutes 16 = .ok (.iconst 1, 1) := by decide +kernel
theorem dX7_minutes_17 : decode cX7_minutes 17 = .ok (.goto 4, 3) := by decide +kernel
theorem dX7_minutes_20 : decode cX7_minutes 20 = .ok (.iconst 0, 1) := by decide +kernel
theorem dX7_minutes_21 : decode cX7_minutes 21 = .ok (.iconst 1, 1) := by decide +kernel
theorem dX7_minutes_22 : decode cX7_minutes 22 = .ok (.invokevirtual 105, 3) := by decide +kernel
theorem dX7_minutes_25 : decode cX7_minutes 25 = .ok (.ifCond .eq 5, 3) := by decide +kernel
theorem dX7_minutes_28 : decode cX7_minutes 28 = .ok (.iconst 0, 1) := by decide +kernel
theorem dX7_minutes_29 : decode cX7_minutes 29 = .ok (.ireturn, 1) := by decide +kernel
theorem dX7_minutes_30 : decode cX7_minutes 30 = .ok (.aload_n 0, 1) := by decide +kernel
theorem dX7_minutes_31 : decode cX7_minutes 31 = .ok (.dup, 1) := by decide +kernel
theorem dX7_minutes_32 : decode cX7_minutes 32 = .ok (.getfield 159, 3) := by decide +kernel
theorem dX7_minutes_35 : decode cX7_minutes 35 = .ok (.iload_n 1, 1) := by decide +kernel
theorem dX7_minutes_36 : decode cX7_minutes 36 = .ok (.iadd, 1) := by decide +kernel
theorem dX7_minutes_37 : decode cX7_minutes 37 = .ok (.putfield 159, 3) := by decide +kernel
theorem dX7_minutes_40 : decode cX7_minutes 40 = .ok (.aload_n 0, 1) := by decide +kernel
theorem dX7_minutes_41 : decode cX7_minutes 41 = .ok (.getfield 159, 3) := by decide +kernel
theorem dX7_minutes_44 : decode cX7_minutes 44 = .ok (.ireturn, 1) := by decide +kernel
set_option maxRecDepth 20000 in
theorem ggX7_holder_X7_noChannel : GoodIn wsX7_holder wsX7_noChannel := goodIn_r _ [10, 11, 12, 13, 9, 14, 19, 20, 21, 22, 23, 24, 25, 26, 27, 28, 29, 30, 31, 32, 33, 34, 35, 36, 37, 38, 39, 40, 41, 42, 43, 44, 45, 46, 47, 48, 49, 50, 51, 52, 53, 54] (by decide +kernel) (by decide +kernel)
set_option maxRecDepth 20000 in
theorem gX7_holder_X7_noChannel : GoodIn wsX7_holder (wsV RX7 98 RX7 yX7_noChannel wsX7_noChannel) := goodIn_app (goodIn_of _ (by decide +kernel)) ggX7_holder_X7_noChannel
set_option maxRecDepth 20000 in
theorem ggX7_holder_X7_throwsIf : GoodIn wsX7_holder wsX7_throwsIf := goodIn_r _ [18, 1, 19, 20, 21, 22, 23, 24, 25, 26, 27, 28, 29, 30, 31, 32, 33, 34, 35, 36, 37, 38, 39, 40, 41, 42, 43, 44, 45, 46, 47, 48, 49, 50, 51, 52, 53, 54] (by decide +kernel) (by decide +kernel)
set_option maxRecDepth 20000 in
theorem gX7_holder_X7_throwsIf : GoodIn wsX7_holder (wsV RX7 105 RX7 yX7_throwsIf wsX7_throwsIf) := goodIn_app (goodIn_of _ (by decide +kernel)) ggX7_holder_X7_throwsIf
theorem dX7_holder_0 : decode cX7_holder 0 = .ok (.aload_n 0, 1) := by decide +kernel
theorem dX7_holder_1 : decode cX7_holder 1 = .ok (.iconst 0, 1) := by decide +kernel
theorem dX7_holder_2 : decode cX7_holder 2 = .ok (.putfield 88, 3) := by decide +kernel
theorem dX7_holder_5 : decode cX7_holder 5 = .ok (.aload_n 0, 1) := by decide +kernel
theorem dX7_holder_6 : decode cX7_holder 6 = .ok (.aload_n 0, 1) := by decide +kernel
theorem dX7_holder_7 : decode cX7_holder 7 = .ok (.iload_n 1, 1) := by decide +kernel
theorem dX7_holder_8 : decode cX7_holder 8 = .ok (.invokevirtual 98, 3) := by decide +kernel
theorem dX7_holder_11 : decode cX7_holder 11 = .ok (.iconst 1, 1) := by decide +kernel
theorem dX7_holder_12 : decode cX7_holder 12 = .ok (.invokevirtual 105, 3) := by decide +kernel
theorem dX7_holder_15 : decode cX7_holder 15 = .ok (.ifCond .ne 20, 3) := by decide +kernel
theorem dX7_holder_18 : decode cX7_holder 18 = .ok (.aload_n 0, 1) := by decide +kernel
theorem dX7_holder_19 : decode cX7_holder 19 = .ok (.iload_n 2, 1) := by decide +kernel
theorem dX7_holder_20 : decode cX7_holder 20 = .ok (.ifCond .ge 7, 3) := by decide +kernel
theorem dX7_holder_23 : decode cX7_holder 23 = .ok (.iconst 1, 1) := by decide +kernel
theorem dX7_holder_24 : decode cX7_holder 24 = .ok (.goto 4, 3) := by decide +kernel
theorem dX7_holder_27 : decode cX7_holder 27 = .ok (.iconst 0, 1) := by decide +kernel
theorem dX7_holder_28 : decode cX7_holder 28 = .ok (.iconst 2, 1) := by decide +kernel
theorem dX7_holder_29 : decode cX7_holder 29 = .ok (.invokevirtual 105, 3) := by decide +kernel
theorem dX7_holder_32 : decode cX7_holder 32 = .ok (.ifCond .eq 5, 3) := by decide +kernel
theorem dX7_holder_35 : decode cX7_holder 35 = .ok (.iconst 0, 1) := by decide +kernel
theorem dX7_holder_36 : decode cX7_holder 36 = .ok (.ireturn, 1) := by decide +kernel
theorem dX7_holder_37 : decode cX7_holder 37 = .ok (.aload_n 0, 1) := by decide +kernel
theorem dX7_holder_38 : decode cX7_holder 38 = .ok (.getfield 20, 3) := by decide +kernel
theorem dX7_holder_41 : decode cX7_holder 41 = .ok (.iload_n 1, 1) := by decide +kernel
theorem dX7_holder_42 : decode cX7_holder 42 = .ok (.baload, 1) := by decide +kernel
theorem dX7_holder_43 : decode cX7_holder 43 = .ok (.ifCond .ne 5, 3) := by decide +kernel
theorem dX7_holder_46 : decode cX7_holder 46 = .ok (.iconst (-1), 1) := by decide +kernel
theorem dX7_holder_47 : decode cX7_holder 47 = .ok (.ireturn, 1) := by decide +kernel
theorem dX7_holder_48 : decode cX7_holder 48 = .ok (.iload_n 2, 1) := by decide +kernel
theorem dX7_holder_49 : decode cX7_holder 49 = .ok (.aload_n 0, 1) := by decide +kernel
theorem dX7_holder_50 : decode cX7_holder 50 = .ok (.getfield 30, 3) := by decide +kernel
theorem dX7_holder_53 : decode cX7_holder 53 = .ok (.iload_n 1, 1) := by decide +kernel
theorem dX7_holder_54 : decode cX7_holder 54 = .ok (.iaload, 1) := by decide +kernel
theorem dX7_holder_55 : decode cX7_holder 55 = .ok (.irem, 1) := by decide +kernel
theorem dX7_holder_56 : decode cX7_holder 56 = .ok (.istore_n 3, 1) := by decide +kernel
theorem dX7_holder_57 : decode cX7_holder 57 = .ok (.iconst 0, 1) := by decide +kernel
theorem dX7_holder_58 : decode cX7_holder 58 = .ok (.istore 4, 2) := by decide +kernel
theorem dX7_holder_60 : decode cX7_holder 60 = .ok (.iload 4, 2) := by decide +kernel
theorem dX7_holder_62 : decode cX7_holder 62 = .ok (.aload_n 0, 1) := by decide +kernel
theorem dX7_holder_63 : decode cX7_holder 63 = .ok (.getfield 102, 3) := by decide +kernel
theorem dX7_holder_66 : decode cX7_holder 66 = .ok (.if_icmp .ge 105, 3) := by decide +kernel
theorem dX7_holder_69 : decode cX7_holder 69 = .ok (.bipush 7, 2) := by decide +kernel
theorem dX7_holder_71 : decode cX7_holder 71 = .ok (.iload 4, 2) := by decide +kernel
theorem dX7_holder_73 : decode cX7_holder 73 = .ok (.imul, 1) := by decide +kernel
theorem dX7_holder_74 : decode cX7_holder 74 = .ok (.istore 5, 2) := by decide +kernel
theorem dX7_holder_76 : decode cX7_holder 76 = .ok (.aload_n 0, 1) := by decide +kernel
theorem dX7_holder_77 : decode cX7_holder 77 = .ok (.getfield 45, 3) := by decide +kernel
theorem dX7_holder_80 : decode cX7_holder 80 = .ok (.iload 5, 2) := by decide +kernel
theorem dX7_holder_82 : decode cX7_holder 82 = .ok (.iaload, 1) := by decide +kernel
theorem dX7_holder_83 : decode cX7_holder 83 = .ok (.iload_n 1, 1) := by decide +kernel
theorem dX7_holder_84 : decode cX7_holder 84 = .ok (.if_icmp .ne 81, 3) := by decide +kernel
theorem dX7_holder_87 : decode cX7_holder 87 = .ok (.iload_n 3, 1) := by decide +kernel
theorem dX7_holder_88 : decode cX7_holder 88 = .ok (.aload_n 0, 1) := by decide +kernel
theorem dX7_holder_89 : decode cX7_holder 89 = .ok (.getfield 45, 3) := by decide +kernel
theorem dX7_holder_92 : decode cX7_holder 92 = .ok (.iload 5, 2) := by decide +kernel
theorem dX7_holder_94 : decode cX7_holder 94 = .ok (.iconst 1, 1) := by decide +kernel
theorem dX7_holder_95 : decode cX7_holder 95 = .ok (.iadd, 1) := by decide +kernel
theorem dX7_holder_96 : decode cX7_holder 96 = .ok (.iaload, 1) := by decide +kernel
theorem dX7_holder_97 : decode cX7_holder 97 = .ok (.if_icmp .lt 68, 3) := by decide +kernel
theorem dX7_holder_100 : decode cX7_holder 100 = .ok (.iload_n 3, 1) := by decide +kernel
theorem dX7_holder_101 : decode cX7_holder 101 = .ok (.aload_n 0, 1) := by decide +kernel
theorem dX7_holder_102 : decode cX7_holder 102 = .ok (.getfield 45, 3) := by decide +kernel
theorem dX7_holder_105 : decode cX7_holder 105 = .ok (.iload 5, 2) := by decide +kernel
theorem dX7_holder_107 : decode cX7_holder 107 = .ok (.iconst 2, 1) := by decide +kernel
theorem dX7_holder_108 : decode cX7_holder 108 = .ok (.iadd, 1) := by decide +kernel
theorem dX7_holder_109 : decode cX7_holder 109 = .ok (.iaload, 1) := by decide +kernel
theorem dX7_holder_110 : decode cX7_holder 110 = .ok (.if_icmp .lt 6, 3) := by decide +kernel
theorem dX7_holder_113 : decode cX7_holder 113 = .ok (.goto 52, 3) := by decide +kernel
theorem dX7_holder_116 : decode cX7_holder 116 = .ok (.iload_n 2, 1) := by decide +kernel
theorem dX7_holder_117 : decode cX7_holder 117 = .ok (.aload_n 0, 1) := by decide +kernel
theorem dX7_holder_118 : decode cX7_holder 118 = .ok (.getfield 45, 3) := by decide +kernel
theorem dX7_holder_121 : decode cX7_holder 121 = .ok (.iload 5, 2) := by decide +kernel
theorem dX7_holder_123 : decode cX7_holder 123 = .ok (.iconst 5, 1) := by decide +kernel
theorem dX7_holder_124 : decode cX7_holder 124 = .ok (.iadd, 1) := by decide +kernel
theorem dX7_holder_125 : decode cX7_holder 125 = .ok (.iaload, 1) := by decide +kernel
theorem dX7_holder_126 : decode cX7_holder 126 = .ok (.if_icmp .lt 29, 3) := by decide +kernel
theorem dX7_holder_129 : decode cX7_holder 129 = .ok (.iload_n 2, 1) := by decide +kernel
theorem dX7_holder_130 : decode cX7_holder 130 = .ok (.aload_n 0, 1) := by decide +kernel
theorem dX7_holder_131 : decode cX7_holder 131 = .ok (.getfield 45, 3) := by decide +kernel
theorem dX7_holder_134 : decode cX7_holder 134 = .ok (.iload 5, 2) := by decide +kernel
theorem dX7_holder_136 : decode cX7_holder 136 = .ok (.bipush 6, 2) := by decide +kernel
theorem dX7_holder_138 : decode cX7_holder 138 = .ok (.iadd, 1) := by decide +kernel
theorem dX7_holder_139 : decode cX7_holder 139 = .ok (.iaload, 1) := by decide +kernel
theorem dX7_holder_140 : decode cX7_holder 140 = .ok (.if_icmp .ge 15, 3) := by decide +kernel
theorem dX7_holder_143 : decode cX7_holder 143 = .ok (.aload_n 0, 1) := by decide +kernel
theorem dX7_holder_144 : decode cX7_holder 144 = .ok (.getfield 45, 3) := by decide +kernel
theorem dX7_holder_147 : decode cX7_holder 147 = .ok (.iload 5, 2) := by decide +kernel
theorem dX7_holder_149 : decode cX7_holder 149 = .ok (.iconst 4, 1) := by decide +kernel
theorem dX7_holder_150 : decode cX7_holder 150 = .ok (.iadd, 1) := by decide +kernel
theorem dX7_holder_151 : decode cX7_holder 151 = .ok (.iaload, 1) := by decide +kernel
theorem dX7_holder_152 : decode cX7_holder 152 = .ok (.goto 12, 3) := by decide +kernel
theorem dX7_holder_155 : decode cX7_holder 155 = .ok (.aload_n 0, 1) := by decide +kernel
theorem dX7_holder_156 : decode cX7_holder 156 = .ok (.getfield 45, 3) := by decide +kernel
theorem dX7_holder_159 : decode cX7_holder 159 = .ok (.iload 5, 2) := by decide +kernel
theorem dX7_holder_161 : decode cX7_holder 161 = .ok (.iconst 3, 1) := by decide +kernel
theorem dX7_holder_162 : decode cX7_holder 162 = .ok (.iadd, 1) := by decide +kernel
theorem dX7_holder_163 : decode cX7_holder 163 = .ok (.iaload, 1) := by decide +kernel
theorem dX7_holder_164 : decode cX7_holder 164 = .ok (.ireturn, 1) := by decide +kernel
theorem dX7_holder_165 : decode cX7_holder 165 = .ok (.iinc 4 1, 3) := by decide +kernel
theorem dX7_holder_168 : decode cX7_holder 168 = .ok (.goto (-108), 3) := by decide +kernel
theorem dX7_holder_171 : decode cX7_holder 171 = .ok (.iconst (-1), 1) := by decide +kernel
theorem dX7_holder_172 : decode cX7_holder 172 = .ok (.ireturn, 1) := by decide +kernel
set_option maxRecDepth 20000 in
theorem ggX7_share_X7_noShare : GoodIn wsX7_share wsX7_noShare := goodIn_r _ [7, 8, 9, 10, 6, 11, 21, 22, 23, 24, 25, 26, 27, 28, 29, 30, 31, 32, 33, 34, 35, 36, 37, 38, 39, 40, 41, 42, 43, 44, 45, 46, 47, 48, 49, 50, 51, 52, 53, 54, 55, 56] (by decide +kernel) (by decide +kernel)
set_option maxRecDepth 20000 in
theorem gX7_share_X7_noShare : GoodIn wsX7_share (wsV RX7 162 RX7 yX7_noShare wsX7_noShare) := goodIn_app (goodIn_of _ (by decide +kernel)) ggX7_share_X7_noShare
set_option maxRecDepth 20000 in
theorem ggX7_share_X7_throwsIf : GoodIn wsX7_share wsX7_throwsIf := goodIn_r _ [15, 1, 21, 22, 23, 24, 25, 26, 27, 28, 29, 30, 31, 32, 33, 34, 35, 36, 37, 38, 39, 40, 41, 42, 43, 44, 45, 46, 47, 48, 49, 50, 51, 52, 53, 54, 55, 56] (by decide +kernel) (by decide +kernel)
set_option maxRecDepth 20000 in
theorem gX7_share_X7_throwsIf : GoodIn wsX7_share (wsV RX7 105 RX7 yX7_throwsIf wsX7_throwsIf) := goodIn_app (goodIn_of _ (by decide +kernel)) ggX7_share_X7_throwsIf
set_option maxRecDepth 20000 in
theorem ggX7_share_X7_isLet : GoodIn wsX7_share wsX7_isLet := goodIn_r _ [19, 2, 20, 21, 22, 23, 24, 25, 26, 27, 28, 29, 30, 31, 32, 33, 34, 35, 36, 37, 38, 39, 40, 41, 42, 43, 44, 45, 46, 47, 48, 49, 50, 51, 52, 53, 54, 55, 56] (by decide +kernel) (by decide +kernel)
set_option maxRecDepth 20000 in
theorem gX7_share_X7_isLet : GoodIn wsX7_share (wsV RX7 165 RX7 yX7_isLet wsX7_isLet) := goodIn_app (goodIn_of _ (by decide +kernel)) ggX7_share_X7_isLet
theorem dX7_share_0 : decode cX7_share 0 = .ok (.aload_n 0, 1) := by decide +kernel
theorem dX7_share_1 : decode cX7_share 1 = .ok (.iconst 0, 1) := by decide +kernel
theorem dX7_share_2 : decode cX7_share 2 = .ok (.putfield 88, 3) := by decide +kernel
theorem dX7_share_5 : decode cX7_share 5 = .ok (.aload_n 0, 1) := by decide +kernel
theorem dX7_share_6 : decode cX7_share 6 = .ok (.aload_n 0, 1) := by decide +kernel
theorem dX7_share_7 : decode cX7_share 7 = .ok (.iload_n 1, 1) := by decide +kernel
theorem dX7_share_8 : decode cX7_share 8 = .ok (.invokevirtual 162, 3) := by decide +kernel
theorem dX7_share_11 : decode cX7_share 11 = .ok (.iconst 1, 1) := by decide +kernel
theorem dX7_share_12 : decode cX7_share 12 = .ok (.invokevirtual 105, 3) := by decide +kernel
theorem dX7_share_15 : decode cX7_share 15 = .ok (.ifCond .eq 5, 3) := by decide +kernel
theorem dX7_share_18 : decode cX7_share 18 = .ok (.iconst 0, 1) := by decide +kernel
theorem dX7_share_19 : decode cX7_share 19 = .ok (.ireturn, 1) := by decide +kernel
theorem dX7_share_20 : decode cX7_share 20 = .ok (.iload_n 2, 1) := by decide +kernel
theorem dX7_share_21 : decode cX7_share 21 = .ok (.tableswitch 61 0 4 #[35, 35, 35, 35, 47], 35) := by decide +kernel
theorem dX7_share_56 : decode cX7_share 56 = .ok (.aload_n 0, 1) := by decide +kernel
theorem dX7_share_57 : decode cX7_share 57 = .ok (.getfield 45, 3) := by decide +kernel
theorem dX7_share_60 : decode cX7_share 60 = .ok (.bipush 7, 2) := by decide +kernel
theorem dX7_share_62 : decode cX7_share 62 = .ok (.iload_n 1, 1) := by decide +kernel
theorem dX7_share_63 : decode cX7_share 63 = .ok (.imul, 1) := by decide +kernel
theorem dX7_share_64 : decode cX7_share 64 = .ok (.iload_n 2, 1) := by decide +kernel
theorem dX7_share_65 : decode cX7_share 65 = .ok (.iadd, 1) := by decide +kernel
theorem dX7_share_66 : decode cX7_share 66 = .ok (.iaload, 1) := by decide +kernel
theorem dX7_share_67 : decode cX7_share 67 = .ok (.ireturn, 1) := by decide +kernel
theorem dX7_share_68 : decode cX7_share 68 = .ok (.aload_n 0, 1) := by decide +kernel
theorem dX7_share_69 : decode cX7_share 69 = .ok (.iload_n 1, 1) := by decide +kernel
theorem dX7_share_70 : decode cX7_share 70 = .ok (.invokevirtual 165, 3) := by decide +kernel
theorem dX7_share_73 : decode cX7_share 73 = .ok (.ifCond .eq 7, 3) := by decide +kernel
theorem dX7_share_76 : decode cX7_share 76 = .ok (.iconst 1, 1) := by decide +kernel
theorem dX7_share_77 : decode cX7_share 77 = .ok (.goto 4, 3) := by decide +kernel
theorem dX7_share_80 : decode cX7_share 80 = .ok (.iconst 0, 1) := by decide +kernel
theorem dX7_share_81 : decode cX7_share 81 = .ok (.ireturn, 1) := by decide +kernel
theorem dX7_share_82 : decode cX7_share 82 = .ok (.aload_n 0, 1) := by decide +kernel
theorem dX7_share_83 : decode cX7_share 83 = .ok (.iconst 2, 1) := by decide +kernel
theorem dX7_share_84 : decode cX7_share 84 = .ok (.putfield 88, 3) := by decide +kernel
theorem dX7_share_87 : decode cX7_share 87 = .ok (.iconst 0, 1) := by decide +kernel
theorem dX7_share_88 : decode cX7_share 88 = .ok (.ireturn, 1) := by decide +kernel
theorem dX7_feed_0 : decode cX7_feed 0 = .ok (.aload_n 0, 1) := by decide +kernel
theorem dX7_feed_1 : decode cX7_feed 1 = .ok (.iconst 0, 1) := by decide +kernel
theorem dX7_feed_2 : decode cX7_feed 2 = .ok (.putfield 88, 3) := by decide +kernel
theorem dX7_feed_5 : decode cX7_feed 5 = .ok (.aload_n 0, 1) := by decide +kernel
theorem dX7_feed_6 : decode cX7_feed 6 = .ok (.getfield 173, 3) := by decide +kernel
theorem dX7_feed_9 : decode cX7_feed 9 = .ok (.bipush 20, 2) := by decide +kernel
theorem dX7_feed_11 : decode cX7_feed 11 = .ok (.iadd, 1) := by decide +kernel
theorem dX7_feed_12 : decode cX7_feed 12 = .ok (.sipush 400, 3) := by decide +kernel
theorem dX7_feed_15 : decode cX7_feed 15 = .ok (.if_icmp .le 5, 3) := by decide +kernel
theorem dX7_feed_18 : decode cX7_feed 18 = .ok (.iconst (-1), 1) := by decide +kernel
theorem dX7_feed_19 : decode cX7_feed 19 = .ok (.ireturn, 1) := by decide +kernel
theorem dX7_feed_20 : decode cX7_feed 20 = .ok (.aload_n 0, 1) := by decide +kernel
theorem dX7_feed_21 : decode cX7_feed 21 = .ok (.getfield 70, 3) := by decide +kernel
theorem dX7_feed_24 : decode cX7_feed 24 = .ok (.iconst 0, 1) := by decide +kernel
theorem dX7_feed_25 : decode cX7_feed 25 = .ok (.iload_n 1, 1) := by decide +kernel
theorem dX7_feed_26 : decode cX7_feed 26 = .ok (.iastore, 1) := by decide +kernel
theorem dX7_feed_27 : decode cX7_feed 27 = .ok (.aload_n 0, 1) := by decide +kernel
theorem dX7_feed_28 : decode cX7_feed 28 = .ok (.getfield 70, 3) := by decide +kernel
theorem dX7_feed_31 : decode cX7_feed 31 = .ok (.iconst 1, 1) := by decide +kernel
theorem dX7_feed_32 : decode cX7_feed 32 = .ok (.iload_n 2, 1) := by decide +kernel
theorem dX7_feed_33 : decode cX7_feed 33 = .ok (.iastore, 1) := by decide +kernel
theorem dX7_feed_34 : decode cX7_feed 34 = .ok (.aload_n 0, 1) := by decide +kernel
theorem dX7_feed_35 : decode cX7_feed 35 = .ok (.getfield 70, 3) := by decide +kernel
theorem dX7_feed_38 : decode cX7_feed 38 = .ok (.iconst 2, 1) := by decide +kernel
theorem dX7_feed_39 : decode cX7_feed 39 = .ok (.iload_n 3, 1) := by decide +kernel
theorem dX7_feed_40 : decode cX7_feed 40 = .ok (.iastore, 1) := by decide +kernel
theorem dX7_feed_41 : decode cX7_feed 41 = .ok (.aload_n 0, 1) := by decide +kernel
theorem dX7_feed_42 : decode cX7_feed 42 = .ok (.getfield 70, 3) := by decide +kernel
theorem dX7_feed_45 : decode cX7_feed 45 = .ok (.iconst 3, 1) := by decide +kernel
theorem dX7_feed_46 : decode cX7_feed 46 = .ok (.iload 4, 2) := by decide +kernel
theorem dX7_feed_48 : decode cX7_feed 48 = .ok (.iastore, 1) := by decide +kernel
theorem dX7_feed_49 : decode cX7_feed 49 = .ok (.aload_n 0, 1) := by decide +kernel
theorem dX7_feed_50 : decode cX7_feed 50 = .ok (.getfield 70, 3) := by decide +kernel
theorem dX7_feed_53 : decode cX7_feed 53 = .ok (.iconst 4, 1) := by decide +kernel
theorem dX7_feed_54 : decode cX7_feed 54 = .ok (.iload 5, 2) := by decide +kernel
theorem dX7_feed_56 : decode cX7_feed 56 = .ok (.iastore, 1) := by decide +kernel
theorem dX7_feed_57 : decode cX7_feed 57 = .ok (.iconst 0, 1) := by decide +kernel
theorem dX7_feed_58 : decode cX7_feed 58 = .ok (.istore 6, 2) := by decide +kernel
theorem dX7_feed_60 : decode cX7_feed 60 = .ok (.iload 6, 2) := by decide +kernel
theorem dX7_feed_62 : decode cX7_feed 62 = .ok (.bipush 20, 2) := by decide +kernel
theorem dX7_feed_64 : decode cX7_feed 64 = .ok (.if_icmp .ge 42, 3) := by decide +kernel
theorem dX7_feed_67 : decode cX7_feed 67 = .ok (.aload_n 0, 1) := by decide +kernel
theorem dX7_feed_68 : decode cX7_feed 68 = .ok (.getfield 63, 3) := by decide +kernel
theorem dX7_feed_71 : decode cX7_feed 71 = .ok (.aload_n 0, 1) := by decide +kernel
theorem dX7_feed_72 : decode cX7_feed 72 = .ok (.getfield 173, 3) := by decide +kernel
theorem dX7_feed_75 : decode cX7_feed 75 = .ok (.iload 6, 2) := by decide +kernel
theorem dX7_feed_77 : decode cX7_feed 77 = .ok (.iadd, 1) := by decide +kernel
theorem dX7_feed_78 : decode cX7_feed 78 = .ok (.aload_n 0, 1) := by decide +kernel
theorem dX7_feed_79 : decode cX7_feed 79 = .ok (.getfield 70, 3) := by decide +kernel
theorem dX7_feed_82 : decode cX7_feed 82 = .ok (.iload 6, 2) := by decide +kernel
theorem dX7_feed_84 : decode cX7_feed 84 = .ok (.iconst 4, 1) := by decide +kernel
theorem dX7_feed_85 : decode cX7_feed 85 = .ok (.idiv, 1) := by decide +kernel
theorem dX7_feed_86 : decode cX7_feed 86 = .ok (.iaload, 1) := by decide +kernel
theorem dX7_feed_87 : decode cX7_feed 87 = .ok (.bipush 24, 2) := by decide +kernel
theorem dX7_feed_89 : decode cX7_feed 89 = .ok (.bipush 8, 2) := by decide +kernel
theorem dX7_feed_91 : decode cX7_feed 91 = .ok (.iload 6, 2) := by decide +kernel
theorem dX7_feed_93 : decode cX7_feed 93 = .ok (.iconst 4, 1) := by decide +kernel
theorem dX7_feed_94 : decode cX7_feed 94 = .ok (.irem, 1) := by decide +kernel
theorem dX7_feed_95 : decode cX7_feed 95 = .ok (.imul, 1) := by decide +kernel
theorem dX7_feed_96 : decode cX7_feed 96 = .ok (.isub, 1) := by decide +kernel
theorem dX7_feed_97 : decode cX7_feed 97 = .ok (.ishr, 1) := by decide +kernel
theorem dX7_feed_98 : decode cX7_feed 98 = .ok (.i2b, 1) := by decide +kernel
theorem dX7_feed_99 : decode cX7_feed 99 = .ok (.bastore, 1) := by decide +kernel
theorem dX7_feed_100 : decode cX7_feed 100 = .ok (.iinc 6 1, 3) := by decide +kernel
theorem dX7_feed_103 : decode cX7_feed 103 = .ok (.goto (-43), 3) := by decide +kernel
theorem dX7_feed_106 : decode cX7_feed 106 = .ok (.aload_n 0, 1) := by decide +kernel
theorem dX7_feed_107 : decode cX7_feed 107 = .ok (.dup, 1) := by decide +kernel
theorem dX7_feed_108 : decode cX7_feed 108 = .ok (.getfield 173, 3) := by decide +kernel
theorem dX7_feed_111 : decode cX7_feed 111 = .ok (.bipush 20, 2) := by decide +kernel
theorem dX7_feed_113 : decode cX7_feed 113 = .ok (.iadd, 1) := by decide +kernel
theorem dX7_feed_114 : decode cX7_feed 114 = .ok (.putfield 173, 3) := by decide +kernel
theorem dX7_feed_117 : decode cX7_feed 117 = .ok (.aload_n 0, 1) := by decide +kernel
theorem dX7_feed_118 : decode cX7_feed 118 = .ok (.getfield 173, 3) := by decide +kernel
theorem dX7_feed_121 : decode cX7_feed 121 = .ok (.ireturn, 1) := by decide +kernel
theorem dX7_end_0 : decode cX7_end 0 = .ok (.aload_n 0, 1) := by decide +kernel
theorem dX7_end_1 : decode cX7_end 1 = .ok (.iconst 0, 1) := by decide +kernel
theorem dX7_end_2 : decode cX7_end 2 = .ok (.putfield 88, 3) := by decide +kernel
theorem dX7_end_5 : decode cX7_end 5 = .ok (.iload_n 1, 1) := by decide +kernel
theorem dX7_end_6 : decode cX7_end 6 = .ok (.ifCond .lt 11, 3) := by decide +kernel
theorem dX7_end_9 : decode cX7_end 9 = .ok (.iload_n 1, 1) := by decide +kernel
theorem dX7_end_10 : decode cX7_end 10 = .ok (.aload_n 0, 1) := by decide +kernel
theorem dX7_end_11 : decode cX7_end 11 = .ok (.getfield 173, 3) := by decide +kernel
theorem dX7_end_14 : decode cX7_end 14 = .ok (.if_icmp .le 5, 3) := by decide +kernel
theorem dX7_end_17 : decode cX7_end 17 = .ok (.iconst 0, 1) := by decide +kernel
theorem dX7_end_18 : decode cX7_end 18 = .ok (.ireturn, 1) := by decide +kernel
theorem dX7_end_19 : decode cX7_end 19 = .ok (.aload_n 0, 1) := by decide +kernel
theorem dX7_end_20 : decode cX7_end 20 = .ok (.iload_n 1, 1) := by decide +kernel
theorem dX7_end_21 : decode cX7_end 21 = .ok (.putfield 173, 3) := by decide +kernel
theorem dX7_end_24 : decode cX7_end 24 = .ok (.iconst 1, 1) := by decide +kernel
theorem dX7_end_25 : decode cX7_end 25 = .ok (.ireturn, 1) := by decide +kernel
theorem dX7_isAt_0 : decode cX7_isAt 0 = .ok (.aload_n 0, 1) := by decide +kernel
theorem dX7_isAt_1 : decode cX7_isAt 1 = .ok (.getfield 176, 3) := by decide +kernel
theorem dX7_isAt_4 : decode cX7_isAt 4 = .ok (.aload_n 0, 1) := by decide +kernel
theorem dX7_isAt_5 : decode cX7_isAt 5 = .ok (.getfield 179, 3) := by decide +kernel
theorem dX7_isAt_8 : decode cX7_isAt 8 = .ok (.if_icmp .ge 33, 3) := by decide +kernel
theorem dX7_isAt_11 : decode cX7_isAt 11 = .ok (.aload_n 0, 1) := by decide +kernel
theorem dX7_isAt_12 : decode cX7_isAt 12 = .ok (.getfield 63, 3) := by decide +kernel
theorem dX7_isAt_15 : decode cX7_isAt 15 = .ok (.aload_n 0, 1) := by decide +kernel
theorem dX7_isAt_16 : decode cX7_isAt 16 = .ok (.getfield 176, 3) := by decide +kernel
theorem dX7_isAt_19 : decode cX7_isAt 19 = .ok (.baload, 1) := by decide +kernel
theorem dX7_isAt_20 : decode cX7_isAt 20 = .ok (.iload_n 1, 1) := by decide +kernel
theorem dX7_isAt_21 : decode cX7_isAt 21 = .ok (.if_icmp .lt 20, 3) := by decide +kernel
theorem dX7_isAt_24 : decode cX7_isAt 24 = .ok (.aload_n 0, 1) := by decide +kernel
theorem dX7_isAt_25 : decode cX7_isAt 25 = .ok (.getfield 63, 3) := by decide +kernel
theorem dX7_isAt_28 : decode cX7_isAt 28 = .ok (.aload_n 0, 1) := by decide +kernel
theorem dX7_isAt_29 : decode cX7_isAt 29 = .ok (.getfield 176, 3) := by decide +kernel
theorem dX7_isAt_32 : decode cX7_isAt 32 = .ok (.baload, 1) := by decide +kernel
theorem dX7_isAt_33 : decode cX7_isAt 33 = .ok (.iload_n 2, 1) := by decide +kernel
theorem dX7_isAt_34 : decode cX7_isAt 34 = .ok (.if_icmp .gt 7, 3) := by decide +kernel
theorem dX7_isAt_37 : decode cX7_isAt 37 = .ok (.iconst 1, 1) := by decide +kernel
theorem dX7_isAt_38 : decode cX7_isAt 38 = .ok (.goto 4, 3) := by decide +kernel
theorem dX7_isAt_41 : decode cX7_isAt 41 = .ok (.iconst 0, 1) := by decide +kernel
theorem dX7_isAt_42 : decode cX7_isAt 42 = .ok (.ireturn, 1) := by decide +kernel
set_option maxRecDepth 20000 in
theorem ggX7_blanks_X7_isAt : GoodIn wsX7_blanks wsX7_isAt := goodIn_r _ [7, 1, 8, 9, 10, 11, 12, 13, 14, 15, 16, 17, 18, 19, 20, 21, 22, 23, 24, 25, 26, 27, 28, 29, 30, 31, 32, 33, 34, 35, 36, 37, 38, 39, 40, 41, 42, 43, 44, 45] (by decide +kernel) (by decide +kernel)
set_option maxRecDepth 20000 in
theorem gX7_blanks_X7_isAt : GoodIn wsX7_blanks (wsV RX7 182 RX7 yX7_isAt wsX7_isAt) := goodIn_app (goodIn_of _ (by decide +kernel)) ggX7_blanks_X7_isAt
theorem dX7_blanks_0 : decode cX7_blanks 0 = .ok (.aload_n 0, 1) := by decide +kernel
theorem dX7_blanks_1 : decode cX7_blanks 1 = .ok (.bipush 32, 2) := by decide +kernel
theorem dX7_blanks_3 : decode cX7_blanks 3 = .ok (.bipush 32, 2) := by decide +kernel
theorem dX7_blanks_5 : decode cX7_blanks 5 = .ok (.invokevirtual 182, 3) := by decide +kernel
theorem dX7_blanks_8 : decode cX7_blanks 8 = .ok (.ifCond .eq 16, 3) := by decide +kernel
theorem dX7_blanks_11 : decode cX7_blanks 11 = .ok (.aload_n 0, 1) := by decide +kernel
theorem dX7_blanks_12 : decode cX7_blanks 12 = .ok (.dup, 1) := by decide +kernel
theorem dX7_blanks_13 : decode cX7_blanks 13 = .ok (.getfield 176, 3) := by decide +kernel
theorem dX7_blanks_16 : decode cX7_blanks 16 = .ok (.iconst 1, 1) := by decide +kernel
theorem dX7_blanks_17 : decode cX7_blanks 17 = .ok (.iadd, 1) := by decide +kernel
theorem dX7_blanks_18 : decode cX7_blanks 18 = .ok (.putfield 176, 3) := by decide +kernel
theorem dX7_blanks_21 : decode cX7_blanks 21 = .ok (.goto (-21), 3) := by decide +kernel
theorem dX7_blanks_24 : decode cX7_blanks 24 = .ok (.aload_n 0, 1) := by decide +kernel
theorem dX7_blanks_25 : decode cX7_blanks 25 = .ok (.aload_n 0, 1) := by decide +kernel
theorem dX7_blanks_26 : decode cX7_blanks 26 = .ok (.getfield 176, 3) := by decide +kernel
theorem dX7_blanks_29 : decode cX7_blanks 29 = .ok (.putfield 185, 3) := by decide +kernel
theorem dX7_blanks_32 : decode cX7_blanks 32 = .ok (.return_, 1) := by decide +kernel
set_option maxRecDepth 20000 in
theorem ggX7_isWord_J0_length_8abf5 : GoodIn wsX7_isWord wsJ0_length_8abf5 := goodIn_r _ [8, 9, 10, 11, 12, 7, 13, 14, 15] (by decide +kernel) (by decide +kernel)
set_option maxRecDepth 20000 in
theorem gX7_isWord_J0_length_8abf5 : GoodIn wsX7_isWord (wsV RX7 188 RJ0 yJ0_length_8abf5 wsJ0_length_8abf5) := goodIn_app (goodIn_of _ (by decide +kernel)) ggX7_isWord_J0_length_8abf5
set_option maxRecDepth 20000 in
theorem ggX7_isWord_J0_charAt_5068e : GoodIn wsX7_isWord wsJ0_charAt_5068e := goodIn_r _ [19, 9, 20, 21, 22, 7, 23, 14, 15, 24, 25, 26, 27, 28, 29, 30, 31, 32, 33, 34, 35, 36, 37, 38, 39, 40, 41, 42, 43, 44, 45, 46, 47, 48, 49, 50, 51, 52] (by decide +kernel) (by decide +kernel)
set_option maxRecDepth 20000 in
theorem gX7_isWord_J0_charAt_5068e : GoodIn wsX7_isWord (wsV RX7 193 RJ0 yJ0_charAt_5068e wsJ0_charAt_5068e) := goodIn_app (goodIn_of _ (by decide +kernel)) ggX7_isWord_J0_charAt_5068e
theorem dX7_isWord_0 : decode cX7_isWord 0 = .ok (.aload_n 0, 1) := by decide +kernel
theorem dX7_isWord_1 : decode cX7_isWord 1 = .ok (.getfield 176, 3) := by decide +kernel
theorem dX7_isWord_4 : decode cX7_isWord 4 = .ok (.aload_n 0, 1) := by decide +kernel
theorem dX7_isWord_5 : decode cX7_isWord 5 = .ok (.getfield 185, 3) := by decide +kernel
theorem dX7_isWord_8 : decode cX7_isWord 8 = .ok (.isub, 1) := by decide +kernel
theorem dX7_isWord_9 : decode cX7_isWord 9 = .ok (.aload_n 1, 1) := by decide +kernel
theorem dX7_isWord_10 : decode cX7_isWord 10 = .ok (.invokevirtual 188, 3) := by decide +kernel
theorem dX7_isWord_13 : decode cX7_isWord 13 = .ok (.if_icmp .ne 7, 3) := by decide +kernel
theorem dX7_isWord_16 : decode cX7_isWord 16 = .ok (.iconst 1, 1) := by decide +kernel
theorem dX7_isWord_17 : decode cX7_isWord 17 = .ok (.goto 4, 3) := by decide +kernel
theorem dX7_isWord_20 : decode cX7_isWord 20 = .ok (.iconst 0, 1) := by decide +kernel
theorem dX7_isWord_21 : decode cX7_isWord 21 = .ok (.istore_n 2, 1) := by decide +kernel
theorem dX7_isWord_22 : decode cX7_isWord 22 = .ok (.iconst 0, 1) := by decide +kernel
theorem dX7_isWord_23 : decode cX7_isWord 23 = .ok (.istore_n 3, 1) := by decide +kernel
theorem dX7_isWord_24 : decode cX7_isWord 24 = .ok (.iload_n 2, 1) := by decide +kernel
theorem dX7_isWord_25 : decode cX7_isWord 25 = .ok (.ifCond .eq 42, 3) := by decide +kernel
theorem dX7_isWord_28 : decode cX7_isWord 28 = .ok (.iload_n 3, 1) := by decide +kernel
theorem dX7_isWord_29 : decode cX7_isWord 29 = .ok (.aload_n 1, 1) := by decide +kernel
theorem dX7_isWord_30 : decode cX7_isWord 30 = .ok (.invokevirtual 188, 3) := by decide +kernel
theorem dX7_isWord_33 : decode cX7_isWord 33 = .ok (.if_icmp .ge 34, 3) := by decide +kernel
theorem dX7_isWord_36 : decode cX7_isWord 36 = .ok (.aload_n 0, 1) := by decide +kernel
theorem dX7_isWord_37 : decode cX7_isWord 37 = .ok (.getfield 63, 3) := by decide +kernel
theorem dX7_isWord_40 : decode cX7_isWord 40 = .ok (.aload_n 0, 1) := by decide +kernel
theorem dX7_isWord_41 : decode cX7_isWord 41 = .ok (.getfield 185, 3) := by decide +kernel
theorem dX7_isWord_44 : decode cX7_isWord 44 = .ok (.iload_n 3, 1) := by decide +kernel
theorem dX7_isWord_45 : decode cX7_isWord 45 = .ok (.iadd, 1) := by decide +kernel
theorem dX7_isWord_46 : decode cX7_isWord 46 = .ok (.baload, 1) := by decide +kernel
theorem dX7_isWord_47 : decode cX7_isWord 47 = .ok (.aload_n 1, 1) := by decide +kernel
theorem dX7_isWord_48 : decode cX7_isWord 48 = .ok (.iload_n 3, 1) := by decide +kernel
theorem dX7_isWord_49 : decode cX7_isWord 49 = .ok (.invokevirtual 193, 3) := by decide +kernel
theorem dX7_isWord_52 : decode cX7_isWord 52 = .ok (.if_icmp .ne 7, 3) := by decide +kernel
theorem dX7_isWord_55 : decode cX7_isWord 55 = .ok (.iconst 1, 1) := by decide +kernel
theorem dX7_isWord_56 : decode cX7_isWord 56 = .ok (.goto 4, 3) := by decide +kernel
theorem dX7_isWord_59 : decode cX7_isWord 59 = .ok (.iconst 0, 1) := by decide +kernel
theorem dX7_isWord_60 : decode cX7_isWord 60 = .ok (.istore_n 2, 1) := by decide +kernel
theorem dX7_isWord_61 : decode cX7_isWord 61 = .ok (.iinc 3 1, 3) := by decide +kernel
theorem dX7_isWord_64 : decode cX7_isWord 64 = .ok (.goto (-40), 3) := by decide +kernel
theorem dX7_isWord_67 : decode cX7_isWord 67 = .ok (.iload_n 2, 1) := by decide +kernel
theorem dX7_isWord_68 : decode cX7_isWord 68 = .ok (.ireturn, 1) := by decide +kernel
set_option maxRecDepth 20000 in
theorem ggX7_word_X7_blanks : GoodIn wsX7_word wsX7_blanks := goodIn_r _ [6, 1, 7, 8, 9, 10, 5, 11, 12, 13, 14, 15, 16, 17, 18, 19, 20, 21, 22, 23, 24, 25, 26, 27, 28, 29, 30, 31, 32, 33, 34, 35, 36, 37, 38, 39, 40, 41, 42, 43, 44, 45, 46, 47, 48, 49] (by decide +kernel) (by decide +kernel)
set_option maxRecDepth 20000 in
theorem gX7_word_X7_blanks : GoodIn wsX7_word (wsV RX7 197 RX7 yX7_blanks wsX7_blanks) := goodIn_app (goodIn_of _ (by decide +kernel)) ggX7_word_X7_blanks
set_option maxRecDepth 20000 in
theorem ggX7_word_X7_isAt : GoodIn wsX7_word wsX7_isAt := goodIn_r _ [11, 1, 12, 13, 14, 15, 16, 17, 18, 19, 20, 21, 22, 23, 24, 25, 26, 27, 28, 29, 30, 31, 32, 33, 34, 35, 36, 37, 38, 39, 40, 41, 42, 43, 44, 45, 46, 47, 48, 49] (by decide +kernel) (by decide +kernel)
set_option maxRecDepth 20000 in
theorem gX7_word_X7_isAt : GoodIn wsX7_word (wsV RX7 182 RX7 yX7_isAt wsX7_isAt) := goodIn_app (goodIn_of _ (by decide +kernel)) ggX7_word_X7_isAt
theorem dX7_word_0 : decode cX7_word 0 = .ok (.aload_n 0, 1) := by decide +kernel
theorem dX7_word_1 : decode cX7_word 1 = .ok (.invokevirtual 197, 3) := by decide +kernel
theorem dX7_word_4 : decode cX7_word 4 = .ok (.aload_n 0, 1) := by decide +kernel
theorem dX7_word_5 : decode cX7_word 5 = .ok (.bipush 97, 2) := by decide +kernel
theorem dX7_word_7 : decode cX7_word 7 = .ok (.bipush 122, 2) := by decide +kernel
theorem dX7_word_9 : decode cX7_word 9 = .ok (.invokevirtual 182, 3) := by decide +kernel
theorem dX7_word_12 : decode cX7_word 12 = .ok (.ifCond .eq 16, 3) := by decide +kernel
theorem dX7_word_15 : decode cX7_word 15 = .ok (.aload_n 0, 1) := by decide +kernel
theorem dX7_word_16 : decode cX7_word 16 = .ok (.dup, 1) := by decide +kernel
theorem dX7_word_17 : decode cX7_word 17 = .ok (.getfield 176, 3) := by decide +kernel
theorem dX7_word_20 : decode cX7_word 20 = .ok (.iconst 1, 1) := by decide +kernel
theorem dX7_word_21 : decode cX7_word 21 = .ok (.iadd, 1) := by decide +kernel
theorem dX7_word_22 : decode cX7_word 22 = .ok (.putfield 176, 3) := by decide +kernel
theorem dX7_word_25 : decode cX7_word 25 = .ok (.goto (-21), 3) := by decide +kernel
theorem dX7_word_28 : decode cX7_word 28 = .ok (.return_, 1) := by decide +kernel
set_option maxRecDepth 20000 in
theorem ggX7_number_X7_blanks : GoodIn wsX7_number wsX7_blanks := goodIn_r _ [9, 1, 2, 10, 11, 12, 8, 13, 14, 3, 15, 16, 17, 18, 19, 20, 21, 22, 23, 24, 25, 26, 27, 28, 29, 30, 31, 32, 33, 34, 35, 36, 37, 38, 39, 40, 41, 42, 43, 44, 45, 46, 47, 48, 49, 50] (by decide +kernel) (by decide +kernel)
set_option maxRecDepth 20000 in
theorem gX7_number_X7_blanks : GoodIn wsX7_number (wsV RX7 197 RX7 yX7_blanks wsX7_blanks) := goodIn_app (goodIn_of _ (by decide +kernel)) ggX7_number_X7_blanks
set_option maxRecDepth 20000 in
theorem ggX7_number_X7_isAt : GoodIn wsX7_number wsX7_isAt := goodIn_r _ [13, 1, 14, 3, 15, 16, 17, 18, 19, 20, 21, 22, 23, 24, 25, 26, 27, 28, 29, 30, 31, 32, 33, 34, 35, 36, 37, 38, 39, 40, 41, 42, 43, 44, 45, 46, 47, 48, 49, 50] (by decide +kernel) (by decide +kernel)
set_option maxRecDepth 20000 in
theorem gX7_number_X7_isAt : GoodIn wsX7_number (wsV RX7 182 RX7 yX7_isAt wsX7_isAt) := goodIn_app (goodIn_of _ (by decide +kernel)) ggX7_number_X7_isAt
theorem dX7_number_0 : decode cX7_number 0 = .ok (.aload_n 0, 1) := by decide +kernel
theorem dX7_number_1 : decode cX7_number 1 = .ok (.invokevirtual 197, 3) := by decide +kernel
theorem dX7_number_4 : decode cX7_number 4 = .ok (.iconst 0, 1) := by decide +kernel
theorem dX7_number_5 : decode cX7_number 5 = .ok (.istore_n 3, 1) := by decide +kernel
theorem dX7_number_6 : decode cX7_number 6 = .ok (.aload_n 0, 1) := by decide +kernel
theorem dX7_number_7 : decode cX7_number 7 = .ok (.bipush 48, 2) := by decide +kernel
theorem dX7_number_9 : decode cX7_number 9 = .ok (.bipush 57, 2) := by decide +kernel
theorem dX7_number_11 : decode cX7_number 11 = .ok (.invokevirtual 182, 3) := by decide +kernel
theorem dX7_number_14 : decode cX7_number 14 = .ok (.ifCond .eq 51, 3) := by decide +kernel
theorem dX7_number_17 : decode cX7_number 17 = .ok (.aload_n 0, 1) := by decide +kernel
theorem dX7_number_18 : decode cX7_number 18 = .ok (.getfield 176, 3) := by decide +kernel
theorem dX7_number_21 : decode cX7_number 21 = .ok (.aload_n 0, 1) := by decide +kernel
theorem dX7_number_22 : decode cX7_number 22 = .ok (.getfield 185, 3) := by decide +kernel
theorem dX7_number_25 : decode cX7_number 25 = .ok (.isub, 1) := by decide +kernel
theorem dX7_number_26 : decode cX7_number 26 = .ok (.iconst 4, 1) := by decide +kernel
theorem dX7_number_27 : decode cX7_number 27 = .ok (.if_icmp .ge 23, 3) := by decide +kernel
theorem dX7_number_30 : decode cX7_number 30 = .ok (.bipush 10, 2) := by decide +kernel
theorem dX7_number_32 : decode cX7_number 32 = .ok (.iload_n 3, 1) := by decide +kernel
theorem dX7_number_33 : decode cX7_number 33 = .ok (.imul, 1) := by decide +kernel
theorem dX7_number_34 : decode cX7_number 34 = .ok (.aload_n 0, 1) := by decide +kernel
theorem dX7_number_35 : decode cX7_number 35 = .ok (.getfield 63, 3) := by decide +kernel
theorem dX7_number_38 : decode cX7_number 38 = .ok (.aload_n 0, 1) := by decide +kernel
theorem dX7_number_39 : decode cX7_number 39 = .ok (.getfield 176, 3) := by decide +kernel
theorem dX7_number_42 : decode cX7_number 42 = .ok (.baload, 1) := by decide +kernel
theorem dX7_number_43 : decode cX7_number 43 = .ok (.iadd, 1) := by decide +kernel
theorem dX7_number_44 : decode cX7_number 44 = .ok (.bipush 48, 2) := by decide +kernel
theorem dX7_number_46 : decode cX7_number 46 = .ok (.isub, 1) := by decide +kernel
theorem dX7_number_47 : decode cX7_number 47 = .ok (.goto 4, 3) := by decide +kernel
theorem dX7_number_50 : decode cX7_number 50 = .ok (.iload_n 3, 1) := by decide +kernel
theorem dX7_number_51 : decode cX7_number 51 = .ok (.istore_n 3, 1) := by decide +kernel
theorem dX7_number_52 : decode cX7_number 52 = .ok (.aload_n 0, 1) := by decide +kernel
theorem dX7_number_53 : decode cX7_number 53 = .ok (.dup, 1) := by decide +kernel
theorem dX7_number_54 : decode cX7_number 54 = .ok (.getfield 176, 3) := by decide +kernel
theorem dX7_number_57 : decode cX7_number 57 = .ok (.iconst 1, 1) := by decide +kernel
theorem dX7_number_58 : decode cX7_number 58 = .ok (.iadd, 1) := by decide +kernel
theorem dX7_number_59 : decode cX7_number 59 = .ok (.putfield 176, 3) := by decide +kernel
theorem dX7_number_62 : decode cX7_number 62 = .ok (.goto (-56), 3) := by decide +kernel
theorem dX7_number_65 : decode cX7_number 65 = .ok (.aload_n 0, 1) := by decide +kernel
theorem dX7_number_66 : decode cX7_number 66 = .ok (.getfield 60, 3) := by decide +kernel
theorem dX7_number_69 : decode cX7_number 69 = .ok (.iload_n 1, 1) := by decide +kernel
theorem dX7_number_70 : decode cX7_number 70 = .ok (.iload_n 3, 1) := by decide +kernel
theorem dX7_number_71 : decode cX7_number 71 = .ok (.iastore, 1) := by decide +kernel
theorem dX7_number_72 : decode cX7_number 72 = .ok (.aload_n 0, 1) := by decide +kernel
theorem dX7_number_73 : decode cX7_number 73 = .ok (.getfield 176, 3) := by decide +kernel
theorem dX7_number_76 : decode cX7_number 76 = .ok (.aload_n 0, 1) := by decide +kernel
theorem dX7_number_77 : decode cX7_number 77 = .ok (.getfield 185, 3) := by decide +kernel
theorem dX7_number_80 : decode cX7_number 80 = .ok (.if_icmp .le 25, 3) := by decide +kernel
theorem dX7_number_83 : decode cX7_number 83 = .ok (.aload_n 0, 1) := by decide +kernel
theorem dX7_number_84 : decode cX7_number 84 = .ok (.getfield 176, 3) := by decide +kernel
theorem dX7_number_87 : decode cX7_number 87 = .ok (.aload_n 0, 1) := by decide +kernel
theorem dX7_number_88 : decode cX7_number 88 = .ok (.getfield 185, 3) := by decide +kernel
theorem dX7_number_91 : decode cX7_number 91 = .ok (.isub, 1) := by decide +kernel
theorem dX7_number_92 : decode cX7_number 92 = .ok (.iconst 5, 1) := by decide +kernel
theorem dX7_number_93 : decode cX7_number 93 = .ok (.if_icmp .ge 12, 3) := by decide +kernel
theorem dX7_number_96 : decode cX7_number 96 = .ok (.iload_n 3, 1) := by decide +kernel
theorem dX7_number_97 : decode cX7_number 97 = .ok (.iload_n 2, 1) := by decide +kernel
theorem dX7_number_98 : decode cX7_number 98 = .ok (.if_icmp .gt 7, 3) := by decide +kernel
theorem dX7_number_101 : decode cX7_number 101 = .ok (.iconst 1, 1) := by decide +kernel
theorem dX7_number_102 : decode cX7_number 102 = .ok (.goto 4, 3) := by decide +kernel
theorem dX7_number_105 : decode cX7_number 105 = .ok (.iconst 0, 1) := by decide +kernel
theorem dX7_number_106 : decode cX7_number 106 = .ok (.ireturn, 1) := by decide +kernel
set_option maxRecDepth 20000 in
theorem ggX7_readTerm_X7_word : GoodIn wsX7_readTerm wsX7_word := goodIn_r _ [6, 7, 8, 9, 10, 5, 11, 12, 13, 14, 15, 16, 17, 18, 76, 77, 78, 79, 80, 81, 82, 83, 84, 85, 86, 87, 88, 89, 90, 91, 92, 93, 94, 95, 96, 97, 98, 99, 100, 101, 102, 103, 104, 105, 106, 107, 108, 109, 110, 111] (by decide +kernel) (by decide +kernel)
set_option maxRecDepth 20000 in
theorem gX7_readTerm_X7_word : GoodIn wsX7_readTerm (wsV RX7 200 RX7 yX7_word wsX7_word) := goodIn_app (goodIn_of _ (by decide +kernel)) ggX7_readTerm_X7_word
set_option maxRecDepth 20000 in
theorem ggX7_readTerm_X7_isWord : GoodIn wsX7_readTerm wsX7_isWord := goodIn_r _ [22, 7, 12, 18, 23, 24, 25, 26, 27, 28, 29, 30, 31, 32, 33, 34, 35, 36, 37, 38, 39, 40, 41, 42, 43, 44, 45, 46, 47, 48, 49, 50, 51, 52, 53, 54, 55, 56, 57, 58, 59, 60, 61, 62, 63, 64, 65, 66, 67, 68, 69, 70, 71, 76, 77, 78, 79, 80, 81, 82, 83, 84, 85, 86, 87, 88, 89, 90, 91, 92, 93, 94, 95, 96, 97, 98, 99, 100, 101, 102, 103, 104, 105, 106, 107, 108, 109, 110, 111] (by decide +kernel) (by decide +kernel)
set_option maxRecDepth 20000 in
theorem gX7_readTerm_X7_isWord : GoodIn wsX7_readTerm (wsV RX7 205 RX7 yX7_isWord wsX7_isWord) := goodIn_app (goodIn_of _ (by decide +kernel)) ggX7_readTerm_X7_isWord
set_option maxRecDepth 20000 in
theorem ggX7_readTerm_X7_number : GoodIn wsX7_readTerm wsX7_number := goodIn_r _ [75, 7, 12, 18, 1, 8, 9, 10, 5, 11, 13, 14, 15, 16, 17, 76, 77, 78, 79, 80, 81, 82, 83, 84, 85, 86, 87, 88, 89, 90, 91, 92, 93, 94, 95, 96, 97, 98, 99, 100, 101, 102, 103, 104, 105, 106, 107, 108, 109, 110, 111] (by decide +kernel) (by decide +kernel)
set_option maxRecDepth 20000 in
theorem gX7_readTerm_X7_number : GoodIn wsX7_readTerm (wsV RX7 209 RX7 yX7_number wsX7_number) := goodIn_app (goodIn_of _ (by decide +kernel)) ggX7_readTerm_X7_number
theorem dX7_readTerm_0 : decode cX7_readTerm 0 = .ok (.aload_n 0, 1) := by decide +kernel
theorem dX7_readTerm_1 : decode cX7_readTerm 1 = .ok (.invokevirtual 200, 3) := by decide +kernel
theorem dX7_readTerm_4 : decode cX7_readTerm 4 = .ok (.aload_n 0, 1) := by decide +kernel
theorem dX7_readTerm_5 : decode cX7_readTerm 5 = .ok (.ldc 203, 2) := by decide +kernel
theorem dX7_readTerm_7 : decode cX7_readTerm 7 = .ok (.invokevirtual 205, 3) := by decide +kernel
theorem dX7_readTerm_10 : decode cX7_readTerm 10 = .ok (.ifCond .eq 11, 3) := by decide +kernel
theorem dX7_readTerm_13 : decode cX7_readTerm 13 = .ok (.aload_n 0, 1) := by decide +kernel
theorem dX7_readTerm_14 : decode cX7_readTerm 14 = .ok (.iconst 0, 1) := by decide +kernel
theorem dX7_readTerm_15 : decode cX7_readTerm 15 = .ok (.bipush 100, 2) := by decide +kernel
theorem dX7_readTerm_17 : decode cX7_readTerm 17 = .ok (.invokevirtual 209, 3) := by decide +kernel
theorem dX7_readTerm_20 : decode cX7_readTerm 20 = .ok (.ireturn, 1) := by decide +kernel
theorem dX7_readTerm_21 : decode cX7_readTerm 21 = .ok (.aload_n 0, 1) := by decide +kernel
theorem dX7_readTerm_22 : decode cX7_readTerm 22 = .ok (.ldc 212, 2) := by decide +kernel
theorem dX7_readTerm_24 : decode cX7_readTerm 24 = .ok (.invokevirtual 205, 3) := by decide +kernel
theorem dX7_readTerm_27 : decode cX7_readTerm 27 = .ok (.ifCond .eq 12, 3) := by decide +kernel
theorem dX7_readTerm_30 : decode cX7_readTerm 30 = .ok (.aload_n 0, 1) := by decide +kernel
theorem dX7_readTerm_31 : decode cX7_readTerm 31 = .ok (.iconst 1, 1) := by decide +kernel
theorem dX7_readTerm_32 : decode cX7_readTerm 32 = .ok (.sipush 1000, 3) := by decide +kernel
theorem dX7_readTerm_35 : decode cX7_readTerm 35 = .ok (.invokevirtual 209, 3) := by decide +kernel
theorem dX7_readTerm_38 : decode cX7_readTerm 38 = .ok (.ireturn, 1) := by decide +kernel
theorem dX7_readTerm_39 : decode cX7_readTerm 39 = .ok (.aload_n 0, 1) := by decide +kernel
theorem dX7_readTerm_40 : decode cX7_readTerm 40 = .ok (.ldc 214, 2) := by decide +kernel
theorem dX7_readTerm_42 : decode cX7_readTerm 42 = .ok (.invokevirtual 205, 3) := by decide +kernel
theorem dX7_readTerm_45 : decode cX7_readTerm 45 = .ok (.ifCond .eq 11, 3) := by decide +kernel
theorem dX7_readTerm_48 : decode cX7_readTerm 48 = .ok (.aload_n 0, 1) := by decide +kernel
theorem dX7_readTerm_49 : decode cX7_readTerm 49 = .ok (.iconst 3, 1) := by decide +kernel
theorem dX7_readTerm_50 : decode cX7_readTerm 50 = .ok (.bipush 100, 2) := by decide +kernel
theorem dX7_readTerm_52 : decode cX7_readTerm 52 = .ok (.invokevirtual 209, 3) := by decide +kernel
theorem dX7_readTerm_55 : decode cX7_readTerm 55 = .ok (.ireturn, 1) := by decide +kernel
theorem dX7_readTerm_56 : decode cX7_readTerm 56 = .ok (.aload_n 0, 1) := by decide +kernel
theorem dX7_readTerm_57 : decode cX7_readTerm 57 = .ok (.ldc 216, 2) := by decide +kernel
theorem dX7_readTerm_59 : decode cX7_readTerm 59 = .ok (.invokevirtual 205, 3) := by decide +kernel
theorem dX7_readTerm_62 : decode cX7_readTerm 62 = .ok (.ifCond .ne 5, 3) := by decide +kernel
theorem dX7_readTerm_65 : decode cX7_readTerm 65 = .ok (.iconst 0, 1) := by decide +kernel
theorem dX7_readTerm_66 : decode cX7_readTerm 66 = .ok (.ireturn, 1) := by decide +kernel
theorem dX7_readTerm_67 : decode cX7_readTerm 67 = .ok (.aload_n 0, 1) := by decide +kernel
theorem dX7_readTerm_68 : decode cX7_readTerm 68 = .ok (.invokevirtual 200, 3) := by decide +kernel
theorem dX7_readTerm_71 : decode cX7_readTerm 71 = .ok (.aload_n 0, 1) := by decide +kernel
theorem dX7_readTerm_72 : decode cX7_readTerm 72 = .ok (.getfield 60, 3) := by decide +kernel
theorem dX7_readTerm_75 : decode cX7_readTerm 75 = .ok (.iconst 2, 1) := by decide +kernel
theorem dX7_readTerm_76 : decode cX7_readTerm 76 = .ok (.aload_n 0, 1) := by decide +kernel
theorem dX7_readTerm_77 : decode cX7_readTerm 77 = .ok (.ldc 218, 2) := by decide +kernel
theorem dX7_readTerm_79 : decode cX7_readTerm 79 = .ok (.invokevirtual 205, 3) := by decide +kernel
theorem dX7_readTerm_82 : decode cX7_readTerm 82 = .ok (.ifCond .eq 7, 3) := by decide +kernel
theorem dX7_readTerm_85 : decode cX7_readTerm 85 = .ok (.iconst 1, 1) := by decide +kernel
theorem dX7_readTerm_86 : decode cX7_readTerm 86 = .ok (.goto 4, 3) := by decide +kernel
theorem dX7_readTerm_89 : decode cX7_readTerm 89 = .ok (.iconst 0, 1) := by decide +kernel
theorem dX7_readTerm_90 : decode cX7_readTerm 90 = .ok (.iastore, 1) := by decide +kernel
theorem dX7_readTerm_91 : decode cX7_readTerm 91 = .ok (.aload_n 0, 1) := by decide +kernel
theorem dX7_readTerm_92 : decode cX7_readTerm 92 = .ok (.getfield 60, 3) := by decide +kernel
theorem dX7_readTerm_95 : decode cX7_readTerm 95 = .ok (.iconst 2, 1) := by decide +kernel
theorem dX7_readTerm_96 : decode cX7_readTerm 96 = .ok (.iaload, 1) := by decide +kernel
theorem dX7_readTerm_97 : decode cX7_readTerm 97 = .ok (.iconst 1, 1) := by decide +kernel
theorem dX7_readTerm_98 : decode cX7_readTerm 98 = .ok (.if_icmp .eq 12, 3) := by decide +kernel
theorem dX7_readTerm_101 : decode cX7_readTerm 101 = .ok (.aload_n 0, 1) := by decide +kernel
theorem dX7_readTerm_102 : decode cX7_readTerm 102 = .ok (.ldc 220, 2) := by decide +kernel
theorem dX7_readTerm_104 : decode cX7_readTerm 104 = .ok (.invokevirtual 205, 3) := by decide +kernel
theorem dX7_readTerm_107 : decode cX7_readTerm 107 = .ok (.ifCond .eq 7, 3) := by decide +kernel
theorem dX7_readTerm_110 : decode cX7_readTerm 110 = .ok (.iconst 1, 1) := by decide +kernel
theorem dX7_readTerm_111 : decode cX7_readTerm 111 = .ok (.goto 4, 3) := by decide +kernel
theorem dX7_readTerm_114 : decode cX7_readTerm 114 = .ok (.iconst 0, 1) := by decide +kernel
theorem dX7_readTerm_115 : decode cX7_readTerm 115 = .ok (.ireturn, 1) := by decide +kernel
set_option maxRecDepth 20000 in
theorem ggX7_law_X7_readTerm : GoodIn wsX7_law wsX7_readTerm := goodIn_r _ [13, 5, 14, 15, 16, 12, 17, 4, 18, 19, 20, 21, 7, 22, 23, 24, 25, 3, 26, 27, 28, 29, 30, 31, 32, 33, 34, 35, 36, 37, 38, 39, 40, 41, 42, 43, 44, 45, 46, 47, 48, 49, 50, 51, 52, 53, 54, 55, 56, 57, 58, 59, 60, 61, 62, 63, 64, 65, 66, 67, 68, 69, 70, 71, 72, 73, 74, 75, 76, 77, 78, 79, 80, 81, 82, 83, 88, 89, 90, 91, 92, 93, 94, 95, 96, 97, 98, 99, 100, 101, 102, 103, 104, 105, 106, 107, 108, 109, 110, 111, 112, 113, 114, 115, 116, 117, 118, 119, 120, 121, 122, 123] (by decide +kernel) (by decide +kernel)
set_option maxRecDepth 20000 in
theorem gX7_law_X7_readTerm : GoodIn wsX7_law (wsV RX7 222 RX7 yX7_readTerm wsX7_readTerm) := goodIn_app (goodIn_of _ (by decide +kernel)) ggX7_law_X7_readTerm
set_option maxRecDepth 20000 in
theorem ggX7_law_X7_blanks : GoodIn wsX7_law wsX7_blanks := goodIn_r _ [21, 4, 7, 22, 23, 24, 12, 25, 3, 26, 88, 89, 90, 91, 92, 93, 94, 95, 96, 97, 98, 99, 100, 101, 102, 103, 104, 105, 106, 107, 108, 109, 110, 111, 112, 113, 114, 115, 116, 117, 118, 119, 120, 121, 122, 123] (by decide +kernel) (by decide +kernel)
set_option maxRecDepth 20000 in
theorem gX7_law_X7_blanks : GoodIn wsX7_law (wsV RX7 197 RX7 yX7_blanks wsX7_blanks) := goodIn_app (goodIn_of _ (by decide +kernel)) ggX7_law_X7_blanks
set_option maxRecDepth 20000 in
theorem ggX7_law_X7_isAt : GoodIn wsX7_law wsX7_isAt := goodIn_r _ [25, 4, 3, 26, 88, 89, 90, 91, 92, 93, 94, 95, 96, 97, 98, 99, 100, 101, 102, 103, 104, 105, 106, 107, 108, 109, 110, 111, 112, 113, 114, 115, 116, 117, 118, 119, 120, 121, 122, 123] (by decide +kernel) (by decide +kernel)
set_option maxRecDepth 20000 in
theorem gX7_law_X7_isAt : GoodIn wsX7_law (wsV RX7 182 RX7 yX7_isAt wsX7_isAt) := goodIn_app (goodIn_of _ (by decide +kernel)) ggX7_law_X7_isAt
set_option maxRecDepth 20000 in
theorem ggX7_law_X7_throwsIf : GoodIn wsX7_law wsX7_throwsIf := goodIn_r _ [87, 1, 88, 89, 90, 91, 92, 93, 94, 95, 96, 97, 98, 99, 100, 101, 102, 103, 104, 105, 106, 107, 108, 109, 110, 111, 112, 113, 114, 115, 116, 117, 118, 119, 120, 121, 122, 123] (by decide +kernel) (by decide +kernel)
set_option maxRecDepth 20000 in
theorem gX7_law_X7_throwsIf : GoodIn wsX7_law (wsV RX7 105 RX7 yX7_throwsIf wsX7_throwsIf) := goodIn_app (goodIn_of _ (by decide +kernel)) ggX7_law_X7_throwsIf
theorem dX7_law_0 : decode cX7_law 0 = .ok (.aload_n 0, 1) := by decide +kernel
theorem dX7_law_1 : decode cX7_law 1 = .ok (.iconst 0, 1) := by decide +kernel
theorem dX7_law_2 : decode cX7_law 2 = .ok (.putfield 88, 3) := by decide +kernel
theorem dX7_law_5 : decode cX7_law 5 = .ok (.aload_n 0, 1) := by decide +kernel
theorem dX7_law_6 : decode cX7_law 6 = .ok (.aload_n 0, 1) := by decide +kernel
theorem dX7_law_7 : decode cX7_law 7 = .ok (.getfield 173, 3) := by decide +kernel
theorem dX7_law_10 : decode cX7_law 10 = .ok (.putfield 179, 3) := by decide +kernel
theorem dX7_law_13 : decode cX7_law 13 = .ok (.aload_n 0, 1) := by decide +kernel
theorem dX7_law_14 : decode cX7_law 14 = .ok (.iconst 0, 1) := by decide +kernel
theorem dX7_law_15 : decode cX7_law 15 = .ok (.putfield 173, 3) := by decide +kernel
theorem dX7_law_18 : decode cX7_law 18 = .ok (.aload_n 0, 1) := by decide +kernel
theorem dX7_law_19 : decode cX7_law 19 = .ok (.iconst 0, 1) := by decide +kernel
theorem dX7_law_20 : decode cX7_law 20 = .ok (.putfield 176, 3) := by decide +kernel
theorem dX7_law_23 : decode cX7_law 23 = .ok (.iconst 0, 1) := by decide +kernel
theorem dX7_law_24 : decode cX7_law 24 = .ok (.istore_n 1, 1) := by decide +kernel
theorem dX7_law_25 : decode cX7_law 25 = .ok (.iload_n 1, 1) := by decide +kernel
theorem dX7_law_26 : decode cX7_law 26 = .ok (.iconst 4, 1) := by decide +kernel
theorem dX7_law_27 : decode cX7_law 27 = .ok (.if_icmp .ge 21, 3) := by decide +kernel
theorem dX7_law_30 : decode cX7_law 30 = .ok (.aload_n 0, 1) := by decide +kernel
theorem dX7_law_31 : decode cX7_law 31 = .ok (.getfield 60, 3) := by decide +kernel
theorem dX7_law_34 : decode cX7_law 34 = .ok (.iload_n 1, 1) := by decide +kernel
theorem dX7_law_35 : decode cX7_law 35 = .ok (.aload_n 0, 1) := by decide +kernel
theorem dX7_law_36 : decode cX7_law 36 = .ok (.getfield 57, 3) := by decide +kernel
theorem dX7_law_39 : decode cX7_law 39 = .ok (.iload_n 1, 1) := by decide +kernel
theorem dX7_law_40 : decode cX7_law 40 = .ok (.iaload, 1) := by decide +kernel
theorem dX7_law_41 : decode cX7_law 41 = .ok (.iastore, 1) := by decide +kernel
theorem dX7_law_42 : decode cX7_law 42 = .ok (.iinc 1 1, 3) := by decide +kernel
theorem dX7_law_45 : decode cX7_law 45 = .ok (.goto (-20), 3) := by decide +kernel
theorem dX7_law_48 : decode cX7_law 48 = .ok (.iconst 0, 1) := by decide +kernel
theorem dX7_law_49 : decode cX7_law 49 = .ok (.istore_n 1, 1) := by decide +kernel
theorem dX7_law_50 : decode cX7_law 50 = .ok (.aload_n 0, 1) := by decide +kernel
theorem dX7_law_51 : decode cX7_law 51 = .ok (.invokevirtual 222, 3) := by decide +kernel
theorem dX7_law_54 : decode cX7_law 54 = .ok (.istore_n 2, 1) := by decide +kernel
theorem dX7_law_55 : decode cX7_law 55 = .ok (.iload_n 2, 1) := by decide +kernel
theorem dX7_law_56 : decode cX7_law 56 = .ok (.ifCond .eq 58, 3) := by decide +kernel
theorem dX7_law_59 : decode cX7_law 59 = .ok (.iinc 1 1, 3) := by decide +kernel
theorem dX7_law_62 : decode cX7_law 62 = .ok (.aload_n 0, 1) := by decide +kernel
theorem dX7_law_63 : decode cX7_law 63 = .ok (.invokevirtual 197, 3) := by decide +kernel
theorem dX7_law_66 : decode cX7_law 66 = .ok (.aload_n 0, 1) := by decide +kernel
theorem dX7_law_67 : decode cX7_law 67 = .ok (.getfield 176, 3) := by decide +kernel
theorem dX7_law_70 : decode cX7_law 70 = .ok (.aload_n 0, 1) := by decide +kernel
theorem dX7_law_71 : decode cX7_law 71 = .ok (.getfield 179, 3) := by decide +kernel
theorem dX7_law_74 : decode cX7_law 74 = .ok (.if_icmp .ne 6, 3) := by decide +kernel
theorem dX7_law_77 : decode cX7_law 77 = .ok (.goto 37, 3) := by decide +kernel
theorem dX7_law_80 : decode cX7_law 80 = .ok (.aload_n 0, 1) := by decide +kernel
theorem dX7_law_81 : decode cX7_law 81 = .ok (.bipush 59, 2) := by decide +kernel
theorem dX7_law_83 : decode cX7_law 83 = .ok (.bipush 59, 2) := by decide +kernel
theorem dX7_law_85 : decode cX7_law 85 = .ok (.invokevirtual 182, 3) := by decide +kernel
theorem dX7_law_88 : decode cX7_law 88 = .ok (.istore_n 2, 1) := by decide +kernel
theorem dX7_law_89 : decode cX7_law 89 = .ok (.iload_n 2, 1) := by decide +kernel
theorem dX7_law_90 : decode cX7_law 90 = .ok (.ifCond .ne 6, 3) := by decide +kernel
theorem dX7_law_93 : decode cX7_law 93 = .ok (.goto 21, 3) := by decide +kernel
theorem dX7_law_96 : decode cX7_law 96 = .ok (.aload_n 0, 1) := by decide +kernel
theorem dX7_law_97 : decode cX7_law 97 = .ok (.dup, 1) := by decide +kernel
theorem dX7_law_98 : decode cX7_law 98 = .ok (.getfield 176, 3) := by decide +kernel
theorem dX7_law_101 : decode cX7_law 101 = .ok (.iconst 1, 1) := by decide +kernel
theorem dX7_law_102 : decode cX7_law 102 = .ok (.iadd, 1) := by decide +kernel
theorem dX7_law_103 : decode cX7_law 103 = .ok (.putfield 176, 3) := by decide +kernel
theorem dX7_law_106 : decode cX7_law 106 = .ok (.aload_n 0, 1) := by decide +kernel
theorem dX7_law_107 : decode cX7_law 107 = .ok (.invokevirtual 222, 3) := by decide +kernel
theorem dX7_law_110 : decode cX7_law 110 = .ok (.istore_n 2, 1) := by decide +kernel
theorem dX7_law_111 : decode cX7_law 111 = .ok (.goto (-56), 3) := by decide +kernel
theorem dX7_law_114 : decode cX7_law 114 = .ok (.aload_n 0, 1) := by decide +kernel
theorem dX7_law_115 : decode cX7_law 115 = .ok (.iload_n 2, 1) := by decide +kernel
theorem dX7_law_116 : decode cX7_law 116 = .ok (.ifCond .eq 7, 3) := by decide +kernel
theorem dX7_law_119 : decode cX7_law 119 = .ok (.iconst (-1), 1) := by decide +kernel
theorem dX7_law_120 : decode cX7_law 120 = .ok (.goto 7, 3) := by decide +kernel
theorem dX7_law_123 : decode cX7_law 123 = .ok (.aload_n 0, 1) := by decide +kernel
theorem dX7_law_124 : decode cX7_law 124 = .ok (.getfield 185, 3) := by decide +kernel
theorem dX7_law_127 : decode cX7_law 127 = .ok (.putfield 67, 3) := by decide +kernel
theorem dX7_law_130 : decode cX7_law 130 = .ok (.aload_n 0, 1) := by decide +kernel
theorem dX7_law_131 : decode cX7_law 131 = .ok (.iload_n 2, 1) := by decide +kernel
theorem dX7_law_132 : decode cX7_law 132 = .ok (.ifCond .ne 7, 3) := by decide +kernel
theorem dX7_law_135 : decode cX7_law 135 = .ok (.iconst 1, 1) := by decide +kernel
theorem dX7_law_136 : decode cX7_law 136 = .ok (.goto 4, 3) := by decide +kernel
theorem dX7_law_139 : decode cX7_law 139 = .ok (.iconst 0, 1) := by decide +kernel
theorem dX7_law_140 : decode cX7_law 140 = .ok (.iconst 1, 1) := by decide +kernel
theorem dX7_law_141 : decode cX7_law 141 = .ok (.invokevirtual 105, 3) := by decide +kernel
theorem dX7_law_144 : decode cX7_law 144 = .ok (.ifCond .eq 5, 3) := by decide +kernel
theorem dX7_law_147 : decode cX7_law 147 = .ok (.iconst 0, 1) := by decide +kernel
theorem dX7_law_148 : decode cX7_law 148 = .ok (.ireturn, 1) := by decide +kernel
theorem dX7_law_149 : decode cX7_law 149 = .ok (.iconst 0, 1) := by decide +kernel
theorem dX7_law_150 : decode cX7_law 150 = .ok (.istore_n 3, 1) := by decide +kernel
theorem dX7_law_151 : decode cX7_law 151 = .ok (.iload_n 3, 1) := by decide +kernel
theorem dX7_law_152 : decode cX7_law 152 = .ok (.iconst 4, 1) := by decide +kernel
theorem dX7_law_153 : decode cX7_law 153 = .ok (.if_icmp .ge 21, 3) := by decide +kernel
theorem dX7_law_156 : decode cX7_law 156 = .ok (.aload_n 0, 1) := by decide +kernel
theorem dX7_law_157 : decode cX7_law 157 = .ok (.getfield 57, 3) := by decide +kernel
theorem dX7_law_160 : decode cX7_law 160 = .ok (.iload_n 3, 1) := by decide +kernel
theorem dX7_law_161 : decode cX7_law 161 = .ok (.aload_n 0, 1) := by decide +kernel
theorem dX7_law_162 : decode cX7_law 162 = .ok (.getfield 60, 3) := by decide +kernel
theorem dX7_law_165 : decode cX7_law 165 = .ok (.iload_n 3, 1) := by decide +kernel
theorem dX7_law_166 : decode cX7_law 166 = .ok (.iaload, 1) := by decide +kernel
theorem dX7_law_167 : decode cX7_law 167 = .ok (.iastore, 1) := by decide +kernel
theorem dX7_law_168 : decode cX7_law 168 = .ok (.iinc 3 1, 3) := by decide +kernel
theorem dX7_law_171 : decode cX7_law 171 = .ok (.goto (-20), 3) := by decide +kernel
theorem dX7_law_174 : decode cX7_law 174 = .ok (.iload_n 1, 1) := by decide +kernel
theorem dX7_law_175 : decode cX7_law 175 = .ok (.ireturn, 1) := by decide +kernel
theorem dX7_fault_0 : decode cX7_fault 0 = .ok (.aload_n 0, 1) := by decide +kernel
theorem dX7_fault_1 : decode cX7_fault 1 = .ok (.iconst 0, 1) := by decide +kernel
theorem dX7_fault_2 : decode cX7_fault 2 = .ok (.putfield 88, 3) := by decide +kernel
theorem dX7_fault_5 : decode cX7_fault 5 = .ok (.aload_n 0, 1) := by decide +kernel
theorem dX7_fault_6 : decode cX7_fault 6 = .ok (.getfield 67, 3) := by decide +kernel
theorem dX7_fault_9 : decode cX7_fault 9 = .ok (.ireturn, 1) := by decide +kernel
set_option maxRecDepth 20000 in
theorem ggX7_says_X7_in : GoodIn wsX7_says wsX7_in := goodIn_r _ [6] (by decide +kernel) (by decide +kernel)
set_option maxRecDepth 20000 in
theorem gX7_says_X7_in : GoodIn wsX7_says (va_wsS RX7 94 yX7_in wsX7_in) := goodIn_app (goodIn_of _ (by decide +kernel)) ggX7_says_X7_in
set_option maxRecDepth 20000 in
theorem ggX7_says_X7_throwsIf : GoodIn wsX7_says wsX7_throwsIf := goodIn_r _ [10, 1, 11, 12, 13, 14, 15, 16, 17, 18, 19, 20, 21, 22, 23, 24, 25, 26, 27, 28, 29, 30, 31, 32, 33, 34, 35, 36, 37, 38, 39, 40, 41, 42, 43, 44, 45, 46] (by decide +kernel) (by decide +kernel)
set_option maxRecDepth 20000 in
theorem gX7_says_X7_throwsIf : GoodIn wsX7_says (wsV RX7 105 RX7 yX7_throwsIf wsX7_throwsIf) := goodIn_app (goodIn_of _ (by decide +kernel)) ggX7_says_X7_throwsIf
theorem dX7_says_0 : decode cX7_says 0 = .ok (.aload_n 0, 1) := by decide +kernel
theorem dX7_says_1 : decode cX7_says 1 = .ok (.iconst 0, 1) := by decide +kernel
theorem dX7_says_2 : decode cX7_says 2 = .ok (.putfield 88, 3) := by decide +kernel
theorem dX7_says_5 : decode cX7_says 5 = .ok (.aload_n 0, 1) := by decide +kernel
theorem dX7_says_6 : decode cX7_says 6 = .ok (.iload_n 1, 1) := by decide +kernel
theorem dX7_says_7 : decode cX7_says 7 = .ok (.iconst 0, 1) := by decide +kernel
theorem dX7_says_8 : decode cX7_says 8 = .ok (.iconst 3, 1) := by decide +kernel
theorem dX7_says_9 : decode cX7_says 9 = .ok (.invokestatic 94, 3) := by decide +kernel
theorem dX7_says_12 : decode cX7_says 12 = .ok (.ifCond .ne 7, 3) := by decide +kernel
theorem dX7_says_15 : decode cX7_says 15 = .ok (.iconst 1, 1) := by decide +kernel
theorem dX7_says_16 : decode cX7_says 16 = .ok (.goto 4, 3) := by decide +kernel
theorem dX7_says_19 : decode cX7_says 19 = .ok (.iconst 0, 1) := by decide +kernel
theorem dX7_says_20 : decode cX7_says 20 = .ok (.iconst 1, 1) := by decide +kernel
theorem dX7_says_21 : decode cX7_says 21 = .ok (.invokevirtual 105, 3) := by decide +kernel
theorem dX7_says_24 : decode cX7_says 24 = .ok (.ifCond .eq 7, 3) := by decide +kernel
theorem dX7_says_27 : decode cX7_says 27 = .ok (.iconst 0, 1) := by decide +kernel
theorem dX7_says_28 : decode cX7_says 28 = .ok (.goto 9, 3) := by decide +kernel
theorem dX7_says_31 : decode cX7_says 31 = .ok (.aload_n 0, 1) := by decide +kernel
theorem dX7_says_32 : decode cX7_says 32 = .ok (.getfield 57, 3) := by decide +kernel
theorem dX7_says_35 : decode cX7_says 35 = .ok (.iload_n 1, 1) := by decide +kernel
theorem dX7_says_36 : decode cX7_says 36 = .ok (.iaload, 1) := by decide +kernel
theorem dX7_says_37 : decode cX7_says 37 = .ok (.ireturn, 1) := by decide +kernel
set_option maxRecDepth 20000 in
theorem ggX7_pays_X7_noChannel : GoodIn wsX7_pays wsX7_noChannel := goodIn_r _ [13, 14, 15, 16, 12, 17, 30, 31, 32, 33, 34, 35, 36, 37, 38, 39, 40, 41, 42, 43, 44, 45, 46, 47, 48, 49, 50, 51, 52, 53, 54, 55, 56, 57, 58, 59, 60, 61, 62, 63, 64, 65] (by decide +kernel) (by decide +kernel)
set_option maxRecDepth 20000 in
theorem gX7_pays_X7_noChannel : GoodIn wsX7_pays (wsV RX7 98 RX7 yX7_noChannel wsX7_noChannel) := goodIn_app (goodIn_of _ (by decide +kernel)) ggX7_pays_X7_noChannel
set_option maxRecDepth 20000 in
theorem ggX7_pays_X7_throwsIf : GoodIn wsX7_pays wsX7_throwsIf := goodIn_r _ [21, 1, 30, 31, 32, 33, 34, 35, 36, 37, 38, 39, 40, 41, 42, 43, 44, 45, 46, 47, 48, 49, 50, 51, 52, 53, 54, 55, 56, 57, 58, 59, 60, 61, 62, 63, 64, 65] (by decide +kernel) (by decide +kernel)
set_option maxRecDepth 20000 in
theorem gX7_pays_X7_throwsIf : GoodIn wsX7_pays (wsV RX7 105 RX7 yX7_throwsIf wsX7_throwsIf) := goodIn_app (goodIn_of _ (by decide +kernel)) ggX7_pays_X7_throwsIf
set_option maxRecDepth 20000 in
theorem ggX7_pays_X7_noOwner : GoodIn wsX7_pays wsX7_noOwner := goodIn_r _ [24, 15, 16, 12, 17] (by decide +kernel) (by decide +kernel)
set_option maxRecDepth 20000 in
theorem gX7_pays_X7_noOwner : GoodIn wsX7_pays (va_wsS RX7 168 yX7_noOwner wsX7_noOwner) := goodIn_app (goodIn_of _ (by decide +kernel)) ggX7_pays_X7_noOwner
set_option maxRecDepth 20000 in
theorem ggX7_pays_X7_in : GoodIn wsX7_pays wsX7_in := goodIn_r _ [17] (by decide +kernel) (by decide +kernel)
set_option maxRecDepth 20000 in
theorem gX7_pays_X7_in : GoodIn wsX7_pays (va_wsS RX7 94 yX7_in wsX7_in) := goodIn_app (goodIn_of _ (by decide +kernel)) ggX7_pays_X7_in
set_option maxRecDepth 20000 in
theorem ggX7_pays_X7_portion : GoodIn wsX7_pays wsX7_portion := goodIn_r _ [28, 7, 4, 29, 30, 31, 32, 33, 34, 35, 36, 37, 38, 39, 40, 41, 42, 43, 44, 45, 46, 47, 48, 49, 50, 51, 52, 53, 54, 55, 56, 57, 58, 59, 60, 61, 62, 63, 64, 65] (by decide +kernel) (by decide +kernel)
set_option maxRecDepth 20000 in
theorem gX7_pays_X7_portion : GoodIn wsX7_pays (wsV RX7 229 RX7 yX7_portion wsX7_portion) := goodIn_app (goodIn_of _ (by decide +kernel)) ggX7_pays_X7_portion
theorem dX7_pays_0 : decode cX7_pays 0 = .ok (.aload_n 0, 1) := by decide +kernel
theorem dX7_pays_1 : decode cX7_pays 1 = .ok (.iconst 0, 1) := by decide +kernel
theorem dX7_pays_2 : decode cX7_pays 2 = .ok (.putfield 88, 3) := by decide +kernel
theorem dX7_pays_5 : decode cX7_pays 5 = .ok (.aload_n 0, 1) := by decide +kernel
theorem dX7_pays_6 : decode cX7_pays 6 = .ok (.aload_n 0, 1) := by decide +kernel
theorem dX7_pays_7 : decode cX7_pays 7 = .ok (.iload_n 1, 1) := by decide +kernel
theorem dX7_pays_8 : decode cX7_pays 8 = .ok (.invokevirtual 98, 3) := by decide +kernel
theorem dX7_pays_11 : decode cX7_pays 11 = .ok (.iconst 1, 1) := by decide +kernel
theorem dX7_pays_12 : decode cX7_pays 12 = .ok (.invokevirtual 105, 3) := by decide +kernel
theorem dX7_pays_15 : decode cX7_pays 15 = .ok (.ifCond .ne 55, 3) := by decide +kernel
theorem dX7_pays_18 : decode cX7_pays 18 = .ok (.aload_n 0, 1) := by decide +kernel
theorem dX7_pays_19 : decode cX7_pays 19 = .ok (.aload_n 0, 1) := by decide +kernel
theorem dX7_pays_20 : decode cX7_pays 20 = .ok (.getfield 20, 3) := by decide +kernel
theorem dX7_pays_23 : decode cX7_pays 23 = .ok (.iload_n 1, 1) := by decide +kernel
theorem dX7_pays_24 : decode cX7_pays 24 = .ok (.baload, 1) := by decide +kernel
theorem dX7_pays_25 : decode cX7_pays 25 = .ok (.ifCond .ne 7, 3) := by decide +kernel
theorem dX7_pays_28 : decode cX7_pays 28 = .ok (.iconst 1, 1) := by decide +kernel
theorem dX7_pays_29 : decode cX7_pays 29 = .ok (.goto 4, 3) := by decide +kernel
theorem dX7_pays_32 : decode cX7_pays 32 = .ok (.iconst 0, 1) := by decide +kernel
theorem dX7_pays_33 : decode cX7_pays 33 = .ok (.iconst 2, 1) := by decide +kernel
theorem dX7_pays_34 : decode cX7_pays 34 = .ok (.invokevirtual 105, 3) := by decide +kernel
theorem dX7_pays_37 : decode cX7_pays 37 = .ok (.ifCond .ne 33, 3) := by decide +kernel
theorem dX7_pays_40 : decode cX7_pays 40 = .ok (.aload_n 0, 1) := by decide +kernel
theorem dX7_pays_41 : decode cX7_pays 41 = .ok (.iload_n 2, 1) := by decide +kernel
theorem dX7_pays_42 : decode cX7_pays 42 = .ok (.invokestatic 168, 3) := by decide +kernel
theorem dX7_pays_45 : decode cX7_pays 45 = .ok (.ifCond .ne 13, 3) := by decide +kernel
theorem dX7_pays_48 : decode cX7_pays 48 = .ok (.iload_n 3, 1) := by decide +kernel
theorem dX7_pays_49 : decode cX7_pays 49 = .ok (.iconst 0, 1) := by decide +kernel
theorem dX7_pays_50 : decode cX7_pays 50 = .ok (.ldc 226, 2) := by decide +kernel
theorem dX7_pays_52 : decode cX7_pays 52 = .ok (.invokestatic 94, 3) := by decide +kernel
theorem dX7_pays_55 : decode cX7_pays 55 = .ok (.ifCond .ne 7, 3) := by decide +kernel
theorem dX7_pays_58 : decode cX7_pays 58 = .ok (.iconst 1, 1) := by decide +kernel
theorem dX7_pays_59 : decode cX7_pays 59 = .ok (.goto 4, 3) := by decide +kernel
theorem dX7_pays_62 : decode cX7_pays 62 = .ok (.iconst 0, 1) := by decide +kernel
theorem dX7_pays_63 : decode cX7_pays 63 = .ok (.iconst 3, 1) := by decide +kernel
theorem dX7_pays_64 : decode cX7_pays 64 = .ok (.invokevirtual 105, 3) := by decide +kernel
theorem dX7_pays_67 : decode cX7_pays 67 = .ok (.ifCond .eq 5, 3) := by decide +kernel
theorem dX7_pays_70 : decode cX7_pays 70 = .ok (.iconst 0, 1) := by decide +kernel
theorem dX7_pays_71 : decode cX7_pays 71 = .ok (.ireturn, 1) := by decide +kernel
theorem dX7_pays_72 : decode cX7_pays 72 = .ok (.iconst 0, 1) := by decide +kernel
theorem dX7_pays_73 : decode cX7_pays 73 = .ok (.istore 4, 2) := by decide +kernel
theorem dX7_pays_75 : decode cX7_pays 75 = .ok (.iload 4, 2) := by decide +kernel
theorem dX7_pays_77 : decode cX7_pays 77 = .ok (.bipush 31, 2) := by decide +kernel
theorem dX7_pays_79 : decode cX7_pays 79 = .ok (.if_icmp .ge 17, 3) := by decide +kernel
theorem dX7_pays_82 : decode cX7_pays 82 = .ok (.aload_n 0, 1) := by decide +kernel
theorem dX7_pays_83 : decode cX7_pays 83 = .ok (.getfield 73, 3) := by decide +kernel
theorem dX7_pays_86 : decode cX7_pays 86 = .ok (.iload 4, 2) := by decide +kernel
theorem dX7_pays_88 : decode cX7_pays 88 = .ok (.iconst 0, 1) := by decide +kernel
theorem dX7_pays_89 : decode cX7_pays 89 = .ok (.iastore, 1) := by decide +kernel
theorem dX7_pays_90 : decode cX7_pays 90 = .ok (.iinc 4 1, 3) := by decide +kernel
theorem dX7_pays_93 : decode cX7_pays 93 = .ok (.goto (-18), 3) := by decide +kernel
theorem dX7_pays_96 : decode cX7_pays 96 = .ok (.iconst 0, 1) := by decide +kernel
theorem dX7_pays_97 : decode cX7_pays 97 = .ok (.istore 4, 2) := by decide +kernel
theorem dX7_pays_99 : decode cX7_pays 99 = .ok (.iload 4, 2) := by decide +kernel
theorem dX7_pays_101 : decode cX7_pays 101 = .ok (.aload_n 0, 1) := by decide +kernel
theorem dX7_pays_102 : decode cX7_pays 102 = .ok (.getfield 102, 3) := by decide +kernel
theorem dX7_pays_105 : decode cX7_pays 105 = .ok (.if_icmp .ge 68, 3) := by decide +kernel
theorem dX7_pays_108 : decode cX7_pays 108 = .ok (.aload_n 0, 1) := by decide +kernel
theorem dX7_pays_109 : decode cX7_pays 109 = .ok (.getfield 45, 3) := by decide +kernel
theorem dX7_pays_112 : decode cX7_pays 112 = .ok (.bipush 7, 2) := by decide +kernel
theorem dX7_pays_114 : decode cX7_pays 114 = .ok (.iload 4, 2) := by decide +kernel
theorem dX7_pays_116 : decode cX7_pays 116 = .ok (.imul, 1) := by decide +kernel
theorem dX7_pays_117 : decode cX7_pays 117 = .ok (.iaload, 1) := by decide +kernel
theorem dX7_pays_118 : decode cX7_pays 118 = .ok (.iload_n 1, 1) := by decide +kernel
theorem dX7_pays_119 : decode cX7_pays 119 = .ok (.if_icmp .ne 48, 3) := by decide +kernel
theorem dX7_pays_122 : decode cX7_pays 122 = .ok (.aload_n 0, 1) := by decide +kernel
theorem dX7_pays_123 : decode cX7_pays 123 = .ok (.getfield 73, 3) := by decide +kernel
theorem dX7_pays_126 : decode cX7_pays 126 = .ok (.aload_n 0, 1) := by decide +kernel
theorem dX7_pays_127 : decode cX7_pays 127 = .ok (.getfield 45, 3) := by decide +kernel
theorem dX7_pays_130 : decode cX7_pays 130 = .ok (.bipush 7, 2) := by decide +kernel
theorem dX7_pays_132 : decode cX7_pays 132 = .ok (.iload 4, 2) := by decide +kernel
theorem dX7_pays_134 : decode cX7_pays 134 = .ok (.imul, 1) := by decide +kernel
theorem dX7_pays_135 : decode cX7_pays 135 = .ok (.iconst 3, 1) := by decide +kernel
theorem dX7_pays_136 : decode cX7_pays 136 = .ok (.iadd, 1) := by decide +kernel
theorem dX7_pays_137 : decode cX7_pays 137 = .ok (.iaload, 1) := by decide +kernel
theorem dX7_pays_138 : decode cX7_pays 138 = .ok (.dup2, 1) := by decide +kernel
theorem dX7_pays_139 : decode cX7_pays 139 = .ok (.iaload, 1) := by decide +kernel
theorem dX7_pays_140 : decode cX7_pays 140 = .ok (.aload_n 0, 1) := by decide +kernel
theorem dX7_pays_141 : decode cX7_pays 141 = .ok (.getfield 45, 3) := by decide +kernel
theorem dX7_pays_144 : decode cX7_pays 144 = .ok (.bipush 7, 2) := by decide +kernel
theorem dX7_pays_146 : decode cX7_pays 146 = .ok (.iload 4, 2) := by decide +kernel
theorem dX7_pays_148 : decode cX7_pays 148 = .ok (.imul, 1) := by decide +kernel
theorem dX7_pays_149 : decode cX7_pays 149 = .ok (.iconst 2, 1) := by decide +kernel
theorem dX7_pays_150 : decode cX7_pays 150 = .ok (.iadd, 1) := by decide +kernel
theorem dX7_pays_151 : decode cX7_pays 151 = .ok (.iaload, 1) := by decide +kernel
theorem dX7_pays_152 : decode cX7_pays 152 = .ok (.aload_n 0, 1) := by decide +kernel
theorem dX7_pays_153 : decode cX7_pays 153 = .ok (.getfield 45, 3) := by decide +kernel
theorem dX7_pays_156 : decode cX7_pays 156 = .ok (.bipush 7, 2) := by decide +kernel
theorem dX7_pays_158 : decode cX7_pays 158 = .ok (.iload 4, 2) := by decide +kernel
theorem dX7_pays_160 : decode cX7_pays 160 = .ok (.imul, 1) := by decide +kernel
theorem dX7_pays_161 : decode cX7_pays 161 = .ok (.iconst 1, 1) := by decide +kernel
theorem dX7_pays_162 : decode cX7_pays 162 = .ok (.iadd, 1) := by decide +kernel
theorem dX7_pays_163 : decode cX7_pays 163 = .ok (.iaload, 1) := by decide +kernel
theorem dX7_pays_164 : decode cX7_pays 164 = .ok (.isub, 1) := by decide +kernel
theorem dX7_pays_165 : decode cX7_pays 165 = .ok (.iadd, 1) := by decide +kernel
theorem dX7_pays_166 : decode cX7_pays 166 = .ok (.iastore, 1) := by decide +kernel
theorem dX7_pays_167 : decode cX7_pays 167 = .ok (.iinc 4 1, 3) := by decide +kernel
theorem dX7_pays_170 : decode cX7_pays 170 = .ok (.goto (-71), 3) := by decide +kernel
theorem dX7_pays_173 : decode cX7_pays 173 = .ok (.aload_n 0, 1) := by decide +kernel
theorem dX7_pays_174 : decode cX7_pays 174 = .ok (.getfield 73, 3) := by decide +kernel
theorem dX7_pays_177 : decode cX7_pays 177 = .ok (.iload_n 2, 1) := by decide +kernel
theorem dX7_pays_178 : decode cX7_pays 178 = .ok (.iaload, 1) := by decide +kernel
theorem dX7_pays_179 : decode cX7_pays 179 = .ok (.ifCond .ne 5, 3) := by decide +kernel
theorem dX7_pays_182 : decode cX7_pays 182 = .ok (.iconst 0, 1) := by decide +kernel
theorem dX7_pays_183 : decode cX7_pays 183 = .ok (.ireturn, 1) := by decide +kernel
theorem dX7_pays_184 : decode cX7_pays 184 = .ok (.iconst 0, 1) := by decide +kernel
theorem dX7_pays_185 : decode cX7_pays 185 = .ok (.istore 4, 2) := by decide +kernel
theorem dX7_pays_187 : decode cX7_pays 187 = .ok (.iconst 0, 1) := by decide +kernel
theorem dX7_pays_188 : decode cX7_pays 188 = .ok (.istore 5, 2) := by decide +kernel
theorem dX7_pays_190 : decode cX7_pays 190 = .ok (.iconst 0, 1) := by decide +kernel
theorem dX7_pays_191 : decode cX7_pays 191 = .ok (.istore 6, 2) := by decide +kernel
theorem dX7_pays_193 : decode cX7_pays 193 = .ok (.iload 6, 2) := by decide +kernel
theorem dX7_pays_195 : decode cX7_pays 195 = .ok (.bipush 31, 2) := by decide +kernel
theorem dX7_pays_197 : decode cX7_pays 197 = .ok (.if_icmp .ge 41, 3) := by decide +kernel
theorem dX7_pays_200 : decode cX7_pays 200 = .ok (.aload_n 0, 1) := by decide +kernel
theorem dX7_pays_201 : decode cX7_pays 201 = .ok (.getfield 73, 3) := by decide +kernel
theorem dX7_pays_204 : decode cX7_pays 204 = .ok (.iload 6, 2) := by decide +kernel
theorem dX7_pays_206 : decode cX7_pays 206 = .ok (.iaload, 1) := by decide +kernel
theorem dX7_pays_207 : decode cX7_pays 207 = .ok (.ifCond .ne 6, 3) := by decide +kernel
theorem dX7_pays_210 : decode cX7_pays 210 = .ok (.goto 22, 3) := by decide +kernel
theorem dX7_pays_213 : decode cX7_pays 213 = .ok (.iinc 4 1, 3) := by decide +kernel
theorem dX7_pays_216 : decode cX7_pays 216 = .ok (.iload 5, 2) := by decide +kernel
theorem dX7_pays_218 : decode cX7_pays 218 = .ok (.iload 6, 2) := by decide +kernel
theorem dX7_pays_220 : decode cX7_pays 220 = .ok (.iload_n 2, 1) := by decide +kernel
theorem dX7_pays_221 : decode cX7_pays 221 = .ok (.if_icmp .ge 7, 3) := by decide +kernel
theorem dX7_pays_224 : decode cX7_pays 224 = .ok (.iconst 1, 1) := by decide +kernel
theorem dX7_pays_225 : decode cX7_pays 225 = .ok (.goto 4, 3) := by decide +kernel
theorem dX7_pays_228 : decode cX7_pays 228 = .ok (.iconst 0, 1) := by decide +kernel
theorem dX7_pays_229 : decode cX7_pays 229 = .ok (.iadd, 1) := by decide +kernel
theorem dX7_pays_230 : decode cX7_pays 230 = .ok (.istore 5, 2) := by decide +kernel
theorem dX7_pays_232 : decode cX7_pays 232 = .ok (.iinc 6 1, 3) := by decide +kernel
theorem dX7_pays_235 : decode cX7_pays 235 = .ok (.goto (-42), 3) := by decide +kernel
theorem dX7_pays_238 : decode cX7_pays 238 = .ok (.iload_n 3, 1) := by decide +kernel
theorem dX7_pays_239 : decode cX7_pays 239 = .ok (.i2l, 1) := by decide +kernel
theorem dX7_pays_240 : decode cX7_pays 240 = .ok (.iload_n 3, 1) := by decide +kernel
theorem dX7_pays_241 : decode cX7_pays 241 = .ok (.i2l, 1) := by decide +kernel
theorem dX7_pays_242 : decode cX7_pays 242 = .ok (.aload_n 0, 1) := by decide +kernel
theorem dX7_pays_243 : decode cX7_pays 243 = .ok (.getfield 57, 3) := by decide +kernel
theorem dX7_pays_246 : decode cX7_pays 246 = .ok (.iconst 3, 1) := by decide +kernel
theorem dX7_pays_247 : decode cX7_pays 247 = .ok (.iaload, 1) := by decide +kernel
theorem dX7_pays_248 : decode cX7_pays 248 = .ok (.i2l, 1) := by decide +kernel
theorem dX7_pays_249 : decode cX7_pays 249 = .ok (.lmul, 1) := by decide +kernel
theorem dX7_pays_250 : decode cX7_pays 250 = .ok (.ldc2_w 227, 3) := by decide +kernel
theorem dX7_pays_253 : decode cX7_pays 253 = .ok (.ldiv, 1) := by decide +kernel
theorem dX7_pays_254 : decode cX7_pays 254 = .ok (.lsub, 1) := by decide +kernel
theorem dX7_pays_255 : decode cX7_pays 255 = .ok (.lstore 6, 2) := by decide +kernel
theorem dX7_pays_257 : decode cX7_pays 257 = .ok (.lload 6, 2) := by decide +kernel
theorem dX7_pays_259 : decode cX7_pays 259 = .ok (.lstore 8, 2) := by decide +kernel
theorem dX7_pays_261 : decode cX7_pays 261 = .ok (.iconst 0, 1) := by decide +kernel
theorem dX7_pays_262 : decode cX7_pays 262 = .ok (.istore 10, 2) := by decide +kernel
theorem dX7_pays_264 : decode cX7_pays 264 = .ok (.iload 10, 2) := by decide +kernel
theorem dX7_pays_266 : decode cX7_pays 266 = .ok (.bipush 31, 2) := by decide +kernel
theorem dX7_pays_268 : decode cX7_pays 268 = .ok (.if_icmp .ge 35, 3) := by decide +kernel
theorem dX7_pays_271 : decode cX7_pays 271 = .ok (.aload_n 0, 1) := by decide +kernel
theorem dX7_pays_272 : decode cX7_pays 272 = .ok (.getfield 73, 3) := by decide +kernel
theorem dX7_pays_275 : decode cX7_pays 275 = .ok (.iload 10, 2) := by decide +kernel
theorem dX7_pays_277 : decode cX7_pays 277 = .ok (.iaload, 1) := by decide +kernel
theorem dX7_pays_278 : decode cX7_pays 278 = .ok (.ifCond .le 19, 3) := by decide +kernel
theorem dX7_pays_281 : decode cX7_pays 281 = .ok (.lload 8, 2) := by decide +kernel
theorem dX7_pays_283 : decode cX7_pays 283 = .ok (.aload_n 0, 1) := by decide +kernel
theorem dX7_pays_284 : decode cX7_pays 284 = .ok (.lload 6, 2) := by decide +kernel
theorem dX7_pays_286 : decode cX7_pays 286 = .ok (.iload 10, 2) := by decide +kernel
theorem dX7_pays_288 : decode cX7_pays 288 = .ok (.iload_n 1, 1) := by decide +kernel
theorem dX7_pays_289 : decode cX7_pays 289 = .ok (.iload 4, 2) := by decide +kernel
theorem dX7_pays_291 : decode cX7_pays 291 = .ok (.invokevirtual 229, 3) := by decide +kernel
theorem dX7_pays_294 : decode cX7_pays 294 = .ok (.lsub, 1) := by decide +kernel
theorem dX7_pays_295 : decode cX7_pays 295 = .ok (.lstore 8, 2) := by decide +kernel
theorem dX7_pays_297 : decode cX7_pays 297 = .ok (.iinc 10 1, 3) := by decide +kernel
theorem dX7_pays_300 : decode cX7_pays 300 = .ok (.goto (-36), 3) := by decide +kernel
theorem dX7_pays_303 : decode cX7_pays 303 = .ok (.aload_n 0, 1) := by decide +kernel
theorem dX7_pays_304 : decode cX7_pays 304 = .ok (.lload 6, 2) := by decide +kernel
theorem dX7_pays_306 : decode cX7_pays 306 = .ok (.iload_n 2, 1) := by decide +kernel
theorem dX7_pays_307 : decode cX7_pays 307 = .ok (.iload_n 1, 1) := by decide +kernel
theorem dX7_pays_308 : decode cX7_pays 308 = .ok (.iload 4, 2) := by decide +kernel
theorem dX7_pays_310 : decode cX7_pays 310 = .ok (.invokevirtual 229, 3) := by decide +kernel
theorem dX7_pays_313 : decode cX7_pays 313 = .ok (.iload 5, 2) := by decide +kernel
theorem dX7_pays_315 : decode cX7_pays 315 = .ok (.i2l, 1) := by decide +kernel
theorem dX7_pays_316 : decode cX7_pays 316 = .ok (.lload 8, 2) := by decide +kernel
theorem dX7_pays_318 : decode cX7_pays 318 = .ok (.lcmp, 1) := by decide +kernel
theorem dX7_pays_319 : decode cX7_pays 319 = .ok (.ifCond .ge 7, 3) := by decide +kernel
theorem dX7_pays_322 : decode cX7_pays 322 = .ok (.lconst 1, 1) := by decide +kernel
theorem dX7_pays_323 : decode cX7_pays 323 = .ok (.goto 4, 3) := by decide +kernel
theorem dX7_pays_326 : decode cX7_pays 326 = .ok (.lconst 0, 1) := by decide +kernel
theorem dX7_pays_327 : decode cX7_pays 327 = .ok (.ladd, 1) := by decide +kernel
theorem dX7_pays_328 : decode cX7_pays 328 = .ok (.l2i, 1) := by decide +kernel
theorem dX7_pays_329 : decode cX7_pays 329 = .ok (.ireturn, 1) := by decide +kernel
theorem dX7_portion_0 : decode cX7_portion 0 = .ok (.aload_n 0, 1) := by decide +kernel
theorem dX7_portion_1 : decode cX7_portion 1 = .ok (.getfield 57, 3) := by decide +kernel
theorem dX7_portion_4 : decode cX7_portion 4 = .ok (.iconst 2, 1) := by decide +kernel
theorem dX7_portion_5 : decode cX7_portion 5 = .ok (.iaload, 1) := by decide +kernel
theorem dX7_portion_6 : decode cX7_portion 6 = .ok (.iconst 1, 1) := by decide +kernel
theorem dX7_portion_7 : decode cX7_portion 7 = .ok (.if_icmp .ne 11, 3) := by decide +kernel
theorem dX7_portion_10 : decode cX7_portion 10 = .ok (.lload_n 1, 1) := by decide +kernel
theorem dX7_portion_11 : decode cX7_portion 11 = .ok (.iload 5, 2) := by decide +kernel
theorem dX7_portion_13 : decode cX7_portion 13 = .ok (.i2l, 1) := by decide +kernel
theorem dX7_portion_14 : decode cX7_portion 14 = .ok (.ldiv, 1) := by decide +kernel
theorem dX7_portion_15 : decode cX7_portion 15 = .ok (.goto 21, 3) := by decide +kernel
theorem dX7_portion_18 : decode cX7_portion 18 = .ok (.lload_n 1, 1) := by decide +kernel
theorem dX7_portion_19 : decode cX7_portion 19 = .ok (.aload_n 0, 1) := by decide +kernel
theorem dX7_portion_20 : decode cX7_portion 20 = .ok (.getfield 73, 3) := by decide +kernel
theorem dX7_portion_23 : decode cX7_portion 23 = .ok (.iload_n 3, 1) := by decide +kernel
theorem dX7_portion_24 : decode cX7_portion 24 = .ok (.iaload, 1) := by decide +kernel
theorem dX7_portion_25 : decode cX7_portion 25 = .ok (.i2l, 1) := by decide +kernel
theorem dX7_portion_26 : decode cX7_portion 26 = .ok (.lmul, 1) := by decide +kernel
theorem dX7_portion_27 : decode cX7_portion 27 = .ok (.aload_n 0, 1) := by decide +kernel
theorem dX7_portion_28 : decode cX7_portion 28 = .ok (.getfield 30, 3) := by decide +kernel
theorem dX7_portion_31 : decode cX7_portion 31 = .ok (.iload 4, 2) := by decide +kernel
theorem dX7_portion_33 : decode cX7_portion 33 = .ok (.iaload, 1) := by decide +kernel
theorem dX7_portion_34 : decode cX7_portion 34 = .ok (.i2l, 1) := by decide +kernel
theorem dX7_portion_35 : decode cX7_portion 35 = .ok (.ldiv, 1) := by decide +kernel
theorem dX7_portion_36 : decode cX7_portion 36 = .ok (.lreturn, 1) := by decide +kernel
set_option maxRecDepth 20000 in
theorem ggX7_field_X7_in : GoodIn wsX7_field wsX7_in := goodIn_r _ [9] (by decide +kernel) (by decide +kernel)
set_option maxRecDepth 20000 in
theorem gX7_field_X7_in : GoodIn wsX7_field (va_wsS RX7 94 yX7_in wsX7_in) := goodIn_app (goodIn_of _ (by decide +kernel)) ggX7_field_X7_in
set_option maxRecDepth 20000 in
theorem ggX7_field_X7_throwsIf : GoodIn wsX7_field wsX7_throwsIf := goodIn_r _ [13, 1, 14, 15, 16, 17, 18, 19, 20, 21, 22, 23, 24, 25, 26, 27, 28, 29, 30, 31, 32, 33, 34, 35, 36, 37, 38, 39, 40, 41, 42, 43, 44, 45, 46, 47, 48, 49] (by decide +kernel) (by decide +kernel)
set_option maxRecDepth 20000 in
theorem gX7_field_X7_throwsIf : GoodIn wsX7_field (wsV RX7 105 RX7 yX7_throwsIf wsX7_throwsIf) := goodIn_app (goodIn_of _ (by decide +kernel)) ggX7_field_X7_throwsIf
theorem dX7_field_0 : decode cX7_field 0 = .ok (.aload_n 0, 1) := by decide +kernel
theorem dX7_field_1 : decode cX7_field 1 = .ok (.iconst 0, 1) := by decide +kernel
theorem dX7_field_2 : decode cX7_field 2 = .ok (.putfield 88, 3) := by decide +kernel
theorem dX7_field_5 : decode cX7_field 5 = .ok (.aload_n 0, 1) := by decide +kernel
theorem dX7_field_6 : decode cX7_field 6 = .ok (.iload_n 1, 1) := by decide +kernel
theorem dX7_field_7 : decode cX7_field 7 = .ok (.iconst 1, 1) := by decide +kernel
theorem dX7_field_8 : decode cX7_field 8 = .ok (.sipush 1000, 3) := by decide +kernel
theorem dX7_field_11 : decode cX7_field 11 = .ok (.invokestatic 94, 3) := by decide +kernel
theorem dX7_field_14 : decode cX7_field 14 = .ok (.ifCond .eq 24, 3) := by decide +kernel
theorem dX7_field_17 : decode cX7_field 17 = .ok (.iload_n 2, 1) := by decide +kernel
theorem dX7_field_18 : decode cX7_field 18 = .ok (.iconst 0, 1) := by decide +kernel
theorem dX7_field_19 : decode cX7_field 19 = .ok (.sipush 10000, 3) := by decide +kernel
theorem dX7_field_22 : decode cX7_field 22 = .ok (.invokestatic 94, 3) := by decide +kernel
theorem dX7_field_25 : decode cX7_field 25 = .ok (.ifCond .eq 13, 3) := by decide +kernel
theorem dX7_field_28 : decode cX7_field 28 = .ok (.iload_n 3, 1) := by decide +kernel
theorem dX7_field_29 : decode cX7_field 29 = .ok (.iconst 0, 1) := by decide +kernel
theorem dX7_field_30 : decode cX7_field 30 = .ok (.bipush 100, 2) := by decide +kernel
theorem dX7_field_32 : decode cX7_field 32 = .ok (.invokestatic 94, 3) := by decide +kernel
theorem dX7_field_35 : decode cX7_field 35 = .ok (.ifCond .ne 7, 3) := by decide +kernel
theorem dX7_field_38 : decode cX7_field 38 = .ok (.iconst 1, 1) := by decide +kernel
theorem dX7_field_39 : decode cX7_field 39 = .ok (.goto 4, 3) := by decide +kernel
theorem dX7_field_42 : decode cX7_field 42 = .ok (.iconst 0, 1) := by decide +kernel
theorem dX7_field_43 : decode cX7_field 43 = .ok (.iconst 1, 1) := by decide +kernel
theorem dX7_field_44 : decode cX7_field 44 = .ok (.invokevirtual 105, 3) := by decide +kernel
theorem dX7_field_47 : decode cX7_field 47 = .ok (.ifCond .eq 5, 3) := by decide +kernel
theorem dX7_field_50 : decode cX7_field 50 = .ok (.iconst 0, 1) := by decide +kernel
theorem dX7_field_51 : decode cX7_field 51 = .ok (.ireturn, 1) := by decide +kernel
theorem dX7_field_52 : decode cX7_field 52 = .ok (.aload_n 0, 1) := by decide +kernel
theorem dX7_field_53 : decode cX7_field 53 = .ok (.getfield 233, 3) := by decide +kernel
theorem dX7_field_56 : decode cX7_field 56 = .ok (.bipush 9, 2) := by decide +kernel
theorem dX7_field_58 : decode cX7_field 58 = .ok (.if_icmp .ne 5, 3) := by decide +kernel
theorem dX7_field_61 : decode cX7_field 61 = .ok (.iconst (-1), 1) := by decide +kernel
theorem dX7_field_62 : decode cX7_field 62 = .ok (.ireturn, 1) := by decide +kernel
theorem dX7_field_63 : decode cX7_field 63 = .ok (.aload_n 0, 1) := by decide +kernel
theorem dX7_field_64 : decode cX7_field 64 = .ok (.getfield 76, 3) := by decide +kernel
theorem dX7_field_67 : decode cX7_field 67 = .ok (.aload_n 0, 1) := by decide +kernel
theorem dX7_field_68 : decode cX7_field 68 = .ok (.getfield 233, 3) := by decide +kernel
theorem dX7_field_71 : decode cX7_field 71 = .ok (.iload_n 1, 1) := by decide +kernel
theorem dX7_field_72 : decode cX7_field 72 = .ok (.iastore, 1) := by decide +kernel
theorem dX7_field_73 : decode cX7_field 73 = .ok (.aload_n 0, 1) := by decide +kernel
theorem dX7_field_74 : decode cX7_field 74 = .ok (.getfield 79, 3) := by decide +kernel
theorem dX7_field_77 : decode cX7_field 77 = .ok (.aload_n 0, 1) := by decide +kernel
theorem dX7_field_78 : decode cX7_field 78 = .ok (.getfield 233, 3) := by decide +kernel
theorem dX7_field_81 : decode cX7_field 81 = .ok (.iload_n 2, 1) := by decide +kernel
theorem dX7_field_82 : decode cX7_field 82 = .ok (.iastore, 1) := by decide +kernel
theorem dX7_field_83 : decode cX7_field 83 = .ok (.aload_n 0, 1) := by decide +kernel
theorem dX7_field_84 : decode cX7_field 84 = .ok (.getfield 82, 3) := by decide +kernel
theorem dX7_field_87 : decode cX7_field 87 = .ok (.aload_n 0, 1) := by decide +kernel
theorem dX7_field_88 : decode cX7_field 88 = .ok (.getfield 233, 3) := by decide +kernel
theorem dX7_field_91 : decode cX7_field 91 = .ok (.iload_n 3, 1) := by decide +kernel
theorem dX7_field_92 : decode cX7_field 92 = .ok (.iastore, 1) := by decide +kernel
theorem dX7_field_93 : decode cX7_field 93 = .ok (.aload_n 0, 1) := by decide +kernel
theorem dX7_field_94 : decode cX7_field 94 = .ok (.dup, 1) := by decide +kernel
theorem dX7_field_95 : decode cX7_field 95 = .ok (.getfield 233, 3) := by decide +kernel
theorem dX7_field_98 : decode cX7_field 98 = .ok (.iconst 1, 1) := by decide +kernel
theorem dX7_field_99 : decode cX7_field 99 = .ok (.iadd, 1) := by decide +kernel
theorem dX7_field_100 : decode cX7_field 100 = .ok (.putfield 233, 3) := by decide +kernel
theorem dX7_field_103 : decode cX7_field 103 = .ok (.aload_n 0, 1) := by decide +kernel
theorem dX7_field_104 : decode cX7_field 104 = .ok (.getfield 233, 3) := by decide +kernel
theorem dX7_field_107 : decode cX7_field 107 = .ok (.ireturn, 1) := by decide +kernel
theorem dX7_least_0 : decode cX7_least 0 = .ok (.aload_n 0, 1) := by decide +kernel
theorem dX7_least_1 : decode cX7_least 1 = .ok (.iconst 0, 1) := by decide +kernel
theorem dX7_least_2 : decode cX7_least 2 = .ok (.putfield 88, 3) := by decide +kernel
theorem dX7_least_5 : decode cX7_least 5 = .ok (.aload_n 0, 1) := by decide +kernel
theorem dX7_least_6 : decode cX7_least 6 = .ok (.getfield 85, 3) := by decide +kernel
theorem dX7_least_9 : decode cX7_least 9 = .ok (.iconst 0, 1) := by decide +kernel
theorem dX7_least_10 : decode cX7_least 10 = .ok (.iconst 0, 1) := by decide +kernel
theorem dX7_least_11 : decode cX7_least 11 = .ok (.iastore, 1) := by decide +kernel
theorem dX7_least_12 : decode cX7_least 12 = .ok (.iconst 1, 1) := by decide +kernel
theorem dX7_least_13 : decode cX7_least 13 = .ok (.istore_n 1, 1) := by decide +kernel
theorem dX7_least_14 : decode cX7_least 14 = .ok (.iload_n 1, 1) := by decide +kernel
theorem dX7_least_15 : decode cX7_least 15 = .ok (.iconst 1, 1) := by decide +kernel
theorem dX7_least_16 : decode cX7_least 16 = .ok (.aload_n 0, 1) := by decide +kernel
theorem dX7_least_17 : decode cX7_least 17 = .ok (.getfield 233, 3) := by decide +kernel
theorem dX7_least_20 : decode cX7_least 20 = .ok (.ishl, 1) := by decide +kernel
theorem dX7_least_21 : decode cX7_least 21 = .ok (.if_icmp .ge 127, 3) := by decide +kernel
theorem dX7_least_24 : decode cX7_least 24 = .ok (.iconst 0, 1) := by decide +kernel
theorem dX7_least_25 : decode cX7_least 25 = .ok (.istore_n 2, 1) := by decide +kernel
theorem dX7_least_26 : decode cX7_least 26 = .ok (.iconst 0, 1) := by decide +kernel
theorem dX7_least_27 : decode cX7_least 27 = .ok (.istore_n 3, 1) := by decide +kernel
theorem dX7_least_28 : decode cX7_least 28 = .ok (.iload_n 3, 1) := by decide +kernel
theorem dX7_least_29 : decode cX7_least 29 = .ok (.aload_n 0, 1) := by decide +kernel
theorem dX7_least_30 : decode cX7_least 30 = .ok (.getfield 233, 3) := by decide +kernel
theorem dX7_least_33 : decode cX7_least 33 = .ok (.if_icmp .ge 31, 3) := by decide +kernel
theorem dX7_least_36 : decode cX7_least 36 = .ok (.iload_n 2, 1) := by decide +kernel
theorem dX7_least_37 : decode cX7_least 37 = .ok (.iload_n 1, 1) := by decide +kernel
theorem dX7_least_38 : decode cX7_least 38 = .ok (.iload_n 3, 1) := by decide +kernel
theorem dX7_least_39 : decode cX7_least 39 = .ok (.ishr, 1) := by decide +kernel
theorem dX7_least_40 : decode cX7_least 40 = .ok (.iconst 1, 1) := by decide +kernel
theorem dX7_least_41 : decode cX7_least 41 = .ok (.iand, 1) := by decide +kernel
theorem dX7_least_42 : decode cX7_least 42 = .ok (.iconst 1, 1) := by decide +kernel
theorem dX7_least_43 : decode cX7_least 43 = .ok (.if_icmp .ne 12, 3) := by decide +kernel
theorem dX7_least_46 : decode cX7_least 46 = .ok (.aload_n 0, 1) := by decide +kernel
theorem dX7_least_47 : decode cX7_least 47 = .ok (.getfield 76, 3) := by decide +kernel
theorem dX7_least_50 : decode cX7_least 50 = .ok (.iload_n 3, 1) := by decide +kernel
theorem dX7_least_51 : decode cX7_least 51 = .ok (.iaload, 1) := by decide +kernel
theorem dX7_least_52 : decode cX7_least 52 = .ok (.goto 4, 3) := by decide +kernel
theorem dX7_least_55 : decode cX7_least 55 = .ok (.iconst 0, 1) := by decide +kernel
theorem dX7_least_56 : decode cX7_least 56 = .ok (.iadd, 1) := by decide +kernel
theorem dX7_least_57 : decode cX7_least 57 = .ok (.istore_n 2, 1) := by decide +kernel
theorem dX7_least_58 : decode cX7_least 58 = .ok (.iinc 3 1, 3) := by decide +kernel
theorem dX7_least_61 : decode cX7_least 61 = .ok (.goto (-33), 3) := by decide +kernel
theorem dX7_least_64 : decode cX7_least 64 = .ok (.ldc 238, 2) := by decide +kernel
theorem dX7_least_66 : decode cX7_least 66 = .ok (.istore_n 3, 1) := by decide +kernel
theorem dX7_least_67 : decode cX7_least 67 = .ok (.iconst 0, 1) := by decide +kernel
theorem dX7_least_68 : decode cX7_least 68 = .ok (.istore 4, 2) := by decide +kernel
theorem dX7_least_70 : decode cX7_least 70 = .ok (.iload 4, 2) := by decide +kernel
theorem dX7_least_72 : decode cX7_least 72 = .ok (.aload_n 0, 1) := by decide +kernel
theorem dX7_least_73 : decode cX7_least 73 = .ok (.getfield 233, 3) := by decide +kernel
theorem dX7_least_76 : decode cX7_least 76 = .ok (.if_icmp .ge 59, 3) := by decide +kernel
theorem dX7_least_79 : decode cX7_least 79 = .ok (.iload_n 1, 1) := by decide +kernel
theorem dX7_least_80 : decode cX7_least 80 = .ok (.iload 4, 2) := by decide +kernel
theorem dX7_least_82 : decode cX7_least 82 = .ok (.ishr, 1) := by decide +kernel
theorem dX7_least_83 : decode cX7_least 83 = .ok (.iconst 1, 1) := by decide +kernel
theorem dX7_least_84 : decode cX7_least 84 = .ok (.iand, 1) := by decide +kernel
theorem dX7_least_85 : decode cX7_least 85 = .ok (.iconst 1, 1) := by decide +kernel
theorem dX7_least_86 : decode cX7_least 86 = .ok (.if_icmp .ne 43, 3) := by decide +kernel
theorem dX7_least_89 : decode cX7_least 89 = .ok (.iload_n 3, 1) := by decide +kernel
theorem dX7_least_90 : decode cX7_least 90 = .ok (.aload_n 0, 1) := by decide +kernel
theorem dX7_least_91 : decode cX7_least 91 = .ok (.getfield 85, 3) := by decide +kernel
theorem dX7_least_94 : decode cX7_least 94 = .ok (.iload_n 1, 1) := by decide +kernel
theorem dX7_least_95 : decode cX7_least 95 = .ok (.iconst 1, 1) := by decide +kernel
theorem dX7_least_96 : decode cX7_least 96 = .ok (.iload 4, 2) := by decide +kernel
theorem dX7_least_98 : decode cX7_least 98 = .ok (.ishl, 1) := by decide +kernel
theorem dX7_least_99 : decode cX7_least 99 = .ok (.iconst (-1), 1) := by decide +kernel
theorem dX7_least_100 : decode cX7_least 100 = .ok (.ixor, 1) := by decide +kernel
theorem dX7_least_101 : decode cX7_least 101 = .ok (.iand, 1) := by decide +kernel
theorem dX7_least_102 : decode cX7_least 102 = .ok (.iaload, 1) := by decide +kernel
theorem dX7_least_103 : decode cX7_least 103 = .ok (.aload_n 0, 1) := by decide +kernel
theorem dX7_least_104 : decode cX7_least 104 = .ok (.getfield 82, 3) := by decide +kernel
theorem dX7_least_107 : decode cX7_least 107 = .ok (.iload 4, 2) := by decide +kernel
theorem dX7_least_109 : decode cX7_least 109 = .ok (.iaload, 1) := by decide +kernel
theorem dX7_least_110 : decode cX7_least 110 = .ok (.iconst 0, 1) := by decide +kernel
theorem dX7_least_111 : decode cX7_least 111 = .ok (.iload_n 2, 1) := by decide +kernel
theorem dX7_least_112 : decode cX7_least 112 = .ok (.aload_n 0, 1) := by decide +kernel
theorem dX7_least_113 : decode cX7_least 113 = .ok (.getfield 79, 3) := by decide +kernel
theorem dX7_least_116 : decode cX7_least 116 = .ok (.iload 4, 2) := by decide +kernel
theorem dX7_least_118 : decode cX7_least 118 = .ok (.iaload, 1) := by decide +kernel
theorem dX7_least_119 : decode cX7_least 119 = .ok (.isub, 1) := by decide +kernel
theorem dX7_least_120 : decode cX7_least 120 = .ok (.invokestatic 115, 3) := by decide +kernel
theorem dX7_least_123 : decode cX7_least 123 = .ok (.imul, 1) := by decide +kernel
theorem dX7_least_124 : decode cX7_least 124 = .ok (.iadd, 1) := by decide +kernel
theorem dX7_least_125 : decode cX7_least 125 = .ok (.invokestatic 147, 3) := by decide +kernel
theorem dX7_least_128 : decode cX7_least 128 = .ok (.istore_n 3, 1) := by decide +kernel
theorem dX7_least_129 : decode cX7_least 129 = .ok (.iinc 4 1, 3) := by decide +kernel
theorem dX7_least_132 : decode cX7_least 132 = .ok (.goto (-62), 3) := by decide +kernel
theorem dX7_least_135 : decode cX7_least 135 = .ok (.aload_n 0, 1) := by decide +kernel
theorem dX7_least_136 : decode cX7_least 136 = .ok (.getfield 85, 3) := by decide +kernel
theorem dX7_least_139 : decode cX7_least 139 = .ok (.iload_n 1, 1) := by decide +kernel
theorem dX7_least_140 : decode cX7_least 140 = .ok (.iload_n 3, 1) := by decide +kernel
theorem dX7_least_141 : decode cX7_least 141 = .ok (.iastore, 1) := by decide +kernel
theorem dX7_least_142 : decode cX7_least 142 = .ok (.iinc 1 1, 3) := by decide +kernel
theorem dX7_least_145 : decode cX7_least 145 = .ok (.goto (-131), 3) := by decide +kernel
theorem dX7_least_148 : decode cX7_least 148 = .ok (.aload_n 0, 1) := by decide +kernel
theorem dX7_least_149 : decode cX7_least 149 = .ok (.getfield 85, 3) := by decide +kernel
theorem dX7_least_152 : decode cX7_least 152 = .ok (.iconst 1, 1) := by decide +kernel
theorem dX7_least_153 : decode cX7_least 153 = .ok (.aload_n 0, 1) := by decide +kernel
theorem dX7_least_154 : decode cX7_least 154 = .ok (.getfield 233, 3) := by decide +kernel
theorem dX7_least_157 : decode cX7_least 157 = .ok (.ishl, 1) := by decide +kernel
theorem dX7_least_158 : decode cX7_least 158 = .ok (.iconst 1, 1) := by decide +kernel
theorem dX7_least_159 : decode cX7_least 159 = .ok (.isub, 1) := by decide +kernel
theorem dX7_least_160 : decode cX7_least 160 = .ok (.iaload, 1) := by decide +kernel
theorem dX7_least_161 : decode cX7_least 161 = .ok (.istore_n 1, 1) := by decide +kernel
theorem dX7_least_162 : decode cX7_least 162 = .ok (.aload_n 0, 1) := by decide +kernel
theorem dX7_least_163 : decode cX7_least 163 = .ok (.iconst 0, 1) := by decide +kernel
theorem dX7_least_164 : decode cX7_least 164 = .ok (.putfield 233, 3) := by decide +kernel
theorem dX7_least_167 : decode cX7_least 167 = .ok (.iload_n 1, 1) := by decide +kernel
theorem dX7_least_168 : decode cX7_least 168 = .ok (.ireturn, 1) := by decide +kernel
set_option maxRecDepth 20000 in
theorem ggX7_count_X7_isLet : GoodIn wsX7_count wsX7_isLet := goodIn_r _ [13, 14, 5, 53, 54, 55, 56, 57, 58, 59, 60, 61, 62, 63, 64, 65, 66, 67, 68, 69, 70, 71, 72, 73, 74, 75, 76, 77, 78, 79, 80, 81, 82, 83, 84, 85, 86, 87, 88] (by decide +kernel) (by decide +kernel)
set_option maxRecDepth 20000 in
theorem gX7_count_X7_isLet : GoodIn wsX7_count (wsV RX7 165 RX7 yX7_isLet wsX7_isLet) := goodIn_app (goodIn_of _ (by decide +kernel)) ggX7_count_X7_isLet
set_option maxRecDepth 20000 in
theorem ggX7_count_X7_flows : GoodIn wsX7_count wsX7_flows := goodIn_r _ [18, 19, 20, 21, 22, 12, 23, 24, 25, 26, 27, 28, 29, 30, 31, 32, 2, 8, 33, 34, 35, 36, 37, 38, 39, 40, 41, 42, 43, 44, 45, 4, 46, 47, 48, 49, 50, 51, 52, 53, 54, 55, 56, 57, 58, 59, 60, 61, 62, 63, 64, 65, 66, 67, 68, 69, 70, 71, 72, 73, 74, 75, 76, 77, 78, 79, 80, 81, 82, 83, 84, 85, 86, 87, 88] (by decide +kernel) (by decide +kernel)
set_option maxRecDepth 20000 in
theorem gX7_count_X7_flows : GoodIn wsX7_count (wsV RX7 153 RX7 yX7_flows wsX7_flows) := goodIn_app (goodIn_of _ (by decide +kernel)) ggX7_count_X7_flows
theorem dX7_count_0 : decode cX7_count 0 = .ok (.aload_n 0, 1) := by decide +kernel
theorem dX7_count_1 : decode cX7_count 1 = .ok (.iconst 0, 1) := by decide +kernel
theorem dX7_count_2 : decode cX7_count 2 = .ok (.putfield 88, 3) := by decide +kernel
theorem dX7_count_5 : decode cX7_count 5 = .ok (.iconst 0, 1) := by decide +kernel
theorem dX7_count_6 : decode cX7_count 6 = .ok (.istore_n 2, 1) := by decide +kernel
theorem dX7_count_7 : decode cX7_count 7 = .ok (.iload_n 1, 1) := by decide +kernel
theorem dX7_count_8 : decode cX7_count 8 = .ok (.tableswitch 153 0 7 #[48, 53, 58, 63, 68, 73, 107, 112], 48) := by decide +kernel
theorem dX7_count_56 : decode cX7_count 56 = .ok (.aload_n 0, 1) := by decide +kernel
theorem dX7_count_57 : decode cX7_count 57 = .ok (.getfield 91, 3) := by decide +kernel
theorem dX7_count_60 : decode cX7_count 60 = .ok (.ireturn, 1) := by decide +kernel
theorem dX7_count_61 : decode cX7_count 61 = .ok (.aload_n 0, 1) := by decide +kernel
theorem dX7_count_62 : decode cX7_count 62 = .ok (.getfield 129, 3) := by decide +kernel
theorem dX7_count_65 : decode cX7_count 65 = .ok (.ireturn, 1) := by decide +kernel
theorem dX7_count_66 : decode cX7_count 66 = .ok (.aload_n 0, 1) := by decide +kernel
theorem dX7_count_67 : decode cX7_count 67 = .ok (.getfield 126, 3) := by decide +kernel
theorem dX7_count_70 : decode cX7_count 70 = .ok (.ireturn, 1) := by decide +kernel
theorem dX7_count_71 : decode cX7_count 71 = .ok (.aload_n 0, 1) := by decide +kernel
theorem dX7_count_72 : decode cX7_count 72 = .ok (.getfield 159, 3) := by decide +kernel
theorem dX7_count_75 : decode cX7_count 75 = .ok (.ireturn, 1) := by decide +kernel
theorem dX7_count_76 : decode cX7_count 76 = .ok (.aload_n 0, 1) := by decide +kernel
theorem dX7_count_77 : decode cX7_count 77 = .ok (.getfield 102, 3) := by decide +kernel
theorem dX7_count_80 : decode cX7_count 80 = .ok (.ireturn, 1) := by decide +kernel
theorem dX7_count_81 : decode cX7_count 81 = .ok (.iconst 0, 1) := by decide +kernel
theorem dX7_count_82 : decode cX7_count 82 = .ok (.istore_n 3, 1) := by decide +kernel
theorem dX7_count_83 : decode cX7_count 83 = .ok (.iload_n 3, 1) := by decide +kernel
theorem dX7_count_84 : decode cX7_count 84 = .ok (.aload_n 0, 1) := by decide +kernel
theorem dX7_count_85 : decode cX7_count 85 = .ok (.getfield 102, 3) := by decide +kernel
theorem dX7_count_88 : decode cX7_count 88 = .ok (.if_icmp .ge 25, 3) := by decide +kernel
theorem dX7_count_91 : decode cX7_count 91 = .ok (.iload_n 2, 1) := by decide +kernel
theorem dX7_count_92 : decode cX7_count 92 = .ok (.aload_n 0, 1) := by decide +kernel
theorem dX7_count_93 : decode cX7_count 93 = .ok (.iload_n 3, 1) := by decide +kernel
theorem dX7_count_94 : decode cX7_count 94 = .ok (.invokevirtual 165, 3) := by decide +kernel
theorem dX7_count_97 : decode cX7_count 97 = .ok (.ifCond .eq 7, 3) := by decide +kernel
theorem dX7_count_100 : decode cX7_count 100 = .ok (.iconst 1, 1) := by decide +kernel
theorem dX7_count_101 : decode cX7_count 101 = .ok (.goto 4, 3) := by decide +kernel
theorem dX7_count_104 : decode cX7_count 104 = .ok (.iconst 0, 1) := by decide +kernel
theorem dX7_count_105 : decode cX7_count 105 = .ok (.iadd, 1) := by decide +kernel
theorem dX7_count_106 : decode cX7_count 106 = .ok (.istore_n 2, 1) := by decide +kernel
theorem dX7_count_107 : decode cX7_count 107 = .ok (.iinc 3 1, 3) := by decide +kernel
theorem dX7_count_110 : decode cX7_count 110 = .ok (.goto (-27), 3) := by decide +kernel
theorem dX7_count_113 : decode cX7_count 113 = .ok (.iload_n 2, 1) := by decide +kernel
theorem dX7_count_114 : decode cX7_count 114 = .ok (.ireturn, 1) := by decide +kernel
theorem dX7_count_115 : decode cX7_count 115 = .ok (.aload_n 0, 1) := by decide +kernel
theorem dX7_count_116 : decode cX7_count 116 = .ok (.getfield 233, 3) := by decide +kernel
theorem dX7_count_119 : decode cX7_count 119 = .ok (.ireturn, 1) := by decide +kernel
theorem dX7_count_120 : decode cX7_count 120 = .ok (.iconst 0, 1) := by decide +kernel
theorem dX7_count_121 : decode cX7_count 121 = .ok (.istore_n 3, 1) := by decide +kernel
theorem dX7_count_122 : decode cX7_count 122 = .ok (.iload_n 3, 1) := by decide +kernel
theorem dX7_count_123 : decode cX7_count 123 = .ok (.aload_n 0, 1) := by decide +kernel
theorem dX7_count_124 : decode cX7_count 124 = .ok (.getfield 91, 3) := by decide +kernel
theorem dX7_count_127 : decode cX7_count 127 = .ok (.if_icmp .ge 32, 3) := by decide +kernel
theorem dX7_count_130 : decode cX7_count 130 = .ok (.iload_n 2, 1) := by decide +kernel
theorem dX7_count_131 : decode cX7_count 131 = .ok (.aload_n 0, 1) := by decide +kernel
theorem dX7_count_132 : decode cX7_count 132 = .ok (.getfield 20, 3) := by decide +kernel
theorem dX7_count_135 : decode cX7_count 135 = .ok (.iload_n 3, 1) := by decide +kernel
theorem dX7_count_136 : decode cX7_count 136 = .ok (.baload, 1) := by decide +kernel
theorem dX7_count_137 : decode cX7_count 137 = .ok (.ifCond .eq 13, 3) := by decide +kernel
theorem dX7_count_140 : decode cX7_count 140 = .ok (.aload_n 0, 1) := by decide +kernel
theorem dX7_count_141 : decode cX7_count 141 = .ok (.iload_n 3, 1) := by decide +kernel
theorem dX7_count_142 : decode cX7_count 142 = .ok (.bipush 8, 2) := by decide +kernel
theorem dX7_count_144 : decode cX7_count 144 = .ok (.invokevirtual 153, 3) := by decide +kernel
theorem dX7_count_147 : decode cX7_count 147 = .ok (.goto 4, 3) := by decide +kernel
theorem dX7_count_150 : decode cX7_count 150 = .ok (.iconst 0, 1) := by decide +kernel
theorem dX7_count_151 : decode cX7_count 151 = .ok (.iadd, 1) := by decide +kernel
theorem dX7_count_152 : decode cX7_count 152 = .ok (.istore_n 2, 1) := by decide +kernel
theorem dX7_count_153 : decode cX7_count 153 = .ok (.iinc 3 1, 3) := by decide +kernel
theorem dX7_count_156 : decode cX7_count 156 = .ok (.goto (-34), 3) := by decide +kernel
theorem dX7_count_159 : decode cX7_count 159 = .ok (.iload_n 2, 1) := by decide +kernel
theorem dX7_count_160 : decode cX7_count 160 = .ok (.ireturn, 1) := by decide +kernel
theorem dX7_count_161 : decode cX7_count 161 = .ok (.iconst (-1), 1) := by decide +kernel
theorem dX7_count_162 : decode cX7_count 162 = .ok (.ireturn, 1) := by decide +kernel
theorem dJ9_abs_0f7a4_0 : decode cJ9_abs_0f7a4 0 = .ok (.iload_n 0, 1) := by decide +kernel
theorem dJ9_abs_0f7a4_1 : decode cJ9_abs_0f7a4 1 = .ok (.ifCond .ge 8, 3) := by decide +kernel
theorem dJ9_abs_0f7a4_4 : decode cJ9_abs_0f7a4 4 = .ok (.iload_n 0, 1) := by decide +kernel
theorem dJ9_abs_0f7a4_5 : decode cJ9_abs_0f7a4 5 = .ok (.ineg, 1) := by decide +kernel
theorem dJ9_abs_0f7a4_6 : decode cJ9_abs_0f7a4 6 = .ok (.goto 4, 3) := by decide +kernel
theorem dJ9_abs_0f7a4_9 : decode cJ9_abs_0f7a4 9 = .ok (.iload_n 0, 1) := by decide +kernel
theorem dJ9_abs_0f7a4_10 : decode cJ9_abs_0f7a4 10 = .ok (.ireturn, 1) := by decide +kernel
theorem dJ9_max_7cf53_0 : decode cJ9_max_7cf53 0 = .ok (.iload_n 0, 1) := by decide +kernel
theorem dJ9_max_7cf53_1 : decode cJ9_max_7cf53 1 = .ok (.iload_n 1, 1) := by decide +kernel
theorem dJ9_max_7cf53_2 : decode cJ9_max_7cf53 2 = .ok (.if_icmp .lt 7, 3) := by decide +kernel
theorem dJ9_max_7cf53_5 : decode cJ9_max_7cf53 5 = .ok (.iload_n 0, 1) := by decide +kernel
theorem dJ9_max_7cf53_6 : decode cJ9_max_7cf53 6 = .ok (.goto 4, 3) := by decide +kernel
theorem dJ9_max_7cf53_9 : decode cJ9_max_7cf53 9 = .ok (.iload_n 1, 1) := by decide +kernel
theorem dJ9_max_7cf53_10 : decode cJ9_max_7cf53 10 = .ok (.ireturn, 1) := by decide +kernel
theorem dJ9_min_7cf53_0 : decode cJ9_min_7cf53 0 = .ok (.iload_n 0, 1) := by decide +kernel
theorem dJ9_min_7cf53_1 : decode cJ9_min_7cf53 1 = .ok (.iload_n 1, 1) := by decide +kernel
theorem dJ9_min_7cf53_2 : decode cJ9_min_7cf53 2 = .ok (.if_icmp .gt 7, 3) := by decide +kernel
theorem dJ9_min_7cf53_5 : decode cJ9_min_7cf53 5 = .ok (.iload_n 0, 1) := by decide +kernel
theorem dJ9_min_7cf53_6 : decode cJ9_min_7cf53 6 = .ok (.goto 4, 3) := by decide +kernel
theorem dJ9_min_7cf53_9 : decode cJ9_min_7cf53 9 = .ok (.iload_n 1, 1) := by decide +kernel
theorem dJ9_min_7cf53_10 : decode cJ9_min_7cf53 10 = .ok (.ireturn, 1) := by decide +kernel
set_option maxRecDepth 20000 in
theorem ggJ0_length_8abf5_J0_coder_7d493 : GoodIn wsJ0_length_8abf5 wsJ0_coder_7d493 := goodIn_r _ [6, 7, 8] (by decide +kernel) (by decide +kernel)
set_option maxRecDepth 20000 in
theorem gJ0_length_8abf5_J0_coder_7d493 : GoodIn wsJ0_length_8abf5 (wsV RJ0 335 RJ0 yJ0_coder_7d493 wsJ0_coder_7d493) := goodIn_app (goodIn_of _ (by decide +kernel)) ggJ0_length_8abf5_J0_coder_7d493
theorem dJ0_length_8abf5_0 : decode cJ0_length_8abf5 0 = .ok (.aload_n 0, 1) := by decide +kernel
theorem dJ0_length_8abf5_1 : decode cJ0_length_8abf5 1 = .ok (.getfield 9, 3) := by decide +kernel
theorem dJ0_length_8abf5_4 : decode cJ0_length_8abf5 4 = .ok (.arraylength, 1) := by decide +kernel
theorem dJ0_length_8abf5_5 : decode cJ0_length_8abf5 5 = .ok (.aload_n 0, 1) := by decide +kernel
theorem dJ0_length_8abf5_6 : decode cJ0_length_8abf5 6 = .ok (.invokevirtual 335, 3) := by decide +kernel
theorem dJ0_length_8abf5_9 : decode cJ0_length_8abf5 9 = .ok (.ishr, 1) := by decide +kernel
theorem dJ0_length_8abf5_10 : decode cJ0_length_8abf5 10 = .ok (.ireturn, 1) := by decide +kernel
set_option maxRecDepth 20000 in
theorem ggJ0_charAt_5068e_J0_isLatin1_aae02 : GoodIn wsJ0_charAt_5068e wsJ0_isLatin1_aae02 := goodIn_r _ [6, 7, 8] (by decide +kernel) (by decide +kernel)
set_option maxRecDepth 20000 in
theorem gJ0_charAt_5068e_J0_isLatin1_aae02 : GoodIn wsJ0_charAt_5068e (wsV RJ0 492 RJ0 yJ0_isLatin1_aae02 wsJ0_isLatin1_aae02) := goodIn_app (goodIn_of _ (by decide +kernel)) ggJ0_charAt_5068e_J0_isLatin1_aae02
set_option maxRecDepth 20000 in
theorem ggJ0_charAt_5068e_J1_charAt_3b067 : GoodIn wsJ0_charAt_5068e wsJ1_charAt_3b067 := goodIn_r _ [12, 13, 14, 5, 15, 16, 17, 18, 19, 20] (by decide +kernel) (by decide +kernel)
set_option maxRecDepth 20000 in
theorem gJ0_charAt_5068e_J1_charAt_3b067 : GoodIn wsJ0_charAt_5068e (va_wsS RJ0 495 yJ1_charAt_3b067 wsJ1_charAt_3b067) := goodIn_app (goodIn_of _ (by decide +kernel)) ggJ0_charAt_5068e_J1_charAt_3b067
set_option maxRecDepth 20000 in
theorem ggJ0_charAt_5068e_J2_charAt_3b067 : GoodIn wsJ0_charAt_5068e wsJ2_charAt_3b067 := goodIn_r _ [24, 25, 26, 23, 27, 28, 29, 30, 31, 14, 5, 15, 16, 17, 18, 19, 20, 32, 33, 34, 35, 36, 37] (by decide +kernel) (by decide +kernel)
set_option maxRecDepth 20000 in
theorem gJ0_charAt_5068e_J2_charAt_3b067 : GoodIn wsJ0_charAt_5068e (va_wsS RJ0 498 yJ2_charAt_3b067 wsJ2_charAt_3b067) := goodIn_app (goodIn_of _ (by decide +kernel)) ggJ0_charAt_5068e_J2_charAt_3b067
theorem dJ0_charAt_5068e_0 : decode cJ0_charAt_5068e 0 = .ok (.aload_n 0, 1) := by decide +kernel
theorem dJ0_charAt_5068e_1 : decode cJ0_charAt_5068e 1 = .ok (.invokevirtual 492, 3) := by decide +kernel
theorem dJ0_charAt_5068e_4 : decode cJ0_charAt_5068e 4 = .ok (.ifCond .eq 12, 3) := by decide +kernel
theorem dJ0_charAt_5068e_7 : decode cJ0_charAt_5068e 7 = .ok (.aload_n 0, 1) := by decide +kernel
theorem dJ0_charAt_5068e_8 : decode cJ0_charAt_5068e 8 = .ok (.getfield 9, 3) := by decide +kernel
theorem dJ0_charAt_5068e_11 : decode cJ0_charAt_5068e 11 = .ok (.iload_n 1, 1) := by decide +kernel
theorem dJ0_charAt_5068e_12 : decode cJ0_charAt_5068e 12 = .ok (.invokestatic 495, 3) := by decide +kernel
theorem dJ0_charAt_5068e_15 : decode cJ0_charAt_5068e 15 = .ok (.ireturn, 1) := by decide +kernel
theorem dJ0_charAt_5068e_16 : decode cJ0_charAt_5068e 16 = .ok (.aload_n 0, 1) := by decide +kernel
theorem dJ0_charAt_5068e_17 : decode cJ0_charAt_5068e 17 = .ok (.getfield 9, 3) := by decide +kernel
theorem dJ0_charAt_5068e_20 : decode cJ0_charAt_5068e 20 = .ok (.iload_n 1, 1) := by decide +kernel
theorem dJ0_charAt_5068e_21 : decode cJ0_charAt_5068e 21 = .ok (.invokestatic 498, 3) := by decide +kernel
theorem dJ0_charAt_5068e_24 : decode cJ0_charAt_5068e 24 = .ok (.ireturn, 1) := by decide +kernel
theorem dJ0_coder_7d493_0 : decode cJ0_coder_7d493 0 = .ok (.getstatic 38, 3) := by decide +kernel
theorem dJ0_coder_7d493_3 : decode cJ0_coder_7d493 3 = .ok (.ifCond .eq 10, 3) := by decide +kernel
theorem dJ0_coder_7d493_6 : decode cJ0_coder_7d493 6 = .ok (.aload_n 0, 1) := by decide +kernel
theorem dJ0_coder_7d493_7 : decode cJ0_coder_7d493 7 = .ok (.getfield 15, 3) := by decide +kernel
theorem dJ0_coder_7d493_10 : decode cJ0_coder_7d493 10 = .ok (.goto 4, 3) := by decide +kernel
theorem dJ0_coder_7d493_13 : decode cJ0_coder_7d493 13 = .ok (.iconst 1, 1) := by decide +kernel
theorem dJ0_coder_7d493_14 : decode cJ0_coder_7d493 14 = .ok (.ireturn, 1) := by decide +kernel
theorem dJ0_isLatin1_aae02_0 : decode cJ0_isLatin1_aae02 0 = .ok (.getstatic 38, 3) := by decide +kernel
theorem dJ0_isLatin1_aae02_3 : decode cJ0_isLatin1_aae02 3 = .ok (.ifCond .eq 14, 3) := by decide +kernel
theorem dJ0_isLatin1_aae02_6 : decode cJ0_isLatin1_aae02 6 = .ok (.aload_n 0, 1) := by decide +kernel
theorem dJ0_isLatin1_aae02_7 : decode cJ0_isLatin1_aae02 7 = .ok (.getfield 15, 3) := by decide +kernel
theorem dJ0_isLatin1_aae02_10 : decode cJ0_isLatin1_aae02 10 = .ok (.ifCond .ne 7, 3) := by decide +kernel
theorem dJ0_isLatin1_aae02_13 : decode cJ0_isLatin1_aae02 13 = .ok (.iconst 1, 1) := by decide +kernel
theorem dJ0_isLatin1_aae02_14 : decode cJ0_isLatin1_aae02 14 = .ok (.goto 4, 3) := by decide +kernel
theorem dJ0_isLatin1_aae02_17 : decode cJ0_isLatin1_aae02 17 = .ok (.iconst 0, 1) := by decide +kernel
theorem dJ0_isLatin1_aae02_18 : decode cJ0_isLatin1_aae02 18 = .ok (.ireturn, 1) := by decide +kernel
set_option maxRecDepth 20000 in
theorem ggJ0_checkIndex_df160_J3_checkIndex_8e157 : GoodIn wsJ0_checkIndex_df160 wsJ3_checkIndex_8e157 := goodIn_r _ [5] (by decide +kernel) (by decide +kernel)
set_option maxRecDepth 20000 in
theorem gJ0_checkIndex_df160_J3_checkIndex_8e157 : GoodIn wsJ0_checkIndex_df160 (va_wsS RJ0 1059 yJ3_checkIndex_8e157 wsJ3_checkIndex_8e157) := goodIn_app (goodIn_of _ (by decide +kernel)) ggJ0_checkIndex_df160_J3_checkIndex_8e157
theorem dJ0_checkIndex_df160_0 : decode cJ0_checkIndex_df160 0 = .ok (.iload_n 0, 1) := by decide +kernel
theorem dJ0_checkIndex_df160_1 : decode cJ0_checkIndex_df160 1 = .ok (.iload_n 1, 1) := by decide +kernel
theorem dJ0_checkIndex_df160_2 : decode cJ0_checkIndex_df160 2 = .ok (.getstatic 1053, 3) := by decide +kernel
theorem dJ0_checkIndex_df160_5 : decode cJ0_checkIndex_df160 5 = .ok (.invokestatic 1059, 3) := by decide +kernel
theorem dJ0_checkIndex_df160_8 : decode cJ0_checkIndex_df160 8 = .ok (.pop, 1) := by decide +kernel
theorem dJ0_checkIndex_df160_9 : decode cJ0_checkIndex_df160 9 = .ok (.return_, 1) := by decide +kernel
set_option maxRecDepth 20000 in
theorem ggJ1_charAt_3b067_J0_checkIndex_df160 : GoodIn wsJ1_charAt_3b067 wsJ0_checkIndex_df160 := goodIn_r _ [4, 5, 6, 7, 8, 9] (by decide +kernel) (by decide +kernel)
set_option maxRecDepth 20000 in
theorem gJ1_charAt_3b067_J0_checkIndex_df160 : GoodIn wsJ1_charAt_3b067 (va_wsS RJ1 9 yJ0_checkIndex_df160 wsJ0_checkIndex_df160) := goodIn_app (goodIn_of _ (by decide +kernel)) ggJ1_charAt_3b067_J0_checkIndex_df160
theorem dJ1_charAt_3b067_0 : decode cJ1_charAt_3b067 0 = .ok (.iload_n 1, 1) := by decide +kernel
theorem dJ1_charAt_3b067_1 : decode cJ1_charAt_3b067 1 = .ok (.aload_n 0, 1) := by decide +kernel
theorem dJ1_charAt_3b067_2 : decode cJ1_charAt_3b067 2 = .ok (.arraylength, 1) := by decide +kernel
theorem dJ1_charAt_3b067_3 : decode cJ1_charAt_3b067 3 = .ok (.invokestatic 9, 3) := by decide +kernel
theorem dJ1_charAt_3b067_6 : decode cJ1_charAt_3b067 6 = .ok (.aload_n 0, 1) := by decide +kernel
theorem dJ1_charAt_3b067_7 : decode cJ1_charAt_3b067 7 = .ok (.iload_n 1, 1) := by decide +kernel
theorem dJ1_charAt_3b067_8 : decode cJ1_charAt_3b067 8 = .ok (.baload, 1) := by decide +kernel
theorem dJ1_charAt_3b067_9 : decode cJ1_charAt_3b067 9 = .ok (.sipush 255, 3) := by decide +kernel
theorem dJ1_charAt_3b067_12 : decode cJ1_charAt_3b067 12 = .ok (.iand, 1) := by decide +kernel
theorem dJ1_charAt_3b067_13 : decode cJ1_charAt_3b067 13 = .ok (.i2c, 1) := by decide +kernel
theorem dJ1_charAt_3b067_14 : decode cJ1_charAt_3b067 14 = .ok (.ireturn, 1) := by decide +kernel
set_option maxRecDepth 20000 in
theorem ggJ2_getChar_3b067_J2_length_9d52b : GoodIn wsJ2_getChar_3b067 wsJ2_length_9d52b := goodIn_r _ [7] (by decide +kernel) (by decide +kernel)
set_option maxRecDepth 20000 in
theorem gJ2_getChar_3b067_J2_length_9d52b : GoodIn wsJ2_getChar_3b067 (va_wsS RJ2 48 yJ2_length_9d52b wsJ2_length_9d52b) := goodIn_app (goodIn_of _ (by decide +kernel)) ggJ2_getChar_3b067_J2_length_9d52b
theorem dJ2_getChar_3b067_0 : decode cJ2_getChar_3b067 0 = .ok (.getstatic 44, 3) := by decide +kernel
theorem dJ2_getChar_3b067_3 : decode cJ2_getChar_3b067 3 = .ok (.ifCond .ne 25, 3) := by decide +kernel
theorem dJ2_getChar_3b067_6 : decode cJ2_getChar_3b067 6 = .ok (.iload_n 1, 1) := by decide +kernel
theorem dJ2_getChar_3b067_7 : decode cJ2_getChar_3b067 7 = .ok (.ifCond .lt 11, 3) := by decide +kernel
theorem dJ2_getChar_3b067_10 : decode cJ2_getChar_3b067 10 = .ok (.iload_n 1, 1) := by decide +kernel
theorem dJ2_getChar_3b067_11 : decode cJ2_getChar_3b067 11 = .ok (.aload_n 0, 1) := by decide +kernel
theorem dJ2_getChar_3b067_12 : decode cJ2_getChar_3b067 12 = .ok (.invokestatic 48, 3) := by decide +kernel
theorem dJ2_getChar_3b067_15 : decode cJ2_getChar_3b067 15 = .ok (.if_icmp .lt 13, 3) := by decide +kernel
theorem dJ2_getChar_3b067_18 : decode cJ2_getChar_3b067 18 = .ok (.new 52, 3) := by decide +kernel
theorem dJ2_getChar_3b067_21 : decode cJ2_getChar_3b067 21 = .ok (.dup, 1) := by decide +kernel
theorem dJ2_getChar_3b067_22 : decode cJ2_getChar_3b067 22 = .ok (.ldc 54, 2) := by decide +kernel
theorem dJ2_getChar_3b067_24 : decode cJ2_getChar_3b067 24 = .ok (.invokespecial 56, 3) := by decide +kernel
theorem dJ2_getChar_3b067_27 : decode cJ2_getChar_3b067 27 = .ok (.athrow, 1) := by decide +kernel
theorem dJ2_getChar_3b067_28 : decode cJ2_getChar_3b067 28 = .ok (.iload_n 1, 1) := by decide +kernel
theorem dJ2_getChar_3b067_29 : decode cJ2_getChar_3b067 29 = .ok (.iconst 1, 1) := by decide +kernel
theorem dJ2_getChar_3b067_30 : decode cJ2_getChar_3b067 30 = .ok (.ishl, 1) := by decide +kernel
theorem dJ2_getChar_3b067_31 : decode cJ2_getChar_3b067 31 = .ok (.istore_n 1, 1) := by decide +kernel
theorem dJ2_getChar_3b067_32 : decode cJ2_getChar_3b067 32 = .ok (.aload_n 0, 1) := by decide +kernel
theorem dJ2_getChar_3b067_33 : decode cJ2_getChar_3b067 33 = .ok (.iload_n 1, 1) := by decide +kernel
theorem dJ2_getChar_3b067_34 : decode cJ2_getChar_3b067 34 = .ok (.iinc 1 1, 3) := by decide +kernel
theorem dJ2_getChar_3b067_37 : decode cJ2_getChar_3b067 37 = .ok (.baload, 1) := by decide +kernel
theorem dJ2_getChar_3b067_38 : decode cJ2_getChar_3b067 38 = .ok (.sipush 255, 3) := by decide +kernel
theorem dJ2_getChar_3b067_41 : decode cJ2_getChar_3b067 41 = .ok (.iand, 1) := by decide +kernel
theorem dJ2_getChar_3b067_42 : decode cJ2_getChar_3b067 42 = .ok (.getstatic 59, 3) := by decide +kernel
theorem dJ2_getChar_3b067_45 : decode cJ2_getChar_3b067 45 = .ok (.ishl, 1) := by decide +kernel
theorem dJ2_getChar_3b067_46 : decode cJ2_getChar_3b067 46 = .ok (.aload_n 0, 1) := by decide +kernel
theorem dJ2_getChar_3b067_47 : decode cJ2_getChar_3b067 47 = .ok (.iload_n 1, 1) := by decide +kernel
theorem dJ2_getChar_3b067_48 : decode cJ2_getChar_3b067 48 = .ok (.baload, 1) := by decide +kernel
theorem dJ2_getChar_3b067_49 : decode cJ2_getChar_3b067 49 = .ok (.sipush 255, 3) := by decide +kernel
theorem dJ2_getChar_3b067_52 : decode cJ2_getChar_3b067 52 = .ok (.iand, 1) := by decide +kernel
theorem dJ2_getChar_3b067_53 : decode cJ2_getChar_3b067 53 = .ok (.getstatic 63, 3) := by decide +kernel
theorem dJ2_getChar_3b067_56 : decode cJ2_getChar_3b067 56 = .ok (.ishl, 1) := by decide +kernel
theorem dJ2_getChar_3b067_57 : decode cJ2_getChar_3b067 57 = .ok (.ior, 1) := by decide +kernel
theorem dJ2_getChar_3b067_58 : decode cJ2_getChar_3b067 58 = .ok (.i2c, 1) := by decide +kernel
theorem dJ2_getChar_3b067_59 : decode cJ2_getChar_3b067 59 = .ok (.ireturn, 1) := by decide +kernel
theorem dJ2_length_9d52b_0 : decode cJ2_length_9d52b 0 = .ok (.aload_n 0, 1) := by decide +kernel
theorem dJ2_length_9d52b_1 : decode cJ2_length_9d52b 1 = .ok (.arraylength, 1) := by decide +kernel
theorem dJ2_length_9d52b_2 : decode cJ2_length_9d52b 2 = .ok (.iconst 1, 1) := by decide +kernel
theorem dJ2_length_9d52b_3 : decode cJ2_length_9d52b 3 = .ok (.ishr, 1) := by decide +kernel
theorem dJ2_length_9d52b_4 : decode cJ2_length_9d52b 4 = .ok (.ireturn, 1) := by decide +kernel
set_option maxRecDepth 20000 in
theorem ggJ2_charAt_3b067_J2_checkIndex_2214a : GoodIn wsJ2_charAt_3b067 wsJ2_checkIndex_2214a := goodIn_r _ [4, 5, 6, 3, 7, 8, 9, 10, 11, 12, 13, 14, 15, 16] (by decide +kernel) (by decide +kernel)
set_option maxRecDepth 20000 in
theorem gJ2_charAt_3b067_J2_checkIndex_2214a : GoodIn wsJ2_charAt_3b067 (va_wsS RJ2 67 yJ2_checkIndex_2214a wsJ2_checkIndex_2214a) := goodIn_app (goodIn_of _ (by decide +kernel)) ggJ2_charAt_3b067_J2_checkIndex_2214a
set_option maxRecDepth 20000 in
theorem ggJ2_charAt_3b067_J2_getChar_3b067 : GoodIn wsJ2_charAt_3b067 wsJ2_getChar_3b067 := goodIn_r _ [19, 20, 21, 22, 5, 6, 3, 7] (by decide +kernel) (by decide +kernel)
set_option maxRecDepth 20000 in
theorem gJ2_charAt_3b067_J2_getChar_3b067 : GoodIn wsJ2_charAt_3b067 (va_wsS RJ2 71 yJ2_getChar_3b067 wsJ2_getChar_3b067) := goodIn_app (goodIn_of _ (by decide +kernel)) ggJ2_charAt_3b067_J2_getChar_3b067
theorem dJ2_charAt_3b067_0 : decode cJ2_charAt_3b067 0 = .ok (.iload_n 1, 1) := by decide +kernel
theorem dJ2_charAt_3b067_1 : decode cJ2_charAt_3b067 1 = .ok (.aload_n 0, 1) := by decide +kernel
theorem dJ2_charAt_3b067_2 : decode cJ2_charAt_3b067 2 = .ok (.invokestatic 67, 3) := by decide +kernel
theorem dJ2_charAt_3b067_5 : decode cJ2_charAt_3b067 5 = .ok (.aload_n 0, 1) := by decide +kernel
theorem dJ2_charAt_3b067_6 : decode cJ2_charAt_3b067 6 = .ok (.iload_n 1, 1) := by decide +kernel
theorem dJ2_charAt_3b067_7 : decode cJ2_charAt_3b067 7 = .ok (.invokestatic 71, 3) := by decide +kernel
theorem dJ2_charAt_3b067_10 : decode cJ2_charAt_3b067 10 = .ok (.ireturn, 1) := by decide +kernel
set_option maxRecDepth 20000 in
theorem ggJ2_checkIndex_2214a_J2_length_9d52b : GoodIn wsJ2_checkIndex_2214a wsJ2_length_9d52b := goodIn_r _ [4] (by decide +kernel) (by decide +kernel)
set_option maxRecDepth 20000 in
theorem gJ2_checkIndex_2214a_J2_length_9d52b : GoodIn wsJ2_checkIndex_2214a (va_wsS RJ2 48 yJ2_length_9d52b wsJ2_length_9d52b) := goodIn_app (goodIn_of _ (by decide +kernel)) ggJ2_checkIndex_2214a_J2_length_9d52b
set_option maxRecDepth 20000 in
theorem ggJ2_checkIndex_2214a_J0_checkIndex_df160 : GoodIn wsJ2_checkIndex_2214a wsJ0_checkIndex_df160 := goodIn_r _ [8, 9, 10, 11, 12, 13] (by decide +kernel) (by decide +kernel)
set_option maxRecDepth 20000 in
theorem gJ2_checkIndex_2214a_J0_checkIndex_df160 : GoodIn wsJ2_checkIndex_2214a (va_wsS RJ2 414 yJ0_checkIndex_df160 wsJ0_checkIndex_df160) := goodIn_app (goodIn_of _ (by decide +kernel)) ggJ2_checkIndex_2214a_J0_checkIndex_df160
theorem dJ2_checkIndex_2214a_0 : decode cJ2_checkIndex_2214a 0 = .ok (.iload_n 0, 1) := by decide +kernel
theorem dJ2_checkIndex_2214a_1 : decode cJ2_checkIndex_2214a 1 = .ok (.aload_n 1, 1) := by decide +kernel
theorem dJ2_checkIndex_2214a_2 : decode cJ2_checkIndex_2214a 2 = .ok (.invokestatic 48, 3) := by decide +kernel
theorem dJ2_checkIndex_2214a_5 : decode cJ2_checkIndex_2214a 5 = .ok (.invokestatic 414, 3) := by decide +kernel
theorem dJ2_checkIndex_2214a_8 : decode cJ2_checkIndex_2214a 8 = .ok (.return_, 1) := by decide +kernel
theorem dJ3_checkIndex_8e157_0 : decode cJ3_checkIndex_8e157 0 = .ok (.iload_n 0, 1) := by decide +kernel
theorem dJ3_checkIndex_8e157_1 : decode cJ3_checkIndex_8e157 1 = .ok (.ifCond .lt 8, 3) := by decide +kernel
theorem dJ3_checkIndex_8e157_4 : decode cJ3_checkIndex_8e157 4 = .ok (.iload_n 0, 1) := by decide +kernel
theorem dJ3_checkIndex_8e157_5 : decode cJ3_checkIndex_8e157 5 = .ok (.iload_n 1, 1) := by decide +kernel
theorem dJ3_checkIndex_8e157_6 : decode cJ3_checkIndex_8e157 6 = .ok (.if_icmp .lt 10, 3) := by decide +kernel
theorem dJ3_checkIndex_8e157_9 : decode cJ3_checkIndex_8e157 9 = .ok (.aload_n 2, 1) := by decide +kernel
theorem dJ3_checkIndex_8e157_10 : decode cJ3_checkIndex_8e157 10 = .ok (.iload_n 0, 1) := by decide +kernel
theorem dJ3_checkIndex_8e157_11 : decode cJ3_checkIndex_8e157 11 = .ok (.iload_n 1, 1) := by decide +kernel
theorem dJ3_checkIndex_8e157_12 : decode cJ3_checkIndex_8e157 12 = .ok (.invokestatic 95, 3) := by decide +kernel
theorem dJ3_checkIndex_8e157_15 : decode cJ3_checkIndex_8e157 15 = .ok (.athrow, 1) := by decide +kernel
theorem dJ3_checkIndex_8e157_16 : decode cJ3_checkIndex_8e157 16 = .ok (.iload_n 0, 1) := by decide +kernel
theorem dJ3_checkIndex_8e157_17 : decode cJ3_checkIndex_8e157 17 = .ok (.ireturn, 1) := by decide +kernel
set_option maxRecDepth 20000 in
theorem ggL_ground_X6_ground : GoodIn wsL_ground wsX6_ground := goodIn_ca (goodIn_r _ [6, 7, 8, 9, 10, 11, 12, 5, 13, 14, 15, 16, 17, 18, 19, 20, 21, 22, 23, 24, 25, 26, 27, 28, 29] (by decide +kernel) (by decide +kernel)) (goodIn_sub (fun _ h => List.mem_cons_of_mem _ (List.mem_append_right _ h)) (by decide +kernel))
set_option maxRecDepth 20000 in
theorem gL_ground_X6_ground : GoodIn wsL_ground (wsV RL 7 RX6 yX6_ground wsX6_ground) := goodIn_app (goodIn_of _ (by decide +kernel)) ggL_ground_X6_ground
