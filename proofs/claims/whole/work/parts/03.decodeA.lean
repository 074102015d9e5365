theorem dX0_init_0 : decode cX0_init 0 = .ok (.aload_n 0, 1) := by decide +kernel
theorem dX0_init_1 : decode cX0_init 1 = .ok (.invokespecial 1, 3) := by decide +kernel
theorem dX0_init_4 : decode cX0_init 4 = .ok (.aload_n 0, 1) := by decide +kernel
theorem dX0_init_5 : decode cX0_init 5 = .ok (.bipush 20, 2) := by decide +kernel
theorem dX0_init_7 : decode cX0_init 7 = .ok (.newarray .int, 2) := by decide +kernel
theorem dX0_init_9 : decode cX0_init 9 = .ok (.putfield 9, 3) := by decide +kernel
theorem dX0_init_12 : decode cX0_init 12 = .ok (.return_, 1) := by decide +kernel
theorem dX0_begin_0 : decode cX0_begin 0 = .ok (.aload_n 0, 1) := by decide +kernel
theorem dX0_begin_1 : decode cX0_begin 1 = .ok (.getfield 13, 3) := by decide +kernel
theorem dX0_begin_4 : decode cX0_begin 4 = .ok (.bipush 20, 2) := by decide +kernel
theorem dX0_begin_6 : decode cX0_begin 6 = .ok (.if_icmp .ge 13, 3) := by decide +kernel
theorem dX0_begin_9 : decode cX0_begin 9 = .ok (.aload_n 0, 1) := by decide +kernel
theorem dX0_begin_10 : decode cX0_begin 10 = .ok (.getfield 9, 3) := by decide +kernel
theorem dX0_begin_13 : decode cX0_begin 13 = .ok (.aload_n 0, 1) := by decide +kernel
theorem dX0_begin_14 : decode cX0_begin 14 = .ok (.getfield 13, 3) := by decide +kernel
theorem dX0_begin_17 : decode cX0_begin 17 = .ok (.iload_n 1, 1) := by decide +kernel
theorem dX0_begin_18 : decode cX0_begin 18 = .ok (.iastore, 1) := by decide +kernel
theorem dX0_begin_19 : decode cX0_begin 19 = .ok (.aload_n 0, 1) := by decide +kernel
theorem dX0_begin_20 : decode cX0_begin 20 = .ok (.dup, 1) := by decide +kernel
theorem dX0_begin_21 : decode cX0_begin 21 = .ok (.getfield 13, 3) := by decide +kernel
theorem dX0_begin_24 : decode cX0_begin 24 = .ok (.iconst 1, 1) := by decide +kernel
theorem dX0_begin_25 : decode cX0_begin 25 = .ok (.iadd, 1) := by decide +kernel
theorem dX0_begin_26 : decode cX0_begin 26 = .ok (.putfield 13, 3) := by decide +kernel
theorem dX0_begin_29 : decode cX0_begin 29 = .ok (.return_, 1) := by decide +kernel
theorem dX1_init_0 : decode cX1_init 0 = .ok (.aload_n 0, 1) := by decide +kernel
theorem dX1_init_1 : decode cX1_init 1 = .ok (.invokespecial 1, 3) := by decide +kernel
theorem dX1_init_4 : decode cX1_init 4 = .ok (.return_, 1) := by decide +kernel
theorem dX1_paceOf_0 : decode cX1_paceOf 0 = .ok (.aload_n 0, 1) := by decide +kernel
theorem dX1_paceOf_1 : decode cX1_paceOf 1 = .ok (.iload_n 1, 1) := by decide +kernel
theorem dX1_paceOf_2 : decode cX1_paceOf 2 = .ok (.iload_n 2, 1) := by decide +kernel
theorem dX1_paceOf_3 : decode cX1_paceOf 3 = .ok (.invokespecial 7, 3) := by decide +kernel
theorem dX1_paceOf_6 : decode cX1_paceOf 6 = .ok (.iconst 1, 1) := by decide +kernel
theorem dX1_paceOf_7 : decode cX1_paceOf 7 = .ok (.isub, 1) := by decide +kernel
theorem dX1_paceOf_8 : decode cX1_paceOf 8 = .ok (.ireturn, 1) := by decide +kernel
theorem dX1_wobblesOf_0 : decode cX1_wobblesOf 0 = .ok (.iload_n 2, 1) := by decide +kernel
theorem dX1_wobblesOf_1 : decode cX1_wobblesOf 1 = .ok (.iconst 2, 1) := by decide +kernel
theorem dX1_wobblesOf_2 : decode cX1_wobblesOf 2 = .ok (.if_icmp .lt 7, 3) := by decide +kernel
theorem dX1_wobblesOf_5 : decode cX1_wobblesOf 5 = .ok (.iconst 0, 1) := by decide +kernel
theorem dX1_wobblesOf_6 : decode cX1_wobblesOf 6 = .ok (.goto 14, 3) := by decide +kernel
theorem dX1_wobblesOf_9 : decode cX1_wobblesOf 9 = .ok (.aload_n 0, 1) := by decide +kernel
theorem dX1_wobblesOf_10 : decode cX1_wobblesOf 10 = .ok (.iload_n 1, 1) := by decide +kernel
theorem dX1_wobblesOf_11 : decode cX1_wobblesOf 11 = .ok (.iload_n 2, 1) := by decide +kernel
theorem dX1_wobblesOf_12 : decode cX1_wobblesOf 12 = .ok (.iload_n 3, 1) := by decide +kernel
theorem dX1_wobblesOf_13 : decode cX1_wobblesOf 13 = .ok (.iload 4, 2) := by decide +kernel
theorem dX1_wobblesOf_15 : decode cX1_wobblesOf 15 = .ok (.iload 5, 2) := by decide +kernel
theorem dX1_wobblesOf_17 : decode cX1_wobblesOf 17 = .ok (.invokespecial 11, 3) := by decide +kernel
theorem dX1_wobblesOf_20 : decode cX1_wobblesOf 20 = .ok (.ireturn, 1) := by decide +kernel
theorem dX1_telling_0 : decode cX1_telling 0 = .ok (.aload_n 1, 1) := by decide +kernel
theorem dX1_telling_1 : decode cX1_telling 1 = .ok (.bipush 60, 2) := by decide +kernel
theorem dX1_telling_3 : decode cX1_telling 3 = .ok (.invokevirtual 15, 3) := by decide +kernel
theorem dX1_telling_6 : decode cX1_telling 6 = .ok (.aload_n 0, 1) := by decide +kernel
theorem dX1_telling_7 : decode cX1_telling 7 = .ok (.aload_n 1, 1) := by decide +kernel
theorem dX1_telling_8 : decode cX1_telling 8 = .ok (.iload_n 2, 1) := by decide +kernel
theorem dX1_telling_9 : decode cX1_telling 9 = .ok (.aload_n 1, 1) := by decide +kernel
theorem dX1_telling_10 : decode cX1_telling 10 = .ok (.getfield 21, 3) := by decide +kernel
theorem dX1_telling_13 : decode cX1_telling 13 = .ok (.isub, 1) := by decide +kernel
theorem dX1_telling_14 : decode cX1_telling 14 = .ok (.invokespecial 25, 3) := by decide +kernel
theorem dX1_telling_17 : decode cX1_telling 17 = .ok (.ireturn, 1) := by decide +kernel
theorem dX2_init_0 : decode cX2_init 0 = .ok (.aload_n 0, 1) := by decide +kernel
theorem dX2_init_1 : decode cX2_init 1 = .ok (.invokespecial 1, 3) := by decide +kernel
theorem dX2_init_4 : decode cX2_init 4 = .ok (.return_, 1) := by decide +kernel
theorem dX2_paceOf_0 : decode cX2_paceOf 0 = .ok (.iconst 2, 1) := by decide +kernel
theorem dX2_paceOf_1 : decode cX2_paceOf 1 = .ok (.iload_n 1, 1) := by decide +kernel
theorem dX2_paceOf_2 : decode cX2_paceOf 2 = .ok (.iconst 3, 1) := by decide +kernel
theorem dX2_paceOf_3 : decode cX2_paceOf 3 = .ok (.idiv, 1) := by decide +kernel
theorem dX2_paceOf_4 : decode cX2_paceOf 4 = .ok (.iadd, 1) := by decide +kernel
theorem dX2_paceOf_5 : decode cX2_paceOf 5 = .ok (.ireturn, 1) := by decide +kernel
theorem dX2_wobblesOf_0 : decode cX2_wobblesOf 0 = .ok (.iload 4, 2) := by decide +kernel
theorem dX2_wobblesOf_2 : decode cX2_wobblesOf 2 = .ok (.ifCond .ne 5, 3) := by decide +kernel
theorem dX2_wobblesOf_5 : decode cX2_wobblesOf 5 = .ok (.iconst 0, 1) := by decide +kernel
theorem dX2_wobblesOf_6 : decode cX2_wobblesOf 6 = .ok (.ireturn, 1) := by decide +kernel
theorem dX2_wobblesOf_7 : decode cX2_wobblesOf 7 = .ok (.iconst 0, 1) := by decide +kernel
theorem dX2_wobblesOf_8 : decode cX2_wobblesOf 8 = .ok (.iload_n 3, 1) := by decide +kernel
theorem dX2_wobblesOf_9 : decode cX2_wobblesOf 9 = .ok (.iload 5, 2) := by decide +kernel
theorem dX2_wobblesOf_11 : decode cX2_wobblesOf 11 = .ok (.iadd, 1) := by decide +kernel
theorem dX2_wobblesOf_12 : decode cX2_wobblesOf 12 = .ok (.iconst 2, 1) := by decide +kernel
theorem dX2_wobblesOf_13 : decode cX2_wobblesOf 13 = .ok (.iload_n 2, 1) := by decide +kernel
theorem dX2_wobblesOf_14 : decode cX2_wobblesOf 14 = .ok (.imul, 1) := by decide +kernel
theorem dX2_wobblesOf_15 : decode cX2_wobblesOf 15 = .ok (.isub, 1) := by decide +kernel
theorem dX2_wobblesOf_16 : decode cX2_wobblesOf 16 = .ok (.invokestatic 7, 3) := by decide +kernel
theorem dX2_wobblesOf_19 : decode cX2_wobblesOf 19 = .ok (.ireturn, 1) := by decide +kernel
theorem dX2_running_0 : decode cX2_running 0 = .ok (.aload_n 1, 1) := by decide +kernel
theorem dX2_running_1 : decode cX2_running 1 = .ok (.bipush 10, 2) := by decide +kernel
theorem dX2_running_3 : decode cX2_running 3 = .ok (.invokevirtual 13, 3) := by decide +kernel
theorem dX2_running_6 : decode cX2_running 6 = .ok (.iload_n 2, 1) := by decide +kernel
theorem dX2_running_7 : decode cX2_running 7 = .ok (.aload_n 1, 1) := by decide +kernel
theorem dX2_running_8 : decode cX2_running 8 = .ok (.getfield 19, 3) := by decide +kernel
theorem dX2_running_11 : decode cX2_running 11 = .ok (.iadd, 1) := by decide +kernel
theorem dX2_running_12 : decode cX2_running 12 = .ok (.ireturn, 1) := by decide +kernel
theorem dX2_standing_0 : decode cX2_standing 0 = .ok (.aload_n 1, 1) := by decide +kernel
theorem dX2_standing_1 : decode cX2_standing 1 = .ok (.bipush 11, 2) := by decide +kernel
theorem dX2_standing_3 : decode cX2_standing 3 = .ok (.invokevirtual 13, 3) := by decide +kernel
theorem dX2_standing_6 : decode cX2_standing 6 = .ok (.aload_n 0, 1) := by decide +kernel
theorem dX2_standing_7 : decode cX2_standing 7 = .ok (.aload_n 1, 1) := by decide +kernel
theorem dX2_standing_8 : decode cX2_standing 8 = .ok (.iload_n 2, 1) := by decide +kernel
theorem dX2_standing_9 : decode cX2_standing 9 = .ok (.invokevirtual 23, 3) := by decide +kernel
theorem dX2_standing_12 : decode cX2_standing 12 = .ok (.aload_n 1, 1) := by decide +kernel
theorem dX2_standing_13 : decode cX2_standing 13 = .ok (.getfield 29, 3) := by decide +kernel
theorem dX2_standing_16 : decode cX2_standing 16 = .ok (.isub, 1) := by decide +kernel
theorem dX2_standing_17 : decode cX2_standing 17 = .ok (.ireturn, 1) := by decide +kernel
theorem dX2_telling_0 : decode cX2_telling 0 = .ok (.aload_n 1, 1) := by decide +kernel
theorem dX2_telling_1 : decode cX2_telling 1 = .ok (.bipush 12, 2) := by decide +kernel
theorem dX2_telling_3 : decode cX2_telling 3 = .ok (.invokevirtual 13, 3) := by decide +kernel
theorem dX2_telling_6 : decode cX2_telling 6 = .ok (.aload_n 0, 1) := by decide +kernel
theorem dX2_telling_7 : decode cX2_telling 7 = .ok (.aload_n 1, 1) := by decide +kernel
theorem dX2_telling_8 : decode cX2_telling 8 = .ok (.iload_n 2, 1) := by decide +kernel
theorem dX2_telling_9 : decode cX2_telling 9 = .ok (.invokevirtual 32, 3) := by decide +kernel
theorem dX2_telling_12 : decode cX2_telling 12 = .ok (.iconst 2, 1) := by decide +kernel
theorem dX2_telling_13 : decode cX2_telling 13 = .ok (.imul, 1) := by decide +kernel
theorem dX2_telling_14 : decode cX2_telling 14 = .ok (.ireturn, 1) := by decide +kernel
theorem dX3_init_0 : decode cX3_init 0 = .ok (.aload_n 0, 1) := by decide +kernel
theorem dX3_init_1 : decode cX3_init 1 = .ok (.invokespecial 1, 3) := by decide +kernel
theorem dX3_init_4 : decode cX3_init 4 = .ok (.return_, 1) := by decide +kernel
theorem dX3_paceOf_0 : decode cX3_paceOf 0 = .ok (.aload_n 0, 1) := by decide +kernel
theorem dX3_paceOf_1 : decode cX3_paceOf 1 = .ok (.iload_n 1, 1) := by decide +kernel
theorem dX3_paceOf_2 : decode cX3_paceOf 2 = .ok (.iload_n 2, 1) := by decide +kernel
theorem dX3_paceOf_3 : decode cX3_paceOf 3 = .ok (.invokespecial 7, 3) := by decide +kernel
theorem dX3_paceOf_6 : decode cX3_paceOf 6 = .ok (.iconst 2, 1) := by decide +kernel
theorem dX3_paceOf_7 : decode cX3_paceOf 7 = .ok (.iadd, 1) := by decide +kernel
theorem dX3_paceOf_8 : decode cX3_paceOf 8 = .ok (.ireturn, 1) := by decide +kernel
theorem dX3_standing_0 : decode cX3_standing 0 = .ok (.aload_n 1, 1) := by decide +kernel
theorem dX3_standing_1 : decode cX3_standing 1 = .ok (.bipush 20, 2) := by decide +kernel
theorem dX3_standing_3 : decode cX3_standing 3 = .ok (.invokevirtual 11, 3) := by decide +kernel
theorem dX3_standing_6 : decode cX3_standing 6 = .ok (.aload_n 0, 1) := by decide +kernel
theorem dX3_standing_7 : decode cX3_standing 7 = .ok (.aload_n 1, 1) := by decide +kernel
theorem dX3_standing_8 : decode cX3_standing 8 = .ok (.iload_n 2, 1) := by decide +kernel
theorem dX3_standing_9 : decode cX3_standing 9 = .ok (.invokespecial 17, 3) := by decide +kernel
theorem dX3_standing_12 : decode cX3_standing 12 = .ok (.bipush 6, 2) := by decide +kernel
theorem dX3_standing_14 : decode cX3_standing 14 = .ok (.ixor, 1) := by decide +kernel
theorem dX3_standing_15 : decode cX3_standing 15 = .ok (.ireturn, 1) := by decide +kernel
theorem dX4_init_0 : decode cX4_init 0 = .ok (.aload_n 0, 1) := by decide +kernel
theorem dX4_init_1 : decode cX4_init 1 = .ok (.invokespecial 1, 3) := by decide +kernel
theorem dX4_init_4 : decode cX4_init 4 = .ok (.return_, 1) := by decide +kernel
theorem dX4_paceOf_0 : decode cX4_paceOf 0 = .ok (.iconst 2, 1) := by decide +kernel
theorem dX4_paceOf_1 : decode cX4_paceOf 1 = .ok (.aload_n 0, 1) := by decide +kernel
theorem dX4_paceOf_2 : decode cX4_paceOf 2 = .ok (.iload_n 1, 1) := by decide +kernel
theorem dX4_paceOf_3 : decode cX4_paceOf 3 = .ok (.iload_n 2, 1) := by decide +kernel
theorem dX4_paceOf_4 : decode cX4_paceOf 4 = .ok (.invokespecial 7, 3) := by decide +kernel
theorem dX4_paceOf_7 : decode cX4_paceOf 7 = .ok (.imul, 1) := by decide +kernel
theorem dX4_paceOf_8 : decode cX4_paceOf 8 = .ok (.ireturn, 1) := by decide +kernel
theorem dX4_wobblesOf_0 : decode cX4_wobblesOf 0 = .ok (.aload_n 0, 1) := by decide +kernel
theorem dX4_wobblesOf_1 : decode cX4_wobblesOf 1 = .ok (.iload_n 1, 1) := by decide +kernel
theorem dX4_wobblesOf_2 : decode cX4_wobblesOf 2 = .ok (.iload_n 2, 1) := by decide +kernel
theorem dX4_wobblesOf_3 : decode cX4_wobblesOf 3 = .ok (.iload_n 3, 1) := by decide +kernel
theorem dX4_wobblesOf_4 : decode cX4_wobblesOf 4 = .ok (.iload 4, 2) := by decide +kernel
theorem dX4_wobblesOf_6 : decode cX4_wobblesOf 6 = .ok (.iload 5, 2) := by decide +kernel
theorem dX4_wobblesOf_8 : decode cX4_wobblesOf 8 = .ok (.invokespecial 11, 3) := by decide +kernel
theorem dX4_wobblesOf_11 : decode cX4_wobblesOf 11 = .ok (.iconst 1, 1) := by decide +kernel
theorem dX4_wobblesOf_12 : decode cX4_wobblesOf 12 = .ok (.iadd, 1) := by decide +kernel
theorem dX4_wobblesOf_13 : decode cX4_wobblesOf 13 = .ok (.ireturn, 1) := by decide +kernel
theorem dX4_running_0 : decode cX4_running 0 = .ok (.aload_n 1, 1) := by decide +kernel
theorem dX4_running_1 : decode cX4_running 1 = .ok (.bipush 50, 2) := by decide +kernel
theorem dX4_running_3 : decode cX4_running 3 = .ok (.invokevirtual 15, 3) := by decide +kernel
theorem dX4_running_6 : decode cX4_running 6 = .ok (.aload_n 0, 1) := by decide +kernel
theorem dX4_running_7 : decode cX4_running 7 = .ok (.aload_n 1, 1) := by decide +kernel
theorem dX4_running_8 : decode cX4_running 8 = .ok (.iload_n 2, 1) := by decide +kernel
theorem dX4_running_9 : decode cX4_running 9 = .ok (.invokespecial 21, 3) := by decide +kernel
theorem dX4_running_12 : decode cX4_running 12 = .ok (.ineg, 1) := by decide +kernel
theorem dX4_running_13 : decode cX4_running 13 = .ok (.ireturn, 1) := by decide +kernel
theorem dX4_standing_0 : decode cX4_standing 0 = .ok (.aload_n 1, 1) := by decide +kernel
theorem dX4_standing_1 : decode cX4_standing 1 = .ok (.bipush 51, 2) := by decide +kernel
theorem dX4_standing_3 : decode cX4_standing 3 = .ok (.invokevirtual 15, 3) := by decide +kernel
theorem dX4_standing_6 : decode cX4_standing 6 = .ok (.aload_n 0, 1) := by decide +kernel
theorem dX4_standing_7 : decode cX4_standing 7 = .ok (.aload_n 1, 1) := by decide +kernel
theorem dX4_standing_8 : decode cX4_standing 8 = .ok (.iload_n 2, 1) := by decide +kernel
theorem dX4_standing_9 : decode cX4_standing 9 = .ok (.iconst 1, 1) := by decide +kernel
theorem dX4_standing_10 : decode cX4_standing 10 = .ok (.iadd, 1) := by decide +kernel
theorem dX4_standing_11 : decode cX4_standing 11 = .ok (.invokespecial 25, 3) := by decide +kernel
theorem dX4_standing_14 : decode cX4_standing 14 = .ok (.ireturn, 1) := by decide +kernel
theorem dX5_init_0 : decode cX5_init 0 = .ok (.aload_n 0, 1) := by decide +kernel
theorem dX5_init_1 : decode cX5_init 1 = .ok (.invokespecial 3, 3) := by decide +kernel
theorem dX5_init_4 : decode cX5_init 4 = .ok (.aload_n 0, 1) := by decide +kernel
theorem dX5_init_5 : decode cX5_init 5 = .ok (.bipush 7, 2) := by decide +kernel
theorem dX5_init_7 : decode cX5_init 7 = .ok (.newarray .int, 2) := by decide +kernel
theorem dX5_init_9 : decode cX5_init 9 = .ok (.putfield 9, 3) := by decide +kernel
theorem dX5_init_12 : decode cX5_init 12 = .ok (.aload_n 0, 1) := by decide +kernel
theorem dX5_init_13 : decode cX5_init 13 = .ok (.bipush 7, 2) := by decide +kernel
theorem dX5_init_15 : decode cX5_init 15 = .ok (.newarray .int, 2) := by decide +kernel
theorem dX5_init_17 : decode cX5_init 17 = .ok (.putfield 15, 3) := by decide +kernel
theorem dX5_init_20 : decode cX5_init 20 = .ok (.aload_n 0, 1) := by decide +kernel
theorem dX5_init_21 : decode cX5_init 21 = .ok (.bipush 7, 2) := by decide +kernel
theorem dX5_init_23 : decode cX5_init 23 = .ok (.newarray .int, 2) := by decide +kernel
theorem dX5_init_25 : decode cX5_init 25 = .ok (.putfield 18, 3) := by decide +kernel
theorem dX5_init_28 : decode cX5_init 28 = .ok (.aload_n 0, 1) := by decide +kernel
theorem dX5_init_29 : decode cX5_init 29 = .ok (.bipush 7, 2) := by decide +kernel
theorem dX5_init_31 : decode cX5_init 31 = .ok (.newarray .int, 2) := by decide +kernel
theorem dX5_init_33 : decode cX5_init 33 = .ok (.putfield 21, 3) := by decide +kernel
theorem dX5_init_36 : decode cX5_init 36 = .ok (.aload_n 0, 1) := by decide +kernel
theorem dX5_init_37 : decode cX5_init 37 = .ok (.bipush 7, 2) := by decide +kernel
theorem dX5_init_39 : decode cX5_init 39 = .ok (.newarray .int, 2) := by decide +kernel
theorem dX5_init_41 : decode cX5_init 41 = .ok (.putfield 24, 3) := by decide +kernel
theorem dX5_init_44 : decode cX5_init 44 = .ok (.aload_n 0, 1) := by decide +kernel
theorem dX5_init_45 : decode cX5_init 45 = .ok (.bipush 28, 2) := by decide +kernel
theorem dX5_init_47 : decode cX5_init 47 = .ok (.newarray .int, 2) := by decide +kernel
theorem dX5_init_49 : decode cX5_init 49 = .ok (.putfield 27, 3) := by decide +kernel
theorem dX5_init_52 : decode cX5_init 52 = .ok (.aload_n 0, 1) := by decide +kernel
theorem dX5_init_53 : decode cX5_init 53 = .ok (.iconst 4, 1) := by decide +kernel
theorem dX5_init_54 : decode cX5_init 54 = .ok (.newarray .int, 2) := by decide +kernel
theorem dX5_init_56 : decode cX5_init 56 = .ok (.putfield 30, 3) := by decide +kernel
theorem dX5_init_59 : decode cX5_init 59 = .ok (.aload_n 0, 1) := by decide +kernel
theorem dX5_init_60 : decode cX5_init 60 = .ok (.iconst 4, 1) := by decide +kernel
theorem dX5_init_61 : decode cX5_init 61 = .ok (.newarray .int, 2) := by decide +kernel
theorem dX5_init_63 : decode cX5_init 63 = .ok (.putfield 33, 3) := by decide +kernel
theorem dX5_init_66 : decode cX5_init 66 = .ok (.aload_n 0, 1) := by decide +kernel
theorem dX5_init_67 : decode cX5_init 67 = .ok (.iconst 4, 1) := by decide +kernel
theorem dX5_init_68 : decode cX5_init 68 = .ok (.newarray .int, 2) := by decide +kernel
theorem dX5_init_70 : decode cX5_init 70 = .ok (.putfield 36, 3) := by decide +kernel
theorem dX5_init_73 : decode cX5_init 73 = .ok (.aload_n 0, 1) := by decide +kernel
theorem dX5_init_74 : decode cX5_init 74 = .ok (.iconst 4, 1) := by decide +kernel
theorem dX5_init_75 : decode cX5_init 75 = .ok (.newarray .int, 2) := by decide +kernel
theorem dX5_init_77 : decode cX5_init 77 = .ok (.putfield 39, 3) := by decide +kernel
theorem dX5_init_80 : decode cX5_init 80 = .ok (.aload_n 0, 1) := by decide +kernel
theorem dX5_init_81 : decode cX5_init 81 = .ok (.bipush 8, 2) := by decide +kernel
theorem dX5_init_83 : decode cX5_init 83 = .ok (.newarray .int, 2) := by decide +kernel
theorem dX5_init_85 : decode cX5_init 85 = .ok (.putfield 42, 3) := by decide +kernel
theorem dX5_init_88 : decode cX5_init 88 = .ok (.aload_n 0, 1) := by decide +kernel
theorem dX5_init_89 : decode cX5_init 89 = .ok (.bipush 8, 2) := by decide +kernel
theorem dX5_init_91 : decode cX5_init 91 = .ok (.newarray .int, 2) := by decide +kernel
theorem dX5_init_93 : decode cX5_init 93 = .ok (.putfield 45, 3) := by decide +kernel
theorem dX5_init_96 : decode cX5_init 96 = .ok (.aload_n 0, 1) := by decide +kernel
theorem dX5_init_97 : decode cX5_init 97 = .ok (.aload_n 1, 1) := by decide +kernel
theorem dX5_init_98 : decode cX5_init 98 = .ok (.putfield 48, 3) := by decide +kernel
theorem dX5_init_101 : decode cX5_init 101 = .ok (.iconst 0, 1) := by decide +kernel
theorem dX5_init_102 : decode cX5_init 102 = .ok (.istore_n 2, 1) := by decide +kernel
theorem dX5_init_103 : decode cX5_init 103 = .ok (.iload_n 2, 1) := by decide +kernel
theorem dX5_init_104 : decode cX5_init 104 = .ok (.iconst 4, 1) := by decide +kernel
theorem dX5_init_105 : decode cX5_init 105 = .ok (.if_icmp .ge 16, 3) := by decide +kernel
theorem dX5_init_108 : decode cX5_init 108 = .ok (.aload_n 0, 1) := by decide +kernel
theorem dX5_init_109 : decode cX5_init 109 = .ok (.getfield 30, 3) := by decide +kernel
theorem dX5_init_112 : decode cX5_init 112 = .ok (.iload_n 2, 1) := by decide +kernel
theorem dX5_init_113 : decode cX5_init 113 = .ok (.iconst 3, 1) := by decide +kernel
theorem dX5_init_114 : decode cX5_init 114 = .ok (.iastore, 1) := by decide +kernel
theorem dX5_init_115 : decode cX5_init 115 = .ok (.iinc 2 1, 3) := by decide +kernel
theorem dX5_init_118 : decode cX5_init 118 = .ok (.goto (-15), 3) := by decide +kernel
theorem dX5_init_121 : decode cX5_init 121 = .ok (.return_, 1) := by decide +kernel
theorem dX5_copyFrom_0 : decode cX5_copyFrom 0 = .ok (.aload_n 1, 1) := by decide +kernel
theorem dX5_copyFrom_1 : decode cX5_copyFrom 1 = .ok (.getfield 9, 3) := by decide +kernel
theorem dX5_copyFrom_4 : decode cX5_copyFrom 4 = .ok (.iconst 0, 1) := by decide +kernel
theorem dX5_copyFrom_5 : decode cX5_copyFrom 5 = .ok (.aload_n 0, 1) := by decide +kernel
theorem dX5_copyFrom_6 : decode cX5_copyFrom 6 = .ok (.getfield 9, 3) := by decide +kernel
theorem dX5_copyFrom_9 : decode cX5_copyFrom 9 = .ok (.iconst 0, 1) := by decide +kernel
theorem dX5_copyFrom_10 : decode cX5_copyFrom 10 = .ok (.bipush 7, 2) := by decide +kernel
theorem dX5_copyFrom_12 : decode cX5_copyFrom 12 = .ok (.invokestatic 52, 3) := by decide +kernel
theorem dX5_copyFrom_15 : decode cX5_copyFrom 15 = .ok (.aload_n 1, 1) := by decide +kernel
theorem dX5_copyFrom_16 : decode cX5_copyFrom 16 = .ok (.getfield 15, 3) := by decide +kernel
theorem dX5_copyFrom_19 : decode cX5_copyFrom 19 = .ok (.iconst 0, 1) := by decide +kernel
theorem dX5_copyFrom_20 : decode cX5_copyFrom 20 = .ok (.aload_n 0, 1) := by decide +kernel
theorem dX5_copyFrom_21 : decode cX5_copyFrom 21 = .ok (.getfield 15, 3) := by decide +kernel
theorem dX5_copyFrom_24 : decode cX5_copyFrom 24 = .ok (.iconst 0, 1) := by decide +kernel
theorem dX5_copyFrom_25 : decode cX5_copyFrom 25 = .ok (.bipush 7, 2) := by decide +kernel
theorem dX5_copyFrom_27 : decode cX5_copyFrom 27 = .ok (.invokestatic 52, 3) := by decide +kernel
theorem dX5_copyFrom_30 : decode cX5_copyFrom 30 = .ok (.aload_n 1, 1) := by decide +kernel
theorem dX5_copyFrom_31 : decode cX5_copyFrom 31 = .ok (.getfield 18, 3) := by decide +kernel
theorem dX5_copyFrom_34 : decode cX5_copyFrom 34 = .ok (.iconst 0, 1) := by decide +kernel
theorem dX5_copyFrom_35 : decode cX5_copyFrom 35 = .ok (.aload_n 0, 1) := by decide +kernel
theorem dX5_copyFrom_36 : decode cX5_copyFrom 36 = .ok (.getfield 18, 3) := by decide +kernel
theorem dX5_copyFrom_39 : decode cX5_copyFrom 39 = .ok (.iconst 0, 1) := by decide +kernel
theorem dX5_copyFrom_40 : decode cX5_copyFrom 40 = .ok (.bipush 7, 2) := by decide +kernel
theorem dX5_copyFrom_42 : decode cX5_copyFrom 42 = .ok (.invokestatic 52, 3) := by decide +kernel
theorem dX5_copyFrom_45 : decode cX5_copyFrom 45 = .ok (.aload_n 1, 1) := by decide +kernel
theorem dX5_copyFrom_46 : decode cX5_copyFrom 46 = .ok (.getfield 21, 3) := by decide +kernel
theorem dX5_copyFrom_49 : decode cX5_copyFrom 49 = .ok (.iconst 0, 1) := by decide +kernel
theorem dX5_copyFrom_50 : decode cX5_copyFrom 50 = .ok (.aload_n 0, 1) := by decide +kernel
theorem dX5_copyFrom_51 : decode cX5_copyFrom 51 = .ok (.getfield 21, 3) := by decide +kernel
theorem dX5_copyFrom_54 : decode cX5_copyFrom 54 = .ok (.iconst 0, 1) := by decide +kernel
theorem dX5_copyFrom_55 : decode cX5_copyFrom 55 = .ok (.bipush 7, 2) := by decide +kernel
theorem dX5_copyFrom_57 : decode cX5_copyFrom 57 = .ok (.invokestatic 52, 3) := by decide +kernel
theorem dX5_copyFrom_60 : decode cX5_copyFrom 60 = .ok (.aload_n 1, 1) := by decide +kernel
theorem dX5_copyFrom_61 : decode cX5_copyFrom 61 = .ok (.getfield 24, 3) := by decide +kernel
theorem dX5_copyFrom_64 : decode cX5_copyFrom 64 = .ok (.iconst 0, 1) := by decide +kernel
theorem dX5_copyFrom_65 : decode cX5_copyFrom 65 = .ok (.aload_n 0, 1) := by decide +kernel
theorem dX5_copyFrom_66 : decode cX5_copyFrom 66 = .ok (.getfield 24, 3) := by decide +kernel
theorem dX5_copyFrom_69 : decode cX5_copyFrom 69 = .ok (.iconst 0, 1) := by decide +kernel
theorem dX5_copyFrom_70 : decode cX5_copyFrom 70 = .ok (.bipush 7, 2) := by decide +kernel
theorem dX5_copyFrom_72 : decode cX5_copyFrom 72 = .ok (.invokestatic 52, 3) := by decide +kernel
theorem dX5_copyFrom_75 : decode cX5_copyFrom 75 = .ok (.aload_n 1, 1) := by decide +kernel
theorem dX5_copyFrom_76 : decode cX5_copyFrom 76 = .ok (.getfield 27, 3) := by decide +kernel
theorem dX5_copyFrom_79 : decode cX5_copyFrom 79 = .ok (.iconst 0, 1) := by decide +kernel
theorem dX5_copyFrom_80 : decode cX5_copyFrom 80 = .ok (.aload_n 0, 1) := by decide +kernel
theorem dX5_copyFrom_81 : decode cX5_copyFrom 81 = .ok (.getfield 27, 3) := by decide +kernel
theorem dX5_copyFrom_84 : decode cX5_copyFrom 84 = .ok (.iconst 0, 1) := by decide +kernel
theorem dX5_copyFrom_85 : decode cX5_copyFrom 85 = .ok (.bipush 28, 2) := by decide +kernel
theorem dX5_copyFrom_87 : decode cX5_copyFrom 87 = .ok (.invokestatic 52, 3) := by decide +kernel
theorem dX5_copyFrom_90 : decode cX5_copyFrom 90 = .ok (.aload_n 0, 1) := by decide +kernel
theorem dX5_copyFrom_91 : decode cX5_copyFrom 91 = .ok (.aload_n 1, 1) := by decide +kernel
theorem dX5_copyFrom_92 : decode cX5_copyFrom 92 = .ok (.getfield 58, 3) := by decide +kernel
theorem dX5_copyFrom_95 : decode cX5_copyFrom 95 = .ok (.putfield 58, 3) := by decide +kernel
theorem dX5_copyFrom_98 : decode cX5_copyFrom 98 = .ok (.aload_n 0, 1) := by decide +kernel
theorem dX5_copyFrom_99 : decode cX5_copyFrom 99 = .ok (.aload_n 1, 1) := by decide +kernel
theorem dX5_copyFrom_100 : decode cX5_copyFrom 100 = .ok (.getfield 62, 3) := by decide +kernel
theorem dX5_copyFrom_103 : decode cX5_copyFrom 103 = .ok (.putfield 62, 3) := by decide +kernel
theorem dX5_copyFrom_106 : decode cX5_copyFrom 106 = .ok (.aload_n 1, 1) := by decide +kernel
theorem dX5_copyFrom_107 : decode cX5_copyFrom 107 = .ok (.getfield 30, 3) := by decide +kernel
theorem dX5_copyFrom_110 : decode cX5_copyFrom 110 = .ok (.iconst 0, 1) := by decide +kernel
theorem dX5_copyFrom_111 : decode cX5_copyFrom 111 = .ok (.aload_n 0, 1) := by decide +kernel
theorem dX5_copyFrom_112 : decode cX5_copyFrom 112 = .ok (.getfield 30, 3) := by decide +kernel
theorem dX5_copyFrom_115 : decode cX5_copyFrom 115 = .ok (.iconst 0, 1) := by decide +kernel
theorem dX5_copyFrom_116 : decode cX5_copyFrom 116 = .ok (.iconst 4, 1) := by decide +kernel
theorem dX5_copyFrom_117 : decode cX5_copyFrom 117 = .ok (.invokestatic 52, 3) := by decide +kernel
theorem dX5_copyFrom_120 : decode cX5_copyFrom 120 = .ok (.aload_n 0, 1) := by decide +kernel
theorem dX5_copyFrom_121 : decode cX5_copyFrom 121 = .ok (.aload_n 1, 1) := by decide +kernel
theorem dX5_copyFrom_122 : decode cX5_copyFrom 122 = .ok (.getfield 65, 3) := by decide +kernel
theorem dX5_copyFrom_125 : decode cX5_copyFrom 125 = .ok (.putfield 65, 3) := by decide +kernel
theorem dX5_copyFrom_128 : decode cX5_copyFrom 128 = .ok (.aload_n 0, 1) := by decide +kernel
theorem dX5_copyFrom_129 : decode cX5_copyFrom 129 = .ok (.aload_n 1, 1) := by decide +kernel
theorem dX5_copyFrom_130 : decode cX5_copyFrom 130 = .ok (.getfield 48, 3) := by decide +kernel
theorem dX5_copyFrom_133 : decode cX5_copyFrom 133 = .ok (.putfield 48, 3) := by decide +kernel
theorem dX5_copyFrom_136 : decode cX5_copyFrom 136 = .ok (.aload_n 1, 1) := by decide +kernel
theorem dX5_copyFrom_137 : decode cX5_copyFrom 137 = .ok (.getfield 33, 3) := by decide +kernel
theorem dX5_copyFrom_140 : decode cX5_copyFrom 140 = .ok (.iconst 0, 1) := by decide +kernel
theorem dX5_copyFrom_141 : decode cX5_copyFrom 141 = .ok (.aload_n 0, 1) := by decide +kernel
theorem dX5_copyFrom_142 : decode cX5_copyFrom 142 = .ok (.getfield 33, 3) := by decide +kernel
theorem dX5_copyFrom_145 : decode cX5_copyFrom 145 = .ok (.iconst 0, 1) := by decide +kernel
theorem dX5_copyFrom_146 : decode cX5_copyFrom 146 = .ok (.iconst 4, 1) := by decide +kernel
theorem dX5_copyFrom_147 : decode cX5_copyFrom 147 = .ok (.invokestatic 52, 3) := by decide +kernel
theorem dX5_copyFrom_150 : decode cX5_copyFrom 150 = .ok (.aload_n 1, 1) := by decide +kernel
theorem dX5_copyFrom_151 : decode cX5_copyFrom 151 = .ok (.getfield 36, 3) := by decide +kernel
theorem dX5_copyFrom_154 : decode cX5_copyFrom 154 = .ok (.iconst 0, 1) := by decide +kernel
theorem dX5_copyFrom_155 : decode cX5_copyFrom 155 = .ok (.aload_n 0, 1) := by decide +kernel
theorem dX5_copyFrom_156 : decode cX5_copyFrom 156 = .ok (.getfield 36, 3) := by decide +kernel
theorem dX5_copyFrom_159 : decode cX5_copyFrom 159 = .ok (.iconst 0, 1) := by decide +kernel
theorem dX5_copyFrom_160 : decode cX5_copyFrom 160 = .ok (.iconst 4, 1) := by decide +kernel
theorem dX5_copyFrom_161 : decode cX5_copyFrom 161 = .ok (.invokestatic 52, 3) := by decide +kernel
theorem dX5_copyFrom_164 : decode cX5_copyFrom 164 = .ok (.aload_n 1, 1) := by decide +kernel
theorem dX5_copyFrom_165 : decode cX5_copyFrom 165 = .ok (.getfield 39, 3) := by decide +kernel
theorem dX5_copyFrom_168 : decode cX5_copyFrom 168 = .ok (.iconst 0, 1) := by decide +kernel
theorem dX5_copyFrom_169 : decode cX5_copyFrom 169 = .ok (.aload_n 0, 1) := by decide +kernel
theorem dX5_copyFrom_170 : decode cX5_copyFrom 170 = .ok (.getfield 39, 3) := by decide +kernel
theorem dX5_copyFrom_173 : decode cX5_copyFrom 173 = .ok (.iconst 0, 1) := by decide +kernel
theorem dX5_copyFrom_174 : decode cX5_copyFrom 174 = .ok (.iconst 4, 1) := by decide +kernel
theorem dX5_copyFrom_175 : decode cX5_copyFrom 175 = .ok (.invokestatic 52, 3) := by decide +kernel
theorem dX5_copyFrom_178 : decode cX5_copyFrom 178 = .ok (.aload_n 0, 1) := by decide +kernel
theorem dX5_copyFrom_179 : decode cX5_copyFrom 179 = .ok (.aload_n 1, 1) := by decide +kernel
theorem dX5_copyFrom_180 : decode cX5_copyFrom 180 = .ok (.getfield 68, 3) := by decide +kernel
theorem dX5_copyFrom_183 : decode cX5_copyFrom 183 = .ok (.putfield 68, 3) := by decide +kernel
theorem dX5_copyFrom_186 : decode cX5_copyFrom 186 = .ok (.aload_n 1, 1) := by decide +kernel
theorem dX5_copyFrom_187 : decode cX5_copyFrom 187 = .ok (.getfield 42, 3) := by decide +kernel
theorem dX5_copyFrom_190 : decode cX5_copyFrom 190 = .ok (.iconst 0, 1) := by decide +kernel
theorem dX5_copyFrom_191 : decode cX5_copyFrom 191 = .ok (.aload_n 0, 1) := by decide +kernel
theorem dX5_copyFrom_192 : decode cX5_copyFrom 192 = .ok (.getfield 42, 3) := by decide +kernel
theorem dX5_copyFrom_195 : decode cX5_copyFrom 195 = .ok (.iconst 0, 1) := by decide +kernel
theorem dX5_copyFrom_196 : decode cX5_copyFrom 196 = .ok (.bipush 8, 2) := by decide +kernel
theorem dX5_copyFrom_198 : decode cX5_copyFrom 198 = .ok (.invokestatic 52, 3) := by decide +kernel
theorem dX5_copyFrom_201 : decode cX5_copyFrom 201 = .ok (.aload_n 1, 1) := by decide +kernel
theorem dX5_copyFrom_202 : decode cX5_copyFrom 202 = .ok (.getfield 45, 3) := by decide +kernel
theorem dX5_copyFrom_205 : decode cX5_copyFrom 205 = .ok (.iconst 0, 1) := by decide +kernel
theorem dX5_copyFrom_206 : decode cX5_copyFrom 206 = .ok (.aload_n 0, 1) := by decide +kernel
theorem dX5_copyFrom_207 : decode cX5_copyFrom 207 = .ok (.getfield 45, 3) := by decide +kernel
theorem dX5_copyFrom_210 : decode cX5_copyFrom 210 = .ok (.iconst 0, 1) := by decide +kernel
theorem dX5_copyFrom_211 : decode cX5_copyFrom 211 = .ok (.bipush 8, 2) := by decide +kernel
theorem dX5_copyFrom_213 : decode cX5_copyFrom 213 = .ok (.invokestatic 52, 3) := by decide +kernel
theorem dX5_copyFrom_216 : decode cX5_copyFrom 216 = .ok (.aload_n 0, 1) := by decide +kernel
theorem dX5_copyFrom_217 : decode cX5_copyFrom 217 = .ok (.aload_n 1, 1) := by decide +kernel
theorem dX5_copyFrom_218 : decode cX5_copyFrom 218 = .ok (.getfield 71, 3) := by decide +kernel
theorem dX5_copyFrom_221 : decode cX5_copyFrom 221 = .ok (.putfield 71, 3) := by decide +kernel
theorem dX5_copyFrom_224 : decode cX5_copyFrom 224 = .ok (.return_, 1) := by decide +kernel
theorem dX5_has_0 : decode cX5_has 0 = .ok (.iload_n 1, 1) := by decide +kernel
theorem dX5_has_1 : decode cX5_has 1 = .ok (.ifCond .lt 15, 3) := by decide +kernel
theorem dX5_has_4 : decode cX5_has 4 = .ok (.iload_n 1, 1) := by decide +kernel
theorem dX5_has_5 : decode cX5_has 5 = .ok (.aload_n 0, 1) := by decide +kernel
theorem dX5_has_6 : decode cX5_has 6 = .ok (.getfield 58, 3) := by decide +kernel
theorem dX5_has_9 : decode cX5_has 9 = .ok (.if_icmp .ge 7, 3) := by decide +kernel
theorem dX5_has_12 : decode cX5_has 12 = .ok (.iconst 1, 1) := by decide +kernel
theorem dX5_has_13 : decode cX5_has 13 = .ok (.goto 4, 3) := by decide +kernel
theorem dX5_has_16 : decode cX5_has 16 = .ok (.iconst 0, 1) := by decide +kernel
theorem dX5_has_17 : decode cX5_has 17 = .ok (.ireturn, 1) := by decide +kernel
theorem dX5_isAtWall_0 : decode cX5_isAtWall 0 = .ok (.aload_n 0, 1) := by decide +kernel
theorem dX5_isAtWall_1 : decode cX5_isAtWall 1 = .ok (.getfield 62, 3) := by decide +kernel
theorem dX5_isAtWall_4 : decode cX5_isAtWall 4 = .ok (.iload_n 1, 1) := by decide +kernel
theorem dX5_isAtWall_5 : decode cX5_isAtWall 5 = .ok (.ishr, 1) := by decide +kernel
theorem dX5_isAtWall_6 : decode cX5_isAtWall 6 = .ok (.iconst 1, 1) := by decide +kernel
theorem dX5_isAtWall_7 : decode cX5_isAtWall 7 = .ok (.iand, 1) := by decide +kernel
theorem dX5_isAtWall_8 : decode cX5_isAtWall 8 = .ok (.ifCond .eq 7, 3) := by decide +kernel
theorem dX5_isAtWall_11 : decode cX5_isAtWall 11 = .ok (.iconst 1, 1) := by decide +kernel
theorem dX5_isAtWall_12 : decode cX5_isAtWall 12 = .ok (.goto 4, 3) := by decide +kernel
theorem dX5_isAtWall_15 : decode cX5_isAtWall 15 = .ok (.iconst 0, 1) := by decide +kernel
theorem dX5_isAtWall_16 : decode cX5_isAtWall 16 = .ok (.ireturn, 1) := by decide +kernel
theorem dX5_everybody_0 : decode cX5_everybody 0 = .ok (.iconst 1, 1) := by decide +kernel
theorem dX5_everybody_1 : decode cX5_everybody 1 = .ok (.aload_n 0, 1) := by decide +kernel
theorem dX5_everybody_2 : decode cX5_everybody 2 = .ok (.getfield 58, 3) := by decide +kernel
theorem dX5_everybody_5 : decode cX5_everybody 5 = .ok (.ishl, 1) := by decide +kernel
theorem dX5_everybody_6 : decode cX5_everybody 6 = .ok (.iconst 1, 1) := by decide +kernel
theorem dX5_everybody_7 : decode cX5_everybody 7 = .ok (.isub, 1) := by decide +kernel
theorem dX5_everybody_8 : decode cX5_everybody 8 = .ok (.ireturn, 1) := by decide +kernel
theorem dX5_placeNow_0 : decode cX5_placeNow 0 = .ok (.aload_n 0, 1) := by decide +kernel
theorem dX5_placeNow_1 : decode cX5_placeNow 1 = .ok (.getfield 65, 3) := by decide +kernel
theorem dX5_placeNow_4 : decode cX5_placeNow 4 = .ok (.iconst 3, 1) := by decide +kernel
theorem dX5_placeNow_5 : decode cX5_placeNow 5 = .ok (.iand, 1) := by decide +kernel
theorem dX5_placeNow_6 : decode cX5_placeNow 6 = .ok (.ireturn, 1) := by decide +kernel
theorem dX5_addChild_0 : decode cX5_addChild 0 = .ok (.aload_n 0, 1) := by decide +kernel
theorem dX5_addChild_1 : decode cX5_addChild 1 = .ok (.getfield 58, 3) := by decide +kernel
theorem dX5_addChild_4 : decode cX5_addChild 4 = .ok (.istore_n 3, 1) := by decide +kernel
theorem dX5_addChild_5 : decode cX5_addChild 5 = .ok (.aload_n 0, 1) := by decide +kernel
theorem dX5_addChild_6 : decode cX5_addChild 6 = .ok (.getfield 9, 3) := by decide +kernel
theorem dX5_addChild_9 : decode cX5_addChild 9 = .ok (.iload_n 3, 1) := by decide +kernel
theorem dX5_addChild_10 : decode cX5_addChild 10 = .ok (.iload_n 1, 1) := by decide +kernel
theorem dX5_addChild_11 : decode cX5_addChild 11 = .ok (.iastore, 1) := by decide +kernel
theorem dX5_addChild_12 : decode cX5_addChild 12 = .ok (.aload_n 0, 1) := by decide +kernel
theorem dX5_addChild_13 : decode cX5_addChild 13 = .ok (.getfield 15, 3) := by decide +kernel
theorem dX5_addChild_16 : decode cX5_addChild 16 = .ok (.iload_n 3, 1) := by decide +kernel
theorem dX5_addChild_17 : decode cX5_addChild 17 = .ok (.iload_n 2, 1) := by decide +kernel
theorem dX5_addChild_18 : decode cX5_addChild 18 = .ok (.iastore, 1) := by decide +kernel
theorem dX5_addChild_19 : decode cX5_addChild 19 = .ok (.aload_n 0, 1) := by decide +kernel
theorem dX5_addChild_20 : decode cX5_addChild 20 = .ok (.getfield 18, 3) := by decide +kernel
theorem dX5_addChild_23 : decode cX5_addChild 23 = .ok (.iload_n 3, 1) := by decide +kernel
theorem dX5_addChild_24 : decode cX5_addChild 24 = .ok (.iconst 0, 1) := by decide +kernel
theorem dX5_addChild_25 : decode cX5_addChild 25 = .ok (.iastore, 1) := by decide +kernel
theorem dX5_addChild_26 : decode cX5_addChild 26 = .ok (.aload_n 0, 1) := by decide +kernel
theorem dX5_addChild_27 : decode cX5_addChild 27 = .ok (.getfield 21, 3) := by decide +kernel
theorem dX5_addChild_30 : decode cX5_addChild 30 = .ok (.iload_n 3, 1) := by decide +kernel
theorem dX5_addChild_31 : decode cX5_addChild 31 = .ok (.iconst 1, 1) := by decide +kernel
theorem dX5_addChild_32 : decode cX5_addChild 32 = .ok (.iastore, 1) := by decide +kernel
theorem dX5_addChild_33 : decode cX5_addChild 33 = .ok (.aload_n 0, 1) := by decide +kernel
theorem dX5_addChild_34 : decode cX5_addChild 34 = .ok (.getfield 24, 3) := by decide +kernel
theorem dX5_addChild_37 : decode cX5_addChild 37 = .ok (.iload_n 3, 1) := by decide +kernel
theorem dX5_addChild_38 : decode cX5_addChild 38 = .ok (.iconst 0, 1) := by decide +kernel
theorem dX5_addChild_39 : decode cX5_addChild 39 = .ok (.iastore, 1) := by decide +kernel
theorem dX5_addChild_40 : decode cX5_addChild 40 = .ok (.iconst 0, 1) := by decide +kernel
theorem dX5_addChild_41 : decode cX5_addChild 41 = .ok (.istore 4, 2) := by decide +kernel
theorem dX5_addChild_43 : decode cX5_addChild 43 = .ok (.iload 4, 2) := by decide +kernel
theorem dX5_addChild_45 : decode cX5_addChild 45 = .ok (.iconst 4, 1) := by decide +kernel
theorem dX5_addChild_46 : decode cX5_addChild 46 = .ok (.if_icmp .ge 21, 3) := by decide +kernel
theorem dX5_addChild_49 : decode cX5_addChild 49 = .ok (.aload_n 0, 1) := by decide +kernel
theorem dX5_addChild_50 : decode cX5_addChild 50 = .ok (.getfield 27, 3) := by decide +kernel
theorem dX5_addChild_53 : decode cX5_addChild 53 = .ok (.iload_n 3, 1) := by decide +kernel
theorem dX5_addChild_54 : decode cX5_addChild 54 = .ok (.iconst 4, 1) := by decide +kernel
theorem dX5_addChild_55 : decode cX5_addChild 55 = .ok (.imul, 1) := by decide +kernel
theorem dX5_addChild_56 : decode cX5_addChild 56 = .ok (.iload 4, 2) := by decide +kernel
theorem dX5_addChild_58 : decode cX5_addChild 58 = .ok (.iadd, 1) := by decide +kernel
theorem dX5_addChild_59 : decode cX5_addChild 59 = .ok (.iconst 0, 1) := by decide +kernel
theorem dX5_addChild_60 : decode cX5_addChild 60 = .ok (.iastore, 1) := by decide +kernel
theorem dX5_addChild_61 : decode cX5_addChild 61 = .ok (.iinc 4 1, 3) := by decide +kernel
theorem dX5_addChild_64 : decode cX5_addChild 64 = .ok (.goto (-21), 3) := by decide +kernel
theorem dX5_addChild_67 : decode cX5_addChild 67 = .ok (.aload_n 0, 1) := by decide +kernel
theorem dX5_addChild_68 : decode cX5_addChild 68 = .ok (.dup, 1) := by decide +kernel
theorem dX5_addChild_69 : decode cX5_addChild 69 = .ok (.getfield 58, 3) := by decide +kernel
theorem dX5_addChild_72 : decode cX5_addChild 72 = .ok (.iconst 1, 1) := by decide +kernel
theorem dX5_addChild_73 : decode cX5_addChild 73 = .ok (.iadd, 1) := by decide +kernel
theorem dX5_addChild_74 : decode cX5_addChild 74 = .ok (.putfield 58, 3) := by decide +kernel
theorem dX5_addChild_77 : decode cX5_addChild 77 = .ok (.iload_n 3, 1) := by decide +kernel
theorem dX5_addChild_78 : decode cX5_addChild 78 = .ok (.ireturn, 1) := by decide +kernel
theorem dX5_putOnTheWay_0 : decode cX5_putOnTheWay 0 = .ok (.aload_n 0, 1) := by decide +kernel
theorem dX5_putOnTheWay_1 : decode cX5_putOnTheWay 1 = .ok (.getfield 18, 3) := by decide +kernel
theorem dX5_putOnTheWay_4 : decode cX5_putOnTheWay 4 = .ok (.iload_n 1, 1) := by decide +kernel
theorem dX5_putOnTheWay_5 : decode cX5_putOnTheWay 5 = .ok (.iload_n 2, 1) := by decide +kernel
theorem dX5_putOnTheWay_6 : decode cX5_putOnTheWay 6 = .ok (.iastore, 1) := by decide +kernel
theorem dX5_putOnTheWay_7 : decode cX5_putOnTheWay 7 = .ok (.aload_n 0, 1) := by decide +kernel
theorem dX5_putOnTheWay_8 : decode cX5_putOnTheWay 8 = .ok (.dup, 1) := by decide +kernel
theorem dX5_putOnTheWay_9 : decode cX5_putOnTheWay 9 = .ok (.getfield 62, 3) := by decide +kernel
theorem dX5_putOnTheWay_12 : decode cX5_putOnTheWay 12 = .ok (.iconst 1, 1) := by decide +kernel
theorem dX5_putOnTheWay_13 : decode cX5_putOnTheWay 13 = .ok (.iload_n 1, 1) := by decide +kernel
theorem dX5_putOnTheWay_14 : decode cX5_putOnTheWay 14 = .ok (.ishl, 1) := by decide +kernel
theorem dX5_putOnTheWay_15 : decode cX5_putOnTheWay 15 = .ok (.iconst (-1), 1) := by decide +kernel
theorem dX5_putOnTheWay_16 : decode cX5_putOnTheWay 16 = .ok (.ixor, 1) := by decide +kernel
theorem dX5_putOnTheWay_17 : decode cX5_putOnTheWay 17 = .ok (.iand, 1) := by decide +kernel
theorem dX5_putOnTheWay_18 : decode cX5_putOnTheWay 18 = .ok (.putfield 62, 3) := by decide +kernel
theorem dX5_putOnTheWay_21 : decode cX5_putOnTheWay 21 = .ok (.return_, 1) := by decide +kernel
theorem dX5_addSeen_0 : decode cX5_addSeen 0 = .ok (.aload_n 0, 1) := by decide +kernel
theorem dX5_addSeen_1 : decode cX5_addSeen 1 = .ok (.getfield 33, 3) := by decide +kernel
theorem dX5_addSeen_4 : decode cX5_addSeen 4 = .ok (.aload_n 0, 1) := by decide +kernel
theorem dX5_addSeen_5 : decode cX5_addSeen 5 = .ok (.getfield 68, 3) := by decide +kernel
theorem dX5_addSeen_8 : decode cX5_addSeen 8 = .ok (.iload_n 1, 1) := by decide +kernel
theorem dX5_addSeen_9 : decode cX5_addSeen 9 = .ok (.iastore, 1) := by decide +kernel
theorem dX5_addSeen_10 : decode cX5_addSeen 10 = .ok (.aload_n 0, 1) := by decide +kernel
theorem dX5_addSeen_11 : decode cX5_addSeen 11 = .ok (.getfield 36, 3) := by decide +kernel
theorem dX5_addSeen_14 : decode cX5_addSeen 14 = .ok (.aload_n 0, 1) := by decide +kernel
theorem dX5_addSeen_15 : decode cX5_addSeen 15 = .ok (.getfield 68, 3) := by decide +kernel
theorem dX5_addSeen_18 : decode cX5_addSeen 18 = .ok (.iload_n 2, 1) := by decide +kernel
theorem dX5_addSeen_19 : decode cX5_addSeen 19 = .ok (.iastore, 1) := by decide +kernel
theorem dX5_addSeen_20 : decode cX5_addSeen 20 = .ok (.aload_n 0, 1) := by decide +kernel
theorem dX5_addSeen_21 : decode cX5_addSeen 21 = .ok (.getfield 39, 3) := by decide +kernel
theorem dX5_addSeen_24 : decode cX5_addSeen 24 = .ok (.aload_n 0, 1) := by decide +kernel
theorem dX5_addSeen_25 : decode cX5_addSeen 25 = .ok (.getfield 68, 3) := by decide +kernel
theorem dX5_addSeen_28 : decode cX5_addSeen 28 = .ok (.iload_n 3, 1) := by decide +kernel
theorem dX5_addSeen_29 : decode cX5_addSeen 29 = .ok (.iastore, 1) := by decide +kernel
theorem dX5_addSeen_30 : decode cX5_addSeen 30 = .ok (.aload_n 0, 1) := by decide +kernel
theorem dX5_addSeen_31 : decode cX5_addSeen 31 = .ok (.dup, 1) := by decide +kernel
theorem dX5_addSeen_32 : decode cX5_addSeen 32 = .ok (.getfield 68, 3) := by decide +kernel
theorem dX5_addSeen_35 : decode cX5_addSeen 35 = .ok (.iconst 1, 1) := by decide +kernel
theorem dX5_addSeen_36 : decode cX5_addSeen 36 = .ok (.iadd, 1) := by decide +kernel
theorem dX5_addSeen_37 : decode cX5_addSeen 37 = .ok (.putfield 68, 3) := by decide +kernel
theorem dX5_addSeen_40 : decode cX5_addSeen 40 = .ok (.aload_n 0, 1) := by decide +kernel
theorem dX5_addSeen_41 : decode cX5_addSeen 41 = .ok (.getfield 68, 3) := by decide +kernel
theorem dX5_addSeen_44 : decode cX5_addSeen 44 = .ok (.ireturn, 1) := by decide +kernel
theorem dX5_addToBook_0 : decode cX5_addToBook 0 = .ok (.aload_n 0, 1) := by decide +kernel
theorem dX5_addToBook_1 : decode cX5_addToBook 1 = .ok (.getfield 42, 3) := by decide +kernel
theorem dX5_addToBook_4 : decode cX5_addToBook 4 = .ok (.aload_n 0, 1) := by decide +kernel
theorem dX5_addToBook_5 : decode cX5_addToBook 5 = .ok (.getfield 71, 3) := by decide +kernel
theorem dX5_addToBook_8 : decode cX5_addToBook 8 = .ok (.iload_n 1, 1) := by decide +kernel
theorem dX5_addToBook_9 : decode cX5_addToBook 9 = .ok (.iastore, 1) := by decide +kernel
theorem dX5_addToBook_10 : decode cX5_addToBook 10 = .ok (.aload_n 0, 1) := by decide +kernel
theorem dX5_addToBook_11 : decode cX5_addToBook 11 = .ok (.getfield 45, 3) := by decide +kernel
theorem dX5_addToBook_14 : decode cX5_addToBook 14 = .ok (.aload_n 0, 1) := by decide +kernel
theorem dX5_addToBook_15 : decode cX5_addToBook 15 = .ok (.getfield 71, 3) := by decide +kernel
theorem dX5_addToBook_18 : decode cX5_addToBook 18 = .ok (.iload_n 2, 1) := by decide +kernel
theorem dX5_addToBook_19 : decode cX5_addToBook 19 = .ok (.iastore, 1) := by decide +kernel
theorem dX5_addToBook_20 : decode cX5_addToBook 20 = .ok (.aload_n 0, 1) := by decide +kernel
theorem dX5_addToBook_21 : decode cX5_addToBook 21 = .ok (.dup, 1) := by decide +kernel
theorem dX5_addToBook_22 : decode cX5_addToBook 22 = .ok (.getfield 71, 3) := by decide +kernel
theorem dX5_addToBook_25 : decode cX5_addToBook 25 = .ok (.iconst 1, 1) := by decide +kernel
theorem dX5_addToBook_26 : decode cX5_addToBook 26 = .ok (.iadd, 1) := by decide +kernel
theorem dX5_addToBook_27 : decode cX5_addToBook 27 = .ok (.putfield 71, 3) := by decide +kernel
theorem dX5_addToBook_30 : decode cX5_addToBook 30 = .ok (.aload_n 0, 1) := by decide +kernel
theorem dX5_addToBook_31 : decode cX5_addToBook 31 = .ok (.getfield 71, 3) := by decide +kernel
theorem dX5_addToBook_34 : decode cX5_addToBook 34 = .ok (.ireturn, 1) := by decide +kernel
theorem dX6_init_0 : decode cX6_init 0 = .ok (.aload_n 0, 1) := by decide +kernel
theorem dX6_init_1 : decode cX6_init 1 = .ok (.invokespecial 1, 3) := by decide +kernel
theorem dX6_init_4 : decode cX6_init 4 = .ok (.return_, 1) := by decide +kernel
theorem dX6_paceOf_0 : decode cX6_paceOf 0 = .ok (.iconst 1, 1) := by decide +kernel
theorem dX6_paceOf_1 : decode cX6_paceOf 1 = .ok (.iload_n 1, 1) := by decide +kernel
theorem dX6_paceOf_2 : decode cX6_paceOf 2 = .ok (.iconst 4, 1) := by decide +kernel
theorem dX6_paceOf_3 : decode cX6_paceOf 3 = .ok (.idiv, 1) := by decide +kernel
theorem dX6_paceOf_4 : decode cX6_paceOf 4 = .ok (.iadd, 1) := by decide +kernel
theorem dX6_paceOf_5 : decode cX6_paceOf 5 = .ok (.ireturn, 1) := by decide +kernel
theorem dX6_wobblesOf_0 : decode cX6_wobblesOf 0 = .ok (.iconst 3, 1) := by decide +kernel
theorem dX6_wobblesOf_1 : decode cX6_wobblesOf 1 = .ok (.aload_n 0, 1) := by decide +kernel
theorem dX6_wobblesOf_2 : decode cX6_wobblesOf 2 = .ok (.iload_n 1, 1) := by decide +kernel
theorem dX6_wobblesOf_3 : decode cX6_wobblesOf 3 = .ok (.iload_n 2, 1) := by decide +kernel
theorem dX6_wobblesOf_4 : decode cX6_wobblesOf 4 = .ok (.iload_n 3, 1) := by decide +kernel
theorem dX6_wobblesOf_5 : decode cX6_wobblesOf 5 = .ok (.iload 4, 2) := by decide +kernel
theorem dX6_wobblesOf_7 : decode cX6_wobblesOf 7 = .ok (.iload 5, 2) := by decide +kernel
theorem dX6_wobblesOf_9 : decode cX6_wobblesOf 9 = .ok (.invokespecial 7, 3) := by decide +kernel
theorem dX6_wobblesOf_12 : decode cX6_wobblesOf 12 = .ok (.invokestatic 11, 3) := by decide +kernel
theorem dX6_wobblesOf_15 : decode cX6_wobblesOf 15 = .ok (.ireturn, 1) := by decide +kernel
theorem dX6_telling_0 : decode cX6_telling 0 = .ok (.aload_n 1, 1) := by decide +kernel
theorem dX6_telling_1 : decode cX6_telling 1 = .ok (.bipush 40, 2) := by decide +kernel
theorem dX6_telling_3 : decode cX6_telling 3 = .ok (.invokevirtual 17, 3) := by decide +kernel
theorem dX6_telling_6 : decode cX6_telling 6 = .ok (.aload_n 0, 1) := by decide +kernel
theorem dX6_telling_7 : decode cX6_telling 7 = .ok (.aload_n 1, 1) := by decide +kernel
theorem dX6_telling_8 : decode cX6_telling 8 = .ok (.iload_n 2, 1) := by decide +kernel
theorem dX6_telling_9 : decode cX6_telling 9 = .ok (.invokespecial 23, 3) := by decide +kernel
theorem dX6_telling_12 : decode cX6_telling 12 = .ok (.aload_n 0, 1) := by decide +kernel
theorem dX6_telling_13 : decode cX6_telling 13 = .ok (.aload_n 1, 1) := by decide +kernel
theorem dX6_telling_14 : decode cX6_telling 14 = .ok (.iconst 1, 1) := by decide +kernel
theorem dX6_telling_15 : decode cX6_telling 15 = .ok (.invokevirtual 27, 3) := by decide +kernel
theorem dX6_telling_18 : decode cX6_telling 18 = .ok (.iadd, 1) := by decide +kernel
theorem dX6_telling_19 : decode cX6_telling 19 = .ok (.ireturn, 1) := by decide +kernel
theorem dX7_init_0 : decode cX7_init 0 = .ok (.aload_n 0, 1) := by decide +kernel
theorem dX7_init_1 : decode cX7_init 1 = .ok (.invokespecial 1, 3) := by decide +kernel
theorem dX7_init_4 : decode cX7_init 4 = .ok (.return_, 1) := by decide +kernel
theorem dX7_wobblesOf_0 : decode cX7_wobblesOf 0 = .ok (.iconst 0, 1) := by decide +kernel
theorem dX7_wobblesOf_1 : decode cX7_wobblesOf 1 = .ok (.aload_n 0, 1) := by decide +kernel
theorem dX7_wobblesOf_2 : decode cX7_wobblesOf 2 = .ok (.iload_n 1, 1) := by decide +kernel
theorem dX7_wobblesOf_3 : decode cX7_wobblesOf 3 = .ok (.iload_n 2, 1) := by decide +kernel
theorem dX7_wobblesOf_4 : decode cX7_wobblesOf 4 = .ok (.iload_n 3, 1) := by decide +kernel
theorem dX7_wobblesOf_5 : decode cX7_wobblesOf 5 = .ok (.iload 4, 2) := by decide +kernel
theorem dX7_wobblesOf_7 : decode cX7_wobblesOf 7 = .ok (.iload 5, 2) := by decide +kernel
theorem dX7_wobblesOf_9 : decode cX7_wobblesOf 9 = .ok (.invokespecial 7, 3) := by decide +kernel
theorem dX7_wobblesOf_12 : decode cX7_wobblesOf 12 = .ok (.iload_n 1, 1) := by decide +kernel
theorem dX7_wobblesOf_13 : decode cX7_wobblesOf 13 = .ok (.isub, 1) := by decide +kernel
theorem dX7_wobblesOf_14 : decode cX7_wobblesOf 14 = .ok (.invokestatic 11, 3) := by decide +kernel
theorem dX7_wobblesOf_17 : decode cX7_wobblesOf 17 = .ok (.ireturn, 1) := by decide +kernel
theorem dX7_running_0 : decode cX7_running 0 = .ok (.aload_n 1, 1) := by decide +kernel
theorem dX7_running_1 : decode cX7_running 1 = .ok (.bipush 30, 2) := by decide +kernel
theorem dX7_running_3 : decode cX7_running 3 = .ok (.invokevirtual 17, 3) := by decide +kernel
theorem dX7_running_6 : decode cX7_running 6 = .ok (.aload_n 0, 1) := by decide +kernel
theorem dX7_running_7 : decode cX7_running 7 = .ok (.aload_n 1, 1) := by decide +kernel
theorem dX7_running_8 : decode cX7_running 8 = .ok (.iload_n 2, 1) := by decide +kernel
theorem dX7_running_9 : decode cX7_running 9 = .ok (.iconst 3, 1) := by decide +kernel
theorem dX7_running_10 : decode cX7_running 10 = .ok (.imul, 1) := by decide +kernel
theorem dX7_running_11 : decode cX7_running 11 = .ok (.invokespecial 23, 3) := by decide +kernel
theorem dX7_running_14 : decode cX7_running 14 = .ok (.ireturn, 1) := by decide +kernel
theorem dX8_init_0 : decode cX8_init 0 = .ok (.aload_n 0, 1) := by decide +kernel
theorem dX8_init_1 : decode cX8_init 1 = .ok (.invokespecial 1, 3) := by decide +kernel
theorem dX8_init_4 : decode cX8_init 4 = .ok (.return_, 1) := by decide +kernel
theorem dX8_paceOf_0 : decode cX8_paceOf 0 = .ok (.aload_n 0, 1) := by decide +kernel
theorem dX8_paceOf_1 : decode cX8_paceOf 1 = .ok (.iload_n 1, 1) := by decide +kernel
theorem dX8_paceOf_2 : decode cX8_paceOf 2 = .ok (.iload_n 2, 1) := by decide +kernel
theorem dX8_paceOf_3 : decode cX8_paceOf 3 = .ok (.invokespecial 7, 3) := by decide +kernel
theorem dX8_paceOf_6 : decode cX8_paceOf 6 = .ok (.iload_n 2, 1) := by decide +kernel
theorem dX8_paceOf_7 : decode cX8_paceOf 7 = .ok (.iadd, 1) := by decide +kernel
theorem dX8_paceOf_8 : decode cX8_paceOf 8 = .ok (.ireturn, 1) := by decide +kernel
theorem dX8_running_0 : decode cX8_running 0 = .ok (.aload_n 1, 1) := by decide +kernel
theorem dX8_running_1 : decode cX8_running 1 = .ok (.bipush 71, 2) := by decide +kernel
theorem dX8_running_3 : decode cX8_running 3 = .ok (.invokevirtual 11, 3) := by decide +kernel
theorem dX8_running_6 : decode cX8_running 6 = .ok (.aload_n 0, 1) := by decide +kernel
theorem dX8_running_7 : decode cX8_running 7 = .ok (.aload_n 1, 1) := by decide +kernel
theorem dX8_running_8 : decode cX8_running 8 = .ok (.iload_n 2, 1) := by decide +kernel
theorem dX8_running_9 : decode cX8_running 9 = .ok (.invokespecial 17, 3) := by decide +kernel
theorem dX8_running_12 : decode cX8_running 12 = .ok (.aload_n 1, 1) := by decide +kernel
theorem dX8_running_13 : decode cX8_running 13 = .ok (.getfield 21, 3) := by decide +kernel
theorem dX8_running_16 : decode cX8_running 16 = .ok (.ixor, 1) := by decide +kernel
theorem dX8_running_17 : decode cX8_running 17 = .ok (.ireturn, 1) := by decide +kernel
theorem dX8_standing_0 : decode cX8_standing 0 = .ok (.aload_n 1, 1) := by decide +kernel
theorem dX8_standing_1 : decode cX8_standing 1 = .ok (.bipush 70, 2) := by decide +kernel
theorem dX8_standing_3 : decode cX8_standing 3 = .ok (.invokevirtual 11, 3) := by decide +kernel
theorem dX8_standing_6 : decode cX8_standing 6 = .ok (.aload_n 0, 1) := by decide +kernel
theorem dX8_standing_7 : decode cX8_standing 7 = .ok (.aload_n 1, 1) := by decide +kernel
theorem dX8_standing_8 : decode cX8_standing 8 = .ok (.iload_n 2, 1) := by decide +kernel
theorem dX8_standing_9 : decode cX8_standing 9 = .ok (.invokespecial 25, 3) := by decide +kernel
theorem dX8_standing_12 : decode cX8_standing 12 = .ok (.aload_n 0, 1) := by decide +kernel
theorem dX8_standing_13 : decode cX8_standing 13 = .ok (.aload_n 1, 1) := by decide +kernel
theorem dX8_standing_14 : decode cX8_standing 14 = .ok (.iconst 2, 1) := by decide +kernel
theorem dX8_standing_15 : decode cX8_standing 15 = .ok (.invokespecial 17, 3) := by decide +kernel
theorem dX8_standing_18 : decode cX8_standing 18 = .ok (.iadd, 1) := by decide +kernel
theorem dX8_standing_19 : decode cX8_standing 19 = .ok (.ireturn, 1) := by decide +kernel
theorem dX9_init_0 : decode cX9_init 0 = .ok (.aload_n 0, 1) := by decide +kernel
theorem dX9_init_1 : decode cX9_init 1 = .ok (.invokespecial 3, 3) := by decide +kernel
theorem dX9_init_4 : decode cX9_init 4 = .ok (.aload_n 0, 1) := by decide +kernel
theorem dX9_init_5 : decode cX9_init 5 = .ok (.bipush 7, 2) := by decide +kernel
theorem dX9_init_7 : decode cX9_init 7 = .ok (.newarray .int, 2) := by decide +kernel
theorem dX9_init_9 : decode cX9_init 9 = .ok (.putfield 9, 3) := by decide +kernel
theorem dX9_init_12 : decode cX9_init 12 = .ok (.aload_n 0, 1) := by decide +kernel
theorem dX9_init_13 : decode cX9_init 13 = .ok (.bipush 7, 2) := by decide +kernel
theorem dX9_init_15 : decode cX9_init 15 = .ok (.newarray .int, 2) := by decide +kernel
theorem dX9_init_17 : decode cX9_init 17 = .ok (.putfield 15, 3) := by decide +kernel
theorem dX9_init_20 : decode cX9_init 20 = .ok (.aload_n 0, 1) := by decide +kernel
theorem dX9_init_21 : decode cX9_init 21 = .ok (.bipush 7, 2) := by decide +kernel
theorem dX9_init_23 : decode cX9_init 23 = .ok (.newarray .int, 2) := by decide +kernel
theorem dX9_init_25 : decode cX9_init 25 = .ok (.putfield 18, 3) := by decide +kernel
theorem dX9_init_28 : decode cX9_init 28 = .ok (.aload_n 0, 1) := by decide +kernel
theorem dX9_init_29 : decode cX9_init 29 = .ok (.ldc 23, 2) := by decide +kernel
theorem dX9_init_31 : decode cX9_init 31 = .ok (.invokevirtual 25, 3) := by decide +kernel
theorem dX9_init_34 : decode cX9_init 34 = .ok (.newarray .int, 2) := by decide +kernel
theorem dX9_init_36 : decode cX9_init 36 = .ok (.putfield 31, 3) := by decide +kernel
theorem dX9_init_39 : decode cX9_init 39 = .ok (.aload_n 0, 1) := by decide +kernel
theorem dX9_init_40 : decode cX9_init 40 = .ok (.aload_n 1, 1) := by decide +kernel
theorem dX9_init_41 : decode cX9_init 41 = .ok (.putfield 34, 3) := by decide +kernel
theorem dX9_init_44 : decode cX9_init 44 = .ok (.return_, 1) := by decide +kernel
theorem dX9_foresee_0 : decode cX9_foresee 0 = .ok (.aload_n 1, 1) := by decide +kernel
theorem dX9_foresee_1 : decode cX9_foresee 1 = .ok (.getfield 38, 3) := by decide +kernel
theorem dX9_foresee_4 : decode cX9_foresee 4 = .ok (.aload_n 1, 1) := by decide +kernel
theorem dX9_foresee_5 : decode cX9_foresee 5 = .ok (.invokevirtual 43, 3) := by decide +kernel
theorem dX9_foresee_8 : decode cX9_foresee 8 = .ok (.iaload, 1) := by decide +kernel
theorem dX9_foresee_9 : decode cX9_foresee 9 = .ok (.istore_n 2, 1) := by decide +kernel
theorem dX9_foresee_10 : decode cX9_foresee 10 = .ok (.iconst 0, 1) := by decide +kernel
theorem dX9_foresee_11 : decode cX9_foresee 11 = .ok (.istore_n 3, 1) := by decide +kernel
theorem dX9_foresee_12 : decode cX9_foresee 12 = .ok (.iload_n 3, 1) := by decide +kernel
theorem dX9_foresee_13 : decode cX9_foresee 13 = .ok (.aload_n 1, 1) := by decide +kernel
theorem dX9_foresee_14 : decode cX9_foresee 14 = .ok (.getfield 46, 3) := by decide +kernel
theorem dX9_foresee_17 : decode cX9_foresee 17 = .ok (.if_icmp .ge 194, 3) := by decide +kernel
theorem dX9_foresee_20 : decode cX9_foresee 20 = .ok (.aload_n 0, 1) := by decide +kernel
theorem dX9_foresee_21 : decode cX9_foresee 21 = .ok (.getfield 34, 3) := by decide +kernel
theorem dX9_foresee_24 : decode cX9_foresee 24 = .ok (.aload_n 1, 1) := by decide +kernel
theorem dX9_foresee_25 : decode cX9_foresee 25 = .ok (.getfield 50, 3) := by decide +kernel
theorem dX9_foresee_28 : decode cX9_foresee 28 = .ok (.iload_n 3, 1) := by decide +kernel
theorem dX9_foresee_29 : decode cX9_foresee 29 = .ok (.iaload, 1) := by decide +kernel
theorem dX9_foresee_30 : decode cX9_foresee 30 = .ok (.aaload, 1) := by decide +kernel
theorem dX9_foresee_31 : decode cX9_foresee 31 = .ok (.astore 4, 2) := by decide +kernel
theorem dX9_foresee_33 : decode cX9_foresee 33 = .ok (.aload_n 1, 1) := by decide +kernel
theorem dX9_foresee_34 : decode cX9_foresee 34 = .ok (.getfield 53, 3) := by decide +kernel
theorem dX9_foresee_37 : decode cX9_foresee 37 = .ok (.iload_n 3, 1) := by decide +kernel
theorem dX9_foresee_38 : decode cX9_foresee 38 = .ok (.iaload, 1) := by decide +kernel
theorem dX9_foresee_39 : decode cX9_foresee 39 = .ok (.istore 5, 2) := by decide +kernel
theorem dX9_foresee_41 : decode cX9_foresee 41 = .ok (.aload_n 1, 1) := by decide +kernel
theorem dX9_foresee_42 : decode cX9_foresee 42 = .ok (.getfield 56, 3) := by decide +kernel
theorem dX9_foresee_45 : decode cX9_foresee 45 = .ok (.iload_n 3, 1) := by decide +kernel
theorem dX9_foresee_46 : decode cX9_foresee 46 = .ok (.iaload, 1) := by decide +kernel
theorem dX9_foresee_47 : decode cX9_foresee 47 = .ok (.istore 6, 2) := by decide +kernel
theorem dX9_foresee_49 : decode cX9_foresee 49 = .ok (.aload_n 0, 1) := by decide +kernel
theorem dX9_foresee_50 : decode cX9_foresee 50 = .ok (.getfield 9, 3) := by decide +kernel
theorem dX9_foresee_53 : decode cX9_foresee 53 = .ok (.iload_n 3, 1) := by decide +kernel
theorem dX9_foresee_54 : decode cX9_foresee 54 = .ok (.aload 4, 2) := by decide +kernel
theorem dX9_foresee_56 : decode cX9_foresee 56 = .ok (.iload 6, 2) := by decide +kernel
theorem dX9_foresee_58 : decode cX9_foresee 58 = .ok (.aload_n 1, 1) := by decide +kernel
theorem dX9_foresee_59 : decode cX9_foresee 59 = .ok (.getfield 59, 3) := by decide +kernel
theorem dX9_foresee_62 : decode cX9_foresee 62 = .ok (.iload_n 3, 1) := by decide +kernel
theorem dX9_foresee_63 : decode cX9_foresee 63 = .ok (.iconst 4, 1) := by decide +kernel
theorem dX9_foresee_64 : decode cX9_foresee 64 = .ok (.imul, 1) := by decide +kernel
theorem dX9_foresee_65 : decode cX9_foresee 65 = .ok (.aload_n 1, 1) := by decide +kernel
theorem dX9_foresee_66 : decode cX9_foresee 66 = .ok (.invokevirtual 43, 3) := by decide +kernel
theorem dX9_foresee_69 : decode cX9_foresee 69 = .ok (.iadd, 1) := by decide +kernel
theorem dX9_foresee_70 : decode cX9_foresee 70 = .ok (.iaload, 1) := by decide +kernel
theorem dX9_foresee_71 : decode cX9_foresee 71 = .ok (.invokevirtual 62, 3) := by decide +kernel
theorem dX9_foresee_74 : decode cX9_foresee 74 = .ok (.iastore, 1) := by decide +kernel
theorem dX9_foresee_75 : decode cX9_foresee 75 = .ok (.aload_n 0, 1) := by decide +kernel
theorem dX9_foresee_76 : decode cX9_foresee 76 = .ok (.getfield 15, 3) := by decide +kernel
theorem dX9_foresee_79 : decode cX9_foresee 79 = .ok (.iload_n 3, 1) := by decide +kernel
theorem dX9_foresee_80 : decode cX9_foresee 80 = .ok (.iload_n 2, 1) := by decide +kernel
theorem dX9_foresee_81 : decode cX9_foresee 81 = .ok (.iload 5, 2) := by decide +kernel
theorem dX9_foresee_83 : decode cX9_foresee 83 = .ok (.if_icmp .le 17, 3) := by decide +kernel
theorem dX9_foresee_86 : decode cX9_foresee 86 = .ok (.aload_n 0, 1) := by decide +kernel
theorem dX9_foresee_87 : decode cX9_foresee 87 = .ok (.getfield 9, 3) := by decide +kernel
theorem dX9_foresee_90 : decode cX9_foresee 90 = .ok (.iload_n 3, 1) := by decide +kernel
theorem dX9_foresee_91 : decode cX9_foresee 91 = .ok (.iaload, 1) := by decide +kernel
theorem dX9_foresee_92 : decode cX9_foresee 92 = .ok (.iload_n 2, 1) := by decide +kernel
theorem dX9_foresee_93 : decode cX9_foresee 93 = .ok (.iload 5, 2) := by decide +kernel
theorem dX9_foresee_95 : decode cX9_foresee 95 = .ok (.isub, 1) := by decide +kernel
theorem dX9_foresee_96 : decode cX9_foresee 96 = .ok (.imul, 1) := by decide +kernel
theorem dX9_foresee_97 : decode cX9_foresee 97 = .ok (.goto 4, 3) := by decide +kernel
theorem dX9_foresee_100 : decode cX9_foresee 100 = .ok (.iconst 0, 1) := by decide +kernel
theorem dX9_foresee_101 : decode cX9_foresee 101 = .ok (.iastore, 1) := by decide +kernel
theorem dX9_foresee_102 : decode cX9_foresee 102 = .ok (.aload_n 0, 1) := by decide +kernel
theorem dX9_foresee_103 : decode cX9_foresee 103 = .ok (.getfield 31, 3) := by decide +kernel
theorem dX9_foresee_106 : decode cX9_foresee 106 = .ok (.iconst 0, 1) := by decide +kernel
theorem dX9_foresee_107 : decode cX9_foresee 107 = .ok (.iload_n 3, 1) := by decide +kernel
theorem dX9_foresee_108 : decode cX9_foresee 108 = .ok (.iastore, 1) := by decide +kernel
theorem dX9_foresee_109 : decode cX9_foresee 109 = .ok (.aload_n 0, 1) := by decide +kernel
theorem dX9_foresee_110 : decode cX9_foresee 110 = .ok (.getfield 31, 3) := by decide +kernel
theorem dX9_foresee_113 : decode cX9_foresee 113 = .ok (.iconst 1, 1) := by decide +kernel
theorem dX9_foresee_114 : decode cX9_foresee 114 = .ok (.aload_n 1, 1) := by decide +kernel
theorem dX9_foresee_115 : decode cX9_foresee 115 = .ok (.getfield 50, 3) := by decide +kernel
theorem dX9_foresee_118 : decode cX9_foresee 118 = .ok (.iload_n 3, 1) := by decide +kernel
theorem dX9_foresee_119 : decode cX9_foresee 119 = .ok (.iaload, 1) := by decide +kernel
theorem dX9_foresee_120 : decode cX9_foresee 120 = .ok (.iastore, 1) := by decide +kernel
theorem dX9_foresee_121 : decode cX9_foresee 121 = .ok (.aload_n 0, 1) := by decide +kernel
theorem dX9_foresee_122 : decode cX9_foresee 122 = .ok (.getfield 31, 3) := by decide +kernel
theorem dX9_foresee_125 : decode cX9_foresee 125 = .ok (.iconst 2, 1) := by decide +kernel
theorem dX9_foresee_126 : decode cX9_foresee 126 = .ok (.iload 5, 2) := by decide +kernel
theorem dX9_foresee_128 : decode cX9_foresee 128 = .ok (.iastore, 1) := by decide +kernel
theorem dX9_foresee_129 : decode cX9_foresee 129 = .ok (.aload_n 0, 1) := by decide +kernel
theorem dX9_foresee_130 : decode cX9_foresee 130 = .ok (.getfield 31, 3) := by decide +kernel
theorem dX9_foresee_133 : decode cX9_foresee 133 = .ok (.iconst 3, 1) := by decide +kernel
theorem dX9_foresee_134 : decode cX9_foresee 134 = .ok (.iload_n 2, 1) := by decide +kernel
theorem dX9_foresee_135 : decode cX9_foresee 135 = .ok (.iastore, 1) := by decide +kernel
theorem dX9_foresee_136 : decode cX9_foresee 136 = .ok (.aload_n 0, 1) := by decide +kernel
theorem dX9_foresee_137 : decode cX9_foresee 137 = .ok (.getfield 31, 3) := by decide +kernel
theorem dX9_foresee_140 : decode cX9_foresee 140 = .ok (.iconst 4, 1) := by decide +kernel
theorem dX9_foresee_141 : decode cX9_foresee 141 = .ok (.aload_n 1, 1) := by decide +kernel
theorem dX9_foresee_142 : decode cX9_foresee 142 = .ok (.getfield 68, 3) := by decide +kernel
theorem dX9_foresee_145 : decode cX9_foresee 145 = .ok (.iload_n 3, 1) := by decide +kernel
theorem dX9_foresee_146 : decode cX9_foresee 146 = .ok (.iaload, 1) := by decide +kernel
theorem dX9_foresee_147 : decode cX9_foresee 147 = .ok (.iconst 5, 1) := by decide +kernel
theorem dX9_foresee_148 : decode cX9_foresee 148 = .ok (.idiv, 1) := by decide +kernel
theorem dX9_foresee_149 : decode cX9_foresee 149 = .ok (.iastore, 1) := by decide +kernel
theorem dX9_foresee_150 : decode cX9_foresee 150 = .ok (.aload_n 0, 1) := by decide +kernel
theorem dX9_foresee_151 : decode cX9_foresee 151 = .ok (.getfield 31, 3) := by decide +kernel
theorem dX9_foresee_154 : decode cX9_foresee 154 = .ok (.iconst 5, 1) := by decide +kernel
theorem dX9_foresee_155 : decode cX9_foresee 155 = .ok (.aload_n 1, 1) := by decide +kernel
theorem dX9_foresee_156 : decode cX9_foresee 156 = .ok (.getfield 71, 3) := by decide +kernel
theorem dX9_foresee_159 : decode cX9_foresee 159 = .ok (.bipush 10, 2) := by decide +kernel
theorem dX9_foresee_161 : decode cX9_foresee 161 = .ok (.irem, 1) := by decide +kernel
theorem dX9_foresee_162 : decode cX9_foresee 162 = .ok (.iastore, 1) := by decide +kernel
theorem dX9_foresee_163 : decode cX9_foresee 163 = .ok (.aload_n 1, 1) := by decide +kernel
theorem dX9_foresee_164 : decode cX9_foresee 164 = .ok (.getfield 74, 3) := by decide +kernel
theorem dX9_foresee_167 : decode cX9_foresee 167 = .ok (.aload_n 0, 1) := by decide +kernel
theorem dX9_foresee_168 : decode cX9_foresee 168 = .ok (.getfield 31, 3) := by decide +kernel
theorem dX9_foresee_171 : decode cX9_foresee 171 = .ok (.invokevirtual 78, 3) := by decide +kernel
theorem dX9_foresee_174 : decode cX9_foresee 174 = .ok (.istore 7, 2) := by decide +kernel
theorem dX9_foresee_176 : decode cX9_foresee 176 = .ok (.aload_n 0, 1) := by decide +kernel
theorem dX9_foresee_177 : decode cX9_foresee 177 = .ok (.getfield 18, 3) := by decide +kernel
theorem dX9_foresee_180 : decode cX9_foresee 180 = .ok (.iload_n 3, 1) := by decide +kernel
theorem dX9_foresee_181 : decode cX9_foresee 181 = .ok (.aload 4, 2) := by decide +kernel
theorem dX9_foresee_183 : decode cX9_foresee 183 = .ok (.iload 6, 2) := by decide +kernel
theorem dX9_foresee_185 : decode cX9_foresee 185 = .ok (.iload 5, 2) := by decide +kernel
theorem dX9_foresee_187 : decode cX9_foresee 187 = .ok (.aload_n 0, 1) := by decide +kernel
theorem dX9_foresee_188 : decode cX9_foresee 188 = .ok (.getfield 9, 3) := by decide +kernel
theorem dX9_foresee_191 : decode cX9_foresee 191 = .ok (.iload_n 3, 1) := by decide +kernel
theorem dX9_foresee_192 : decode cX9_foresee 192 = .ok (.iaload, 1) := by decide +kernel
theorem dX9_foresee_193 : decode cX9_foresee 193 = .ok (.aload_n 0, 1) := by decide +kernel
theorem dX9_foresee_194 : decode cX9_foresee 194 = .ok (.getfield 15, 3) := by decide +kernel
theorem dX9_foresee_197 : decode cX9_foresee 197 = .ok (.iload_n 3, 1) := by decide +kernel
theorem dX9_foresee_198 : decode cX9_foresee 198 = .ok (.iaload, 1) := by decide +kernel
theorem dX9_foresee_199 : decode cX9_foresee 199 = .ok (.iload 7, 2) := by decide +kernel
theorem dX9_foresee_201 : decode cX9_foresee 201 = .ok (.invokevirtual 82, 3) := by decide +kernel
theorem dX9_foresee_204 : decode cX9_foresee 204 = .ok (.iastore, 1) := by decide +kernel
theorem dX9_foresee_205 : decode cX9_foresee 205 = .ok (.iinc 3 1, 3) := by decide +kernel
theorem dX9_foresee_208 : decode cX9_foresee 208 = .ok (.goto (-196), 3) := by decide +kernel
theorem dX9_foresee_211 : decode cX9_foresee 211 = .ok (.return_, 1) := by decide +kernel
theorem dX9_step_0 : decode cX9_step 0 = .ok (.aload_n 0, 1) := by decide +kernel
theorem dX9_step_1 : decode cX9_step 1 = .ok (.aload_n 1, 1) := by decide +kernel
theorem dX9_step_2 : decode cX9_step 2 = .ok (.invokevirtual 86, 3) := by decide +kernel
theorem dX9_step_5 : decode cX9_step 5 = .ok (.aload_n 1, 1) := by decide +kernel
theorem dX9_step_6 : decode cX9_step 6 = .ok (.iload_n 3, 1) := by decide +kernel
theorem dX9_step_7 : decode cX9_step 7 = .ok (.invokevirtual 90, 3) := by decide +kernel
theorem dX9_step_10 : decode cX9_step 10 = .ok (.ifCond .eq 17, 3) := by decide +kernel
theorem dX9_step_13 : decode cX9_step 13 = .ok (.aload_n 0, 1) := by decide +kernel
theorem dX9_step_14 : decode cX9_step 14 = .ok (.getfield 15, 3) := by decide +kernel
theorem dX9_step_17 : decode cX9_step 17 = .ok (.iload_n 3, 1) := by decide +kernel
theorem dX9_step_18 : decode cX9_step 18 = .ok (.iconst 0, 1) := by decide +kernel
theorem dX9_step_19 : decode cX9_step 19 = .ok (.iastore, 1) := by decide +kernel
theorem dX9_step_20 : decode cX9_step 20 = .ok (.aload_n 0, 1) := by decide +kernel
theorem dX9_step_21 : decode cX9_step 21 = .ok (.getfield 18, 3) := by decide +kernel
theorem dX9_step_24 : decode cX9_step 24 = .ok (.iload_n 3, 1) := by decide +kernel
theorem dX9_step_25 : decode cX9_step 25 = .ok (.iconst 0, 1) := by decide +kernel
theorem dX9_step_26 : decode cX9_step 26 = .ok (.iastore, 1) := by decide +kernel
theorem dX9_step_27 : decode cX9_step 27 = .ok (.aload_n 0, 1) := by decide +kernel
theorem dX9_step_28 : decode cX9_step 28 = .ok (.aload_n 1, 1) := by decide +kernel
theorem dX9_step_29 : decode cX9_step 29 = .ok (.invokevirtual 94, 3) := by decide +kernel
theorem dX9_step_32 : decode cX9_step 32 = .ok (.aload_n 0, 1) := by decide +kernel
theorem dX9_step_33 : decode cX9_step 33 = .ok (.aload_n 1, 1) := by decide +kernel
theorem dX9_step_34 : decode cX9_step 34 = .ok (.iload_n 2, 1) := by decide +kernel
theorem dX9_step_35 : decode cX9_step 35 = .ok (.invokevirtual 97, 3) := by decide +kernel
theorem dX9_step_38 : decode cX9_step 38 = .ok (.istore 4, 2) := by decide +kernel
theorem dX9_step_40 : decode cX9_step 40 = .ok (.iconst 0, 1) := by decide +kernel
theorem dX9_step_41 : decode cX9_step 41 = .ok (.istore 5, 2) := by decide +kernel
theorem dX9_step_43 : decode cX9_step 43 = .ok (.iload 5, 2) := by decide +kernel
theorem dX9_step_45 : decode cX9_step 45 = .ok (.aload_n 1, 1) := by decide +kernel
theorem dX9_step_46 : decode cX9_step 46 = .ok (.getfield 46, 3) := by decide +kernel
theorem dX9_step_49 : decode cX9_step 49 = .ok (.if_icmp .ge 38, 3) := by decide +kernel
theorem dX9_step_52 : decode cX9_step 52 = .ok (.iload 4, 2) := by decide +kernel
theorem dX9_step_54 : decode cX9_step 54 = .ok (.iload 5, 2) := by decide +kernel
theorem dX9_step_56 : decode cX9_step 56 = .ok (.ishr, 1) := by decide +kernel
theorem dX9_step_57 : decode cX9_step 57 = .ok (.iconst 1, 1) := by decide +kernel
theorem dX9_step_58 : decode cX9_step 58 = .ok (.iand, 1) := by decide +kernel
theorem dX9_step_59 : decode cX9_step 59 = .ok (.ifCond .eq 22, 3) := by decide +kernel
theorem dX9_step_62 : decode cX9_step 62 = .ok (.aload_n 1, 1) := by decide +kernel
theorem dX9_step_63 : decode cX9_step 63 = .ok (.getfield 68, 3) := by decide +kernel
theorem dX9_step_66 : decode cX9_step 66 = .ok (.iload 5, 2) := by decide +kernel
theorem dX9_step_68 : decode cX9_step 68 = .ok (.iconst 0, 1) := by decide +kernel
theorem dX9_step_69 : decode cX9_step 69 = .ok (.iastore, 1) := by decide +kernel
theorem dX9_step_70 : decode cX9_step 70 = .ok (.aload_n 1, 1) := by decide +kernel
theorem dX9_step_71 : decode cX9_step 71 = .ok (.getfield 101, 3) := by decide +kernel
theorem dX9_step_74 : decode cX9_step 74 = .ok (.iload 5, 2) := by decide +kernel
theorem dX9_step_76 : decode cX9_step 76 = .ok (.dup2, 1) := by decide +kernel
theorem dX9_step_77 : decode cX9_step 77 = .ok (.iaload, 1) := by decide +kernel
theorem dX9_step_78 : decode cX9_step 78 = .ok (.iconst 1, 1) := by decide +kernel
theorem dX9_step_79 : decode cX9_step 79 = .ok (.iadd, 1) := by decide +kernel
theorem dX9_step_80 : decode cX9_step 80 = .ok (.iastore, 1) := by decide +kernel
theorem dX9_step_81 : decode cX9_step 81 = .ok (.iinc 5 1, 3) := by decide +kernel
theorem dX9_step_84 : decode cX9_step 84 = .ok (.goto (-41), 3) := by decide +kernel
theorem dX9_step_87 : decode cX9_step 87 = .ok (.aload_n 1, 1) := by decide +kernel
theorem dX9_step_88 : decode cX9_step 88 = .ok (.dup, 1) := by decide +kernel
theorem dX9_step_89 : decode cX9_step 89 = .ok (.getfield 71, 3) := by decide +kernel
theorem dX9_step_92 : decode cX9_step 92 = .ok (.iconst 1, 1) := by decide +kernel
theorem dX9_step_93 : decode cX9_step 93 = .ok (.iadd, 1) := by decide +kernel
theorem dX9_step_94 : decode cX9_step 94 = .ok (.putfield 71, 3) := by decide +kernel
theorem dX9_step_97 : decode cX9_step 97 = .ok (.iload 4, 2) := by decide +kernel
theorem dX9_step_99 : decode cX9_step 99 = .ok (.ireturn, 1) := by decide +kernel
theorem dX9_goOn_0 : decode cX9_goOn 0 = .ok (.iconst 0, 1) := by decide +kernel
theorem dX9_goOn_1 : decode cX9_goOn 1 = .ok (.istore_n 2, 1) := by decide +kernel
theorem dX9_goOn_2 : decode cX9_goOn 2 = .ok (.iload_n 2, 1) := by decide +kernel
theorem dX9_goOn_3 : decode cX9_goOn 3 = .ok (.aload_n 1, 1) := by decide +kernel
theorem dX9_goOn_4 : decode cX9_goOn 4 = .ok (.getfield 46, 3) := by decide +kernel
theorem dX9_goOn_7 : decode cX9_goOn 7 = .ok (.if_icmp .ge 76, 3) := by decide +kernel
theorem dX9_goOn_10 : decode cX9_goOn 10 = .ok (.aload_n 1, 1) := by decide +kernel
theorem dX9_goOn_11 : decode cX9_goOn 11 = .ok (.iload_n 2, 1) := by decide +kernel
theorem dX9_goOn_12 : decode cX9_goOn 12 = .ok (.invokevirtual 104, 3) := by decide +kernel
theorem dX9_goOn_15 : decode cX9_goOn 15 = .ok (.ifCond .eq 6, 3) := by decide +kernel
theorem dX9_goOn_18 : decode cX9_goOn 18 = .ok (.goto 59, 3) := by decide +kernel
theorem dX9_goOn_21 : decode cX9_goOn 21 = .ok (.aload_n 1, 1) := by decide +kernel
theorem dX9_goOn_22 : decode cX9_goOn 22 = .ok (.getfield 68, 3) := by decide +kernel
theorem dX9_goOn_25 : decode cX9_goOn 25 = .ok (.iload_n 2, 1) := by decide +kernel
theorem dX9_goOn_26 : decode cX9_goOn 26 = .ok (.dup2, 1) := by decide +kernel
theorem dX9_goOn_27 : decode cX9_goOn 27 = .ok (.iaload, 1) := by decide +kernel
theorem dX9_goOn_28 : decode cX9_goOn 28 = .ok (.aload_n 0, 1) := by decide +kernel
theorem dX9_goOn_29 : decode cX9_goOn 29 = .ok (.getfield 15, 3) := by decide +kernel
theorem dX9_goOn_32 : decode cX9_goOn 32 = .ok (.iload_n 2, 1) := by decide +kernel
theorem dX9_goOn_33 : decode cX9_goOn 33 = .ok (.iaload, 1) := by decide +kernel
theorem dX9_goOn_34 : decode cX9_goOn 34 = .ok (.iadd, 1) := by decide +kernel
theorem dX9_goOn_35 : decode cX9_goOn 35 = .ok (.iastore, 1) := by decide +kernel
theorem dX9_goOn_36 : decode cX9_goOn 36 = .ok (.aload_n 1, 1) := by decide +kernel
theorem dX9_goOn_37 : decode cX9_goOn 37 = .ok (.getfield 68, 3) := by decide +kernel
theorem dX9_goOn_40 : decode cX9_goOn 40 = .ok (.iload_n 2, 1) := by decide +kernel
theorem dX9_goOn_41 : decode cX9_goOn 41 = .ok (.iaload, 1) := by decide +kernel
theorem dX9_goOn_42 : decode cX9_goOn 42 = .ok (.aload_n 1, 1) := by decide +kernel
theorem dX9_goOn_43 : decode cX9_goOn 43 = .ok (.getfield 74, 3) := by decide +kernel
theorem dX9_goOn_46 : decode cX9_goOn 46 = .ok (.getfield 107, 3) := by decide +kernel
theorem dX9_goOn_49 : decode cX9_goOn 49 = .ok (.if_icmp .lt 28, 3) := by decide +kernel
theorem dX9_goOn_52 : decode cX9_goOn 52 = .ok (.aload_n 1, 1) := by decide +kernel
theorem dX9_goOn_53 : decode cX9_goOn 53 = .ok (.getfield 68, 3) := by decide +kernel
theorem dX9_goOn_56 : decode cX9_goOn 56 = .ok (.iload_n 2, 1) := by decide +kernel
theorem dX9_goOn_57 : decode cX9_goOn 57 = .ok (.aload_n 1, 1) := by decide +kernel
theorem dX9_goOn_58 : decode cX9_goOn 58 = .ok (.getfield 74, 3) := by decide +kernel
theorem dX9_goOn_61 : decode cX9_goOn 61 = .ok (.getfield 107, 3) := by decide +kernel
theorem dX9_goOn_64 : decode cX9_goOn 64 = .ok (.iastore, 1) := by decide +kernel
theorem dX9_goOn_65 : decode cX9_goOn 65 = .ok (.aload_n 1, 1) := by decide +kernel
theorem dX9_goOn_66 : decode cX9_goOn 66 = .ok (.dup, 1) := by decide +kernel
theorem dX9_goOn_67 : decode cX9_goOn 67 = .ok (.getfield 110, 3) := by decide +kernel
theorem dX9_goOn_70 : decode cX9_goOn 70 = .ok (.iconst 1, 1) := by decide +kernel
theorem dX9_goOn_71 : decode cX9_goOn 71 = .ok (.iload_n 2, 1) := by decide +kernel
theorem dX9_goOn_72 : decode cX9_goOn 72 = .ok (.ishl, 1) := by decide +kernel
theorem dX9_goOn_73 : decode cX9_goOn 73 = .ok (.ior, 1) := by decide +kernel
theorem dX9_goOn_74 : decode cX9_goOn 74 = .ok (.putfield 110, 3) := by decide +kernel
theorem dX9_goOn_77 : decode cX9_goOn 77 = .ok (.iinc 2 1, 3) := by decide +kernel
theorem dX9_goOn_80 : decode cX9_goOn 80 = .ok (.goto (-78), 3) := by decide +kernel
theorem dX9_goOn_83 : decode cX9_goOn 83 = .ok (.return_, 1) := by decide +kernel
theorem dX9_whoIsSentBack_0 : decode cX9_whoIsSentBack 0 = .ok (.iconst 0, 1) := by decide +kernel
theorem dX9_whoIsSentBack_1 : decode cX9_whoIsSentBack 1 = .ok (.istore_n 3, 1) := by decide +kernel
theorem dX9_whoIsSentBack_2 : decode cX9_whoIsSentBack 2 = .ok (.iconst 0, 1) := by decide +kernel
theorem dX9_whoIsSentBack_3 : decode cX9_whoIsSentBack 3 = .ok (.istore 4, 2) := by decide +kernel
theorem dX9_whoIsSentBack_5 : decode cX9_whoIsSentBack 5 = .ok (.iload 4, 2) := by decide +kernel
theorem dX9_whoIsSentBack_7 : decode cX9_whoIsSentBack 7 = .ok (.aload_n 1, 1) := by decide +kernel
theorem dX9_whoIsSentBack_8 : decode cX9_whoIsSentBack 8 = .ok (.getfield 46, 3) := by decide +kernel
theorem dX9_whoIsSentBack_11 : decode cX9_whoIsSentBack 11 = .ok (.if_icmp .ge 65, 3) := by decide +kernel
theorem dX9_whoIsSentBack_14 : decode cX9_whoIsSentBack 14 = .ok (.aload_n 1, 1) := by decide +kernel
theorem dX9_whoIsSentBack_15 : decode cX9_whoIsSentBack 15 = .ok (.iload 4, 2) := by decide +kernel
theorem dX9_whoIsSentBack_17 : decode cX9_whoIsSentBack 17 = .ok (.invokevirtual 104, 3) := by decide +kernel
theorem dX9_whoIsSentBack_20 : decode cX9_whoIsSentBack 20 = .ok (.ifCond .ne 24, 3) := by decide +kernel
theorem dX9_whoIsSentBack_23 : decode cX9_whoIsSentBack 23 = .ok (.aload_n 0, 1) := by decide +kernel
theorem dX9_whoIsSentBack_24 : decode cX9_whoIsSentBack 24 = .ok (.getfield 18, 3) := by decide +kernel
theorem dX9_whoIsSentBack_27 : decode cX9_whoIsSentBack 27 = .ok (.iload 4, 2) := by decide +kernel
theorem dX9_whoIsSentBack_29 : decode cX9_whoIsSentBack 29 = .ok (.iaload, 1) := by decide +kernel
theorem dX9_whoIsSentBack_30 : decode cX9_whoIsSentBack 30 = .ok (.aload_n 1, 1) := by decide +kernel
theorem dX9_whoIsSentBack_31 : decode cX9_whoIsSentBack 31 = .ok (.getfield 74, 3) := by decide +kernel
theorem dX9_whoIsSentBack_34 : decode cX9_whoIsSentBack 34 = .ok (.getfield 113, 3) := by decide +kernel
theorem dX9_whoIsSentBack_37 : decode cX9_whoIsSentBack 37 = .ok (.if_icmp .le 7, 3) := by decide +kernel
theorem dX9_whoIsSentBack_40 : decode cX9_whoIsSentBack 40 = .ok (.iconst 1, 1) := by decide +kernel
theorem dX9_whoIsSentBack_41 : decode cX9_whoIsSentBack 41 = .ok (.goto 4, 3) := by decide +kernel
theorem dX9_whoIsSentBack_44 : decode cX9_whoIsSentBack 44 = .ok (.iconst 0, 1) := by decide +kernel
theorem dX9_whoIsSentBack_45 : decode cX9_whoIsSentBack 45 = .ok (.istore 5, 2) := by decide +kernel
theorem dX9_whoIsSentBack_47 : decode cX9_whoIsSentBack 47 = .ok (.iload 5, 2) := by decide +kernel
theorem dX9_whoIsSentBack_49 : decode cX9_whoIsSentBack 49 = .ok (.ifCond .eq 21, 3) := by decide +kernel
theorem dX9_whoIsSentBack_52 : decode cX9_whoIsSentBack 52 = .ok (.aload_n 0, 1) := by decide +kernel
theorem dX9_whoIsSentBack_53 : decode cX9_whoIsSentBack 53 = .ok (.aload_n 1, 1) := by decide +kernel
theorem dX9_whoIsSentBack_54 : decode cX9_whoIsSentBack 54 = .ok (.iload 4, 2) := by decide +kernel
theorem dX9_whoIsSentBack_56 : decode cX9_whoIsSentBack 56 = .ok (.invokevirtual 116, 3) := by decide +kernel
theorem dX9_whoIsSentBack_59 : decode cX9_whoIsSentBack 59 = .ok (.iload_n 2, 1) := by decide +kernel
theorem dX9_whoIsSentBack_60 : decode cX9_whoIsSentBack 60 = .ok (.if_icmp .ge 10, 3) := by decide +kernel
theorem dX9_whoIsSentBack_63 : decode cX9_whoIsSentBack 63 = .ok (.iload_n 3, 1) := by decide +kernel
theorem dX9_whoIsSentBack_64 : decode cX9_whoIsSentBack 64 = .ok (.iconst 1, 1) := by decide +kernel
theorem dX9_whoIsSentBack_65 : decode cX9_whoIsSentBack 65 = .ok (.iload 4, 2) := by decide +kernel
theorem dX9_whoIsSentBack_67 : decode cX9_whoIsSentBack 67 = .ok (.ishl, 1) := by decide +kernel
theorem dX9_whoIsSentBack_68 : decode cX9_whoIsSentBack 68 = .ok (.ior, 1) := by decide +kernel
theorem dX9_whoIsSentBack_69 : decode cX9_whoIsSentBack 69 = .ok (.istore_n 3, 1) := by decide +kernel
theorem dX9_whoIsSentBack_70 : decode cX9_whoIsSentBack 70 = .ok (.iinc 4 1, 3) := by decide +kernel
theorem dX9_whoIsSentBack_73 : decode cX9_whoIsSentBack 73 = .ok (.goto (-68), 3) := by decide +kernel
theorem dX9_whoIsSentBack_76 : decode cX9_whoIsSentBack 76 = .ok (.iload_n 3, 1) := by decide +kernel
theorem dX9_whoIsSentBack_77 : decode cX9_whoIsSentBack 77 = .ok (.ireturn, 1) := by decide +kernel
theorem dX9_lookedAtAhead_0 : decode cX9_lookedAtAhead 0 = .ok (.iconst 0, 1) := by decide +kernel
theorem dX9_lookedAtAhead_1 : decode cX9_lookedAtAhead 1 = .ok (.istore_n 3, 1) := by decide +kernel
theorem dX9_lookedAtAhead_2 : decode cX9_lookedAtAhead 2 = .ok (.iconst 0, 1) := by decide +kernel
theorem dX9_lookedAtAhead_3 : decode cX9_lookedAtAhead 3 = .ok (.istore 4, 2) := by decide +kernel
theorem dX9_lookedAtAhead_5 : decode cX9_lookedAtAhead 5 = .ok (.iload 4, 2) := by decide +kernel
theorem dX9_lookedAtAhead_7 : decode cX9_lookedAtAhead 7 = .ok (.aload_n 1, 1) := by decide +kernel
theorem dX9_lookedAtAhead_8 : decode cX9_lookedAtAhead 8 = .ok (.getfield 46, 3) := by decide +kernel
theorem dX9_lookedAtAhead_11 : decode cX9_lookedAtAhead 11 = .ok (.if_icmp .ge 71, 3) := by decide +kernel
theorem dX9_lookedAtAhead_14 : decode cX9_lookedAtAhead 14 = .ok (.aload_n 1, 1) := by decide +kernel
theorem dX9_lookedAtAhead_15 : decode cX9_lookedAtAhead 15 = .ok (.getfield 68, 3) := by decide +kernel
theorem dX9_lookedAtAhead_18 : decode cX9_lookedAtAhead 18 = .ok (.iload 4, 2) := by decide +kernel
theorem dX9_lookedAtAhead_20 : decode cX9_lookedAtAhead 20 = .ok (.iaload, 1) := by decide +kernel
theorem dX9_lookedAtAhead_21 : decode cX9_lookedAtAhead 21 = .ok (.aload_n 1, 1) := by decide +kernel
theorem dX9_lookedAtAhead_22 : decode cX9_lookedAtAhead 22 = .ok (.getfield 68, 3) := by decide +kernel
theorem dX9_lookedAtAhead_25 : decode cX9_lookedAtAhead 25 = .ok (.iload_n 2, 1) := by decide +kernel
theorem dX9_lookedAtAhead_26 : decode cX9_lookedAtAhead 26 = .ok (.iaload, 1) := by decide +kernel
theorem dX9_lookedAtAhead_27 : decode cX9_lookedAtAhead 27 = .ok (.if_icmp .gt 25, 3) := by decide +kernel
theorem dX9_lookedAtAhead_30 : decode cX9_lookedAtAhead 30 = .ok (.aload_n 1, 1) := by decide +kernel
theorem dX9_lookedAtAhead_31 : decode cX9_lookedAtAhead 31 = .ok (.getfield 68, 3) := by decide +kernel
theorem dX9_lookedAtAhead_34 : decode cX9_lookedAtAhead 34 = .ok (.iload 4, 2) := by decide +kernel
theorem dX9_lookedAtAhead_36 : decode cX9_lookedAtAhead 36 = .ok (.iaload, 1) := by decide +kernel
theorem dX9_lookedAtAhead_37 : decode cX9_lookedAtAhead 37 = .ok (.aload_n 1, 1) := by decide +kernel
theorem dX9_lookedAtAhead_38 : decode cX9_lookedAtAhead 38 = .ok (.getfield 68, 3) := by decide +kernel
theorem dX9_lookedAtAhead_41 : decode cX9_lookedAtAhead 41 = .ok (.iload_n 2, 1) := by decide +kernel
theorem dX9_lookedAtAhead_42 : decode cX9_lookedAtAhead 42 = .ok (.iaload, 1) := by decide +kernel
theorem dX9_lookedAtAhead_43 : decode cX9_lookedAtAhead 43 = .ok (.if_icmp .ne 13, 3) := by decide +kernel
theorem dX9_lookedAtAhead_46 : decode cX9_lookedAtAhead 46 = .ok (.iload 4, 2) := by decide +kernel
theorem dX9_lookedAtAhead_48 : decode cX9_lookedAtAhead 48 = .ok (.iload_n 2, 1) := by decide +kernel
theorem dX9_lookedAtAhead_49 : decode cX9_lookedAtAhead 49 = .ok (.if_icmp .ge 7, 3) := by decide +kernel
theorem dX9_lookedAtAhead_52 : decode cX9_lookedAtAhead 52 = .ok (.iconst 1, 1) := by decide +kernel
theorem dX9_lookedAtAhead_53 : decode cX9_lookedAtAhead 53 = .ok (.goto 4, 3) := by decide +kernel
theorem dX9_lookedAtAhead_56 : decode cX9_lookedAtAhead 56 = .ok (.iconst 0, 1) := by decide +kernel
theorem dX9_lookedAtAhead_57 : decode cX9_lookedAtAhead 57 = .ok (.istore 5, 2) := by decide +kernel
theorem dX9_lookedAtAhead_59 : decode cX9_lookedAtAhead 59 = .ok (.iload 5, 2) := by decide +kernel
theorem dX9_lookedAtAhead_61 : decode cX9_lookedAtAhead 61 = .ok (.ifCond .eq 15, 3) := by decide +kernel
theorem dX9_lookedAtAhead_64 : decode cX9_lookedAtAhead 64 = .ok (.aload_n 1, 1) := by decide +kernel
theorem dX9_lookedAtAhead_65 : decode cX9_lookedAtAhead 65 = .ok (.iload 4, 2) := by decide +kernel
theorem dX9_lookedAtAhead_67 : decode cX9_lookedAtAhead 67 = .ok (.invokevirtual 104, 3) := by decide +kernel
theorem dX9_lookedAtAhead_70 : decode cX9_lookedAtAhead 70 = .ok (.ifCond .ne 6, 3) := by decide +kernel
theorem dX9_lookedAtAhead_73 : decode cX9_lookedAtAhead 73 = .ok (.iinc 3 1, 3) := by decide +kernel
theorem dX9_lookedAtAhead_76 : decode cX9_lookedAtAhead 76 = .ok (.iinc 4 1, 3) := by decide +kernel
theorem dX9_lookedAtAhead_79 : decode cX9_lookedAtAhead 79 = .ok (.goto (-74), 3) := by decide +kernel
theorem dX9_lookedAtAhead_82 : decode cX9_lookedAtAhead 82 = .ok (.iload_n 3, 1) := by decide +kernel
theorem dX9_lookedAtAhead_83 : decode cX9_lookedAtAhead 83 = .ok (.ireturn, 1) := by decide +kernel
theorem dX9_pass_0 : decode cX9_pass 0 = .ok (.iconst 0, 1) := by decide +kernel
theorem dX9_pass_1 : decode cX9_pass 1 = .ok (.istore_n 3, 1) := by decide +kernel
theorem dX9_pass_2 : decode cX9_pass 2 = .ok (.iconst 0, 1) := by decide +kernel
theorem dX9_pass_3 : decode cX9_pass 3 = .ok (.istore 4, 2) := by decide +kernel
theorem dX9_pass_5 : decode cX9_pass 5 = .ok (.iload 4, 2) := by decide +kernel
theorem dX9_pass_7 : decode cX9_pass 7 = .ok (.iload_n 2, 1) := by decide +kernel
theorem dX9_pass_8 : decode cX9_pass 8 = .ok (.if_icmp .ge 25, 3) := by decide +kernel
theorem dX9_pass_11 : decode cX9_pass 11 = .ok (.iload_n 3, 1) := by decide +kernel
theorem dX9_pass_12 : decode cX9_pass 12 = .ok (.aload_n 0, 1) := by decide +kernel
theorem dX9_pass_13 : decode cX9_pass 13 = .ok (.aload_n 1, 1) := by decide +kernel
theorem dX9_pass_14 : decode cX9_pass 14 = .ok (.aload_n 1, 1) := by decide +kernel
theorem dX9_pass_15 : decode cX9_pass 15 = .ok (.getfield 74, 3) := by decide +kernel
theorem dX9_pass_18 : decode cX9_pass 18 = .ok (.getfield 119, 3) := by decide +kernel
theorem dX9_pass_21 : decode cX9_pass 21 = .ok (.iconst (-1), 1) := by decide +kernel
theorem dX9_pass_22 : decode cX9_pass 22 = .ok (.invokevirtual 122, 3) := by decide +kernel
theorem dX9_pass_25 : decode cX9_pass 25 = .ok (.ior, 1) := by decide +kernel
theorem dX9_pass_26 : decode cX9_pass 26 = .ok (.istore_n 3, 1) := by decide +kernel
theorem dX9_pass_27 : decode cX9_pass 27 = .ok (.iinc 4 1, 3) := by decide +kernel
theorem dX9_pass_30 : decode cX9_pass 30 = .ok (.goto (-25), 3) := by decide +kernel
theorem dX9_pass_33 : decode cX9_pass 33 = .ok (.iload_n 3, 1) := by decide +kernel
theorem dX9_pass_34 : decode cX9_pass 34 = .ok (.ireturn, 1) := by decide +kernel
theorem dX9_untilWall_0 : decode cX9_untilWall 0 = .ok (.iconst 0, 1) := by decide +kernel
theorem dX9_untilWall_1 : decode cX9_untilWall 1 = .ok (.istore_n 3, 1) := by decide +kernel
theorem dX9_untilWall_2 : decode cX9_untilWall 2 = .ok (.iload_n 3, 1) := by decide +kernel
theorem dX9_untilWall_3 : decode cX9_untilWall 3 = .ok (.bipush 60, 2) := by decide +kernel
theorem dX9_untilWall_5 : decode cX9_untilWall 5 = .ok (.if_icmp .gt 34, 3) := by decide +kernel
theorem dX9_untilWall_8 : decode cX9_untilWall 8 = .ok (.aload_n 1, 1) := by decide +kernel
theorem dX9_untilWall_9 : decode cX9_untilWall 9 = .ok (.getfield 110, 3) := by decide +kernel
theorem dX9_untilWall_12 : decode cX9_untilWall 12 = .ok (.iload_n 2, 1) := by decide +kernel
theorem dX9_untilWall_13 : decode cX9_untilWall 13 = .ok (.iand, 1) := by decide +kernel
theorem dX9_untilWall_14 : decode cX9_untilWall 14 = .ok (.ifCond .eq 5, 3) := by decide +kernel
theorem dX9_untilWall_17 : decode cX9_untilWall 17 = .ok (.iload_n 3, 1) := by decide +kernel
theorem dX9_untilWall_18 : decode cX9_untilWall 18 = .ok (.ireturn, 1) := by decide +kernel
theorem dX9_untilWall_19 : decode cX9_untilWall 19 = .ok (.aload_n 0, 1) := by decide +kernel
theorem dX9_untilWall_20 : decode cX9_untilWall 20 = .ok (.aload_n 1, 1) := by decide +kernel
theorem dX9_untilWall_21 : decode cX9_untilWall 21 = .ok (.aload_n 1, 1) := by decide +kernel
theorem dX9_untilWall_22 : decode cX9_untilWall 22 = .ok (.getfield 74, 3) := by decide +kernel
theorem dX9_untilWall_25 : decode cX9_untilWall 25 = .ok (.getfield 119, 3) := by decide +kernel
theorem dX9_untilWall_28 : decode cX9_untilWall 28 = .ok (.iconst (-1), 1) := by decide +kernel
theorem dX9_untilWall_29 : decode cX9_untilWall 29 = .ok (.invokevirtual 122, 3) := by decide +kernel
theorem dX9_untilWall_32 : decode cX9_untilWall 32 = .ok (.pop, 1) := by decide +kernel
theorem dX9_untilWall_33 : decode cX9_untilWall 33 = .ok (.iinc 3 1, 3) := by decide +kernel
theorem dX9_untilWall_36 : decode cX9_untilWall 36 = .ok (.goto (-34), 3) := by decide +kernel
theorem dX9_untilWall_39 : decode cX9_untilWall 39 = .ok (.bipush (-5), 2) := by decide +kernel
theorem dX9_untilWall_41 : decode cX9_untilWall 41 = .ok (.ireturn, 1) := by decide +kernel
theorem dX10_init_0 : decode cX10_init 0 = .ok (.aload_n 0, 1) := by decide +kernel
theorem dX10_init_1 : decode cX10_init 1 = .ok (.invokespecial 3, 3) := by decide +kernel
theorem dX10_init_4 : decode cX10_init 4 = .ok (.aload_n 0, 1) := by decide +kernel
theorem dX10_init_5 : decode cX10_init 5 = .ok (.bipush 10, 2) := by decide +kernel
theorem dX10_init_7 : decode cX10_init 7 = .ok (.newarray .int, 2) := by decide +kernel
theorem dX10_init_9 : decode cX10_init 9 = .ok (.putfield 11, 3) := by decide +kernel
theorem dX10_init_12 : decode cX10_init 12 = .ok (.aload_n 0, 1) := by decide +kernel
theorem dX10_init_13 : decode cX10_init 13 = .ok (.bipush 10, 2) := by decide +kernel
theorem dX10_init_15 : decode cX10_init 15 = .ok (.newarray .int, 2) := by decide +kernel
theorem dX10_init_17 : decode cX10_init 17 = .ok (.putfield 15, 3) := by decide +kernel
theorem dX10_init_20 : decode cX10_init 20 = .ok (.aload_n 0, 1) := by decide +kernel
theorem dX10_init_21 : decode cX10_init 21 = .ok (.bipush 10, 2) := by decide +kernel
theorem dX10_init_23 : decode cX10_init 23 = .ok (.newarray .int, 2) := by decide +kernel
theorem dX10_init_25 : decode cX10_init 25 = .ok (.putfield 18, 3) := by decide +kernel
theorem dX10_init_28 : decode cX10_init 28 = .ok (.aload_n 0, 1) := by decide +kernel
theorem dX10_init_29 : decode cX10_init 29 = .ok (.bipush 10, 2) := by decide +kernel
theorem dX10_init_31 : decode cX10_init 31 = .ok (.newarray .int, 2) := by decide +kernel
theorem dX10_init_33 : decode cX10_init 33 = .ok (.putfield 21, 3) := by decide +kernel
theorem dX10_init_36 : decode cX10_init 36 = .ok (.aload_n 0, 1) := by decide +kernel
theorem dX10_init_37 : decode cX10_init 37 = .ok (.bipush 100, 2) := by decide +kernel
theorem dX10_init_39 : decode cX10_init 39 = .ok (.newarray .int, 2) := by decide +kernel
theorem dX10_init_41 : decode cX10_init 41 = .ok (.putfield 24, 3) := by decide +kernel
theorem dX10_init_44 : decode cX10_init 44 = .ok (.aload_n 0, 1) := by decide +kernel
theorem dX10_init_45 : decode cX10_init 45 = .ok (.bipush 40, 2) := by decide +kernel
theorem dX10_init_47 : decode cX10_init 47 = .ok (.putfield 27, 3) := by decide +kernel
theorem dX10_init_50 : decode cX10_init 50 = .ok (.aload_n 0, 1) := by decide +kernel
theorem dX10_init_51 : decode cX10_init 51 = .ok (.iconst 3, 1) := by decide +kernel
theorem dX10_init_52 : decode cX10_init 52 = .ok (.putfield 31, 3) := by decide +kernel
theorem dX10_init_55 : decode cX10_init 55 = .ok (.aload_n 0, 1) := by decide +kernel
theorem dX10_init_56 : decode cX10_init 56 = .ok (.bipush 9, 2) := by decide +kernel
theorem dX10_init_58 : decode cX10_init 58 = .ok (.putfield 34, 3) := by decide +kernel
theorem dX10_init_61 : decode cX10_init 61 = .ok (.aload_n 0, 1) := by decide +kernel
theorem dX10_init_62 : decode cX10_init 62 = .ok (.aload_n 1, 1) := by decide +kernel
theorem dX10_init_63 : decode cX10_init 63 = .ok (.putfield 37, 3) := by decide +kernel
theorem dX10_init_66 : decode cX10_init 66 = .ok (.return_, 1) := by decide +kernel
theorem dX10_faultOf_0 : decode cX10_faultOf 0 = .ok (.aload_n 0, 1) := by decide +kernel
theorem dX10_faultOf_1 : decode cX10_faultOf 1 = .ok (.iload_n 1, 1) := by decide +kernel
theorem dX10_faultOf_2 : decode cX10_faultOf 2 = .ok (.putfield 41, 3) := by decide +kernel
theorem dX10_faultOf_5 : decode cX10_faultOf 5 = .ok (.aload_n 0, 1) := by decide +kernel
theorem dX10_faultOf_6 : decode cX10_faultOf 6 = .ok (.iconst 0, 1) := by decide +kernel
theorem dX10_faultOf_7 : decode cX10_faultOf 7 = .ok (.putfield 44, 3) := by decide +kernel
theorem dX10_faultOf_10 : decode cX10_faultOf 10 = .ok (.aload_n 0, 1) := by decide +kernel
theorem dX10_faultOf_11 : decode cX10_faultOf 11 = .ok (.iconst 0, 1) := by decide +kernel
theorem dX10_faultOf_12 : decode cX10_faultOf 12 = .ok (.putfield 47, 3) := by decide +kernel
theorem dX10_faultOf_15 : decode cX10_faultOf 15 = .ok (.aload_n 0, 1) := by decide +kernel
theorem dX10_faultOf_16 : decode cX10_faultOf 16 = .ok (.iconst 0, 1) := by decide +kernel
theorem dX10_faultOf_17 : decode cX10_faultOf 17 = .ok (.putfield 50, 3) := by decide +kernel
theorem dX10_faultOf_20 : decode cX10_faultOf 20 = .ok (.aload_n 0, 1) := by decide +kernel
theorem dX10_faultOf_21 : decode cX10_faultOf 21 = .ok (.bipush 40, 2) := by decide +kernel
theorem dX10_faultOf_23 : decode cX10_faultOf 23 = .ok (.putfield 27, 3) := by decide +kernel
theorem dX10_faultOf_26 : decode cX10_faultOf 26 = .ok (.aload_n 0, 1) := by decide +kernel
theorem dX10_faultOf_27 : decode cX10_faultOf 27 = .ok (.iconst 3, 1) := by decide +kernel
theorem dX10_faultOf_28 : decode cX10_faultOf 28 = .ok (.putfield 31, 3) := by decide +kernel
theorem dX10_faultOf_31 : decode cX10_faultOf 31 = .ok (.aload_n 0, 1) := by decide +kernel
theorem dX10_faultOf_32 : decode cX10_faultOf 32 = .ok (.bipush 9, 2) := by decide +kernel
theorem dX10_faultOf_34 : decode cX10_faultOf 34 = .ok (.putfield 34, 3) := by decide +kernel
theorem dX10_faultOf_37 : decode cX10_faultOf 37 = .ok (.iconst 0, 1) := by decide +kernel
theorem dX10_faultOf_38 : decode cX10_faultOf 38 = .ok (.istore_n 2, 1) := by decide +kernel
theorem dX10_faultOf_39 : decode cX10_faultOf 39 = .ok (.iload_n 2, 1) := by decide +kernel
theorem dX10_faultOf_40 : decode cX10_faultOf 40 = .ok (.bipush 10, 2) := by decide +kernel
theorem dX10_faultOf_42 : decode cX10_faultOf 42 = .ok (.if_icmp .ge 54, 3) := by decide +kernel
theorem dX10_faultOf_45 : decode cX10_faultOf 45 = .ok (.aload_n 0, 1) := by decide +kernel
theorem dX10_faultOf_46 : decode cX10_faultOf 46 = .ok (.invokevirtual 53, 3) := by decide +kernel
theorem dX10_faultOf_49 : decode cX10_faultOf 49 = .ok (.ifCond .ne 8, 3) := by decide +kernel
theorem dX10_faultOf_52 : decode cX10_faultOf 52 = .ok (.aload_n 0, 1) := by decide +kernel
theorem dX10_faultOf_53 : decode cX10_faultOf 53 = .ok (.getfield 44, 3) := by decide +kernel
theorem dX10_faultOf_56 : decode cX10_faultOf 56 = .ok (.ireturn, 1) := by decide +kernel
theorem dX10_faultOf_57 : decode cX10_faultOf 57 = .ok (.aload_n 0, 1) := by decide +kernel
theorem dX10_faultOf_58 : decode cX10_faultOf 58 = .ok (.getfield 44, 3) := by decide +kernel
theorem dX10_faultOf_61 : decode cX10_faultOf 61 = .ok (.aload_n 0, 1) := by decide +kernel
theorem dX10_faultOf_62 : decode cX10_faultOf 62 = .ok (.getfield 41, 3) := by decide +kernel
theorem dX10_faultOf_65 : decode cX10_faultOf 65 = .ok (.if_icmp .lt 5, 3) := by decide +kernel
theorem dX10_faultOf_68 : decode cX10_faultOf 68 = .ok (.iconst (-1), 1) := by decide +kernel
theorem dX10_faultOf_69 : decode cX10_faultOf 69 = .ok (.ireturn, 1) := by decide +kernel
theorem dX10_faultOf_70 : decode cX10_faultOf 70 = .ok (.iload_n 2, 1) := by decide +kernel
theorem dX10_faultOf_71 : decode cX10_faultOf 71 = .ok (.bipush 9, 2) := by decide +kernel
theorem dX10_faultOf_73 : decode cX10_faultOf 73 = .ok (.if_icmp .eq 12, 3) := by decide +kernel
theorem dX10_faultOf_76 : decode cX10_faultOf 76 = .ok (.aload_n 0, 1) := by decide +kernel
theorem dX10_faultOf_77 : decode cX10_faultOf 77 = .ok (.bipush 59, 2) := by decide +kernel
theorem dX10_faultOf_79 : decode cX10_faultOf 79 = .ok (.invokevirtual 57, 3) := by decide +kernel
theorem dX10_faultOf_82 : decode cX10_faultOf 82 = .ok (.ifCond .ne 8, 3) := by decide +kernel
theorem dX10_faultOf_85 : decode cX10_faultOf 85 = .ok (.aload_n 0, 1) := by decide +kernel
theorem dX10_faultOf_86 : decode cX10_faultOf 86 = .ok (.getfield 44, 3) := by decide +kernel
theorem dX10_faultOf_89 : decode cX10_faultOf 89 = .ok (.ireturn, 1) := by decide +kernel
theorem dX10_faultOf_90 : decode cX10_faultOf 90 = .ok (.iinc 2 1, 3) := by decide +kernel
theorem dX10_faultOf_93 : decode cX10_faultOf 93 = .ok (.goto (-54), 3) := by decide +kernel
theorem dX10_faultOf_96 : decode cX10_faultOf 96 = .ok (.aload_n 0, 1) := by decide +kernel
theorem dX10_faultOf_97 : decode cX10_faultOf 97 = .ok (.getfield 44, 3) := by decide +kernel
theorem dX10_faultOf_100 : decode cX10_faultOf 100 = .ok (.ireturn, 1) := by decide +kernel
theorem dX10_readClause_0 : decode cX10_readClause 0 = .ok (.aload_n 0, 1) := by decide +kernel
theorem dX10_readClause_1 : decode cX10_readClause 1 = .ok (.invokevirtual 61, 3) := by decide +kernel
theorem dX10_readClause_4 : decode cX10_readClause 4 = .ok (.istore_n 1, 1) := by decide +kernel
theorem dX10_readClause_5 : decode cX10_readClause 5 = .ok (.iload_n 1, 1) := by decide +kernel
theorem dX10_readClause_6 : decode cX10_readClause 6 = .ok (.ifCond .lt 12, 3) := by decide +kernel
theorem dX10_readClause_9 : decode cX10_readClause 9 = .ok (.aload_n 0, 1) := by decide +kernel
theorem dX10_readClause_10 : decode cX10_readClause 10 = .ok (.bipush 32, 2) := by decide +kernel
theorem dX10_readClause_12 : decode cX10_readClause 12 = .ok (.invokevirtual 57, 3) := by decide +kernel
theorem dX10_readClause_15 : decode cX10_readClause 15 = .ok (.ifCond .ne 5, 3) := by decide +kernel
theorem dX10_readClause_18 : decode cX10_readClause 18 = .ok (.iconst 0, 1) := by decide +kernel
theorem dX10_readClause_19 : decode cX10_readClause 19 = .ok (.ireturn, 1) := by decide +kernel
theorem dX10_readClause_20 : decode cX10_readClause 20 = .ok (.aload_n 0, 1) := by decide +kernel
theorem dX10_readClause_21 : decode cX10_readClause 21 = .ok (.invokevirtual 65, 3) := by decide +kernel
theorem dX10_readClause_24 : decode cX10_readClause 24 = .ok (.istore_n 2, 1) := by decide +kernel
theorem dX10_readClause_25 : decode cX10_readClause 25 = .ok (.iload_n 2, 1) := by decide +kernel
theorem dX10_readClause_26 : decode cX10_readClause 26 = .ok (.ifCond .ge 5, 3) := by decide +kernel
theorem dX10_readClause_29 : decode cX10_readClause 29 = .ok (.iconst 0, 1) := by decide +kernel
theorem dX10_readClause_30 : decode cX10_readClause 30 = .ok (.ireturn, 1) := by decide +kernel
theorem dX10_readClause_31 : decode cX10_readClause 31 = .ok (.aload_n 0, 1) := by decide +kernel
theorem dX10_readClause_32 : decode cX10_readClause 32 = .ok (.getfield 50, 3) := by decide +kernel
theorem dX10_readClause_35 : decode cX10_readClause 35 = .ok (.istore_n 3, 1) := by decide +kernel
theorem dX10_readClause_36 : decode cX10_readClause 36 = .ok (.iload_n 1, 1) := by decide +kernel
theorem dX10_readClause_37 : decode cX10_readClause 37 = .ok (.ifCond .eq 8, 3) := by decide +kernel
theorem dX10_readClause_40 : decode cX10_readClause 40 = .ok (.iload_n 1, 1) := by decide +kernel
theorem dX10_readClause_41 : decode cX10_readClause 41 = .ok (.iconst 1, 1) := by decide +kernel
theorem dX10_readClause_42 : decode cX10_readClause 42 = .ok (.if_icmp .ne 22, 3) := by decide +kernel
theorem dX10_readClause_45 : decode cX10_readClause 45 = .ok (.aload_n 0, 1) := by decide +kernel
theorem dX10_readClause_46 : decode cX10_readClause 46 = .ok (.bipush 32, 2) := by decide +kernel
theorem dX10_readClause_48 : decode cX10_readClause 48 = .ok (.invokevirtual 57, 3) := by decide +kernel
theorem dX10_readClause_51 : decode cX10_readClause 51 = .ok (.ifCond .eq 11, 3) := by decide +kernel
theorem dX10_readClause_54 : decode cX10_readClause 54 = .ok (.aload_n 0, 1) := by decide +kernel
theorem dX10_readClause_55 : decode cX10_readClause 55 = .ok (.iconst 0, 1) := by decide +kernel
theorem dX10_readClause_56 : decode cX10_readClause 56 = .ok (.invokevirtual 68, 3) := by decide +kernel
theorem dX10_readClause_59 : decode cX10_readClause 59 = .ok (.ifCond .ne 5, 3) := by decide +kernel
theorem dX10_readClause_62 : decode cX10_readClause 62 = .ok (.iconst 0, 1) := by decide +kernel
theorem dX10_readClause_63 : decode cX10_readClause 63 = .ok (.ireturn, 1) := by decide +kernel
theorem dX10_readClause_64 : decode cX10_readClause 64 = .ok (.aload_n 0, 1) := by decide +kernel
theorem dX10_readClause_65 : decode cX10_readClause 65 = .ok (.iload_n 1, 1) := by decide +kernel
theorem dX10_readClause_66 : decode cX10_readClause 66 = .ok (.iload_n 2, 1) := by decide +kernel
theorem dX10_readClause_67 : decode cX10_readClause 67 = .ok (.iload_n 3, 1) := by decide +kernel
theorem dX10_readClause_68 : decode cX10_readClause 68 = .ok (.invokevirtual 72, 3) := by decide +kernel
theorem dX10_readClause_71 : decode cX10_readClause 71 = .ok (.iconst 1, 1) := by decide +kernel
theorem dX10_readClause_72 : decode cX10_readClause 72 = .ok (.ireturn, 1) := by decide +kernel
theorem dX10_addClause_0 : decode cX10_addClause 0 = .ok (.aload_n 0, 1) := by decide +kernel
theorem dX10_addClause_1 : decode cX10_addClause 1 = .ok (.getfield 11, 3) := by decide +kernel
theorem dX10_addClause_4 : decode cX10_addClause 4 = .ok (.aload_n 0, 1) := by decide +kernel
theorem dX10_addClause_5 : decode cX10_addClause 5 = .ok (.getfield 47, 3) := by decide +kernel
theorem dX10_addClause_8 : decode cX10_addClause 8 = .ok (.iload_n 1, 1) := by decide +kernel
theorem dX10_addClause_9 : decode cX10_addClause 9 = .ok (.iastore, 1) := by decide +kernel
theorem dX10_addClause_10 : decode cX10_addClause 10 = .ok (.aload_n 0, 1) := by decide +kernel
theorem dX10_addClause_11 : decode cX10_addClause 11 = .ok (.getfield 15, 3) := by decide +kernel
theorem dX10_addClause_14 : decode cX10_addClause 14 = .ok (.aload_n 0, 1) := by decide +kernel
theorem dX10_addClause_15 : decode cX10_addClause 15 = .ok (.getfield 47, 3) := by decide +kernel
theorem dX10_addClause_18 : decode cX10_addClause 18 = .ok (.iload_n 2, 1) := by decide +kernel
theorem dX10_addClause_19 : decode cX10_addClause 19 = .ok (.iastore, 1) := by decide +kernel
theorem dX10_addClause_20 : decode cX10_addClause 20 = .ok (.aload_n 0, 1) := by decide +kernel
theorem dX10_addClause_21 : decode cX10_addClause 21 = .ok (.getfield 18, 3) := by decide +kernel
theorem dX10_addClause_24 : decode cX10_addClause 24 = .ok (.aload_n 0, 1) := by decide +kernel
theorem dX10_addClause_25 : decode cX10_addClause 25 = .ok (.getfield 47, 3) := by decide +kernel
theorem dX10_addClause_28 : decode cX10_addClause 28 = .ok (.iload_n 3, 1) := by decide +kernel
theorem dX10_addClause_29 : decode cX10_addClause 29 = .ok (.iastore, 1) := by decide +kernel
theorem dX10_addClause_30 : decode cX10_addClause 30 = .ok (.aload_n 0, 1) := by decide +kernel
theorem dX10_addClause_31 : decode cX10_addClause 31 = .ok (.getfield 21, 3) := by decide +kernel
theorem dX10_addClause_34 : decode cX10_addClause 34 = .ok (.aload_n 0, 1) := by decide +kernel
theorem dX10_addClause_35 : decode cX10_addClause 35 = .ok (.getfield 47, 3) := by decide +kernel
theorem dX10_addClause_38 : decode cX10_addClause 38 = .ok (.aload_n 0, 1) := by decide +kernel
theorem dX10_addClause_39 : decode cX10_addClause 39 = .ok (.getfield 50, 3) := by decide +kernel
theorem dX10_addClause_42 : decode cX10_addClause 42 = .ok (.iastore, 1) := by decide +kernel
theorem dX10_addClause_43 : decode cX10_addClause 43 = .ok (.aload_n 0, 1) := by decide +kernel
theorem dX10_addClause_44 : decode cX10_addClause 44 = .ok (.dup, 1) := by decide +kernel
theorem dX10_addClause_45 : decode cX10_addClause 45 = .ok (.getfield 47, 3) := by decide +kernel
theorem dX10_addClause_48 : decode cX10_addClause 48 = .ok (.iconst 1, 1) := by decide +kernel
theorem dX10_addClause_49 : decode cX10_addClause 49 = .ok (.iadd, 1) := by decide +kernel
theorem dX10_addClause_50 : decode cX10_addClause 50 = .ok (.putfield 47, 3) := by decide +kernel
theorem dX10_addClause_53 : decode cX10_addClause 53 = .ok (.iload_n 1, 1) := by decide +kernel
theorem dX10_addClause_54 : decode cX10_addClause 54 = .ok (.tableswitch 59 2 4 #[26, 43, 51], 26) := by decide +kernel
theorem dX10_addClause_80 : decode cX10_addClause 80 = .ok (.aload_n 0, 1) := by decide +kernel
theorem dX10_addClause_81 : decode cX10_addClause 81 = .ok (.iload_n 2, 1) := by decide +kernel
theorem dX10_addClause_82 : decode cX10_addClause 82 = .ok (.iconst 1, 1) := by decide +kernel
theorem dX10_addClause_83 : decode cX10_addClause 83 = .ok (.if_icmp .ge 7, 3) := by decide +kernel
theorem dX10_addClause_86 : decode cX10_addClause 86 = .ok (.iconst 1, 1) := by decide +kernel
theorem dX10_addClause_87 : decode cX10_addClause 87 = .ok (.goto 4, 3) := by decide +kernel
theorem dX10_addClause_90 : decode cX10_addClause 90 = .ok (.iload_n 2, 1) := by decide +kernel
theorem dX10_addClause_91 : decode cX10_addClause 91 = .ok (.putfield 27, 3) := by decide +kernel
theorem dX10_addClause_94 : decode cX10_addClause 94 = .ok (.goto 19, 3) := by decide +kernel
theorem dX10_addClause_97 : decode cX10_addClause 97 = .ok (.aload_n 0, 1) := by decide +kernel
theorem dX10_addClause_98 : decode cX10_addClause 98 = .ok (.iload_n 2, 1) := by decide +kernel
theorem dX10_addClause_99 : decode cX10_addClause 99 = .ok (.putfield 31, 3) := by decide +kernel
theorem dX10_addClause_102 : decode cX10_addClause 102 = .ok (.goto 11, 3) := by decide +kernel
theorem dX10_addClause_105 : decode cX10_addClause 105 = .ok (.aload_n 0, 1) := by decide +kernel
theorem dX10_addClause_106 : decode cX10_addClause 106 = .ok (.iload_n 2, 1) := by decide +kernel
theorem dX10_addClause_107 : decode cX10_addClause 107 = .ok (.putfield 34, 3) := by decide +kernel
theorem dX10_addClause_110 : decode cX10_addClause 110 = .ok (.goto 3, 3) := by decide +kernel
theorem dX10_addClause_113 : decode cX10_addClause 113 = .ok (.return_, 1) := by decide +kernel
theorem dX10_wordOf_0 : decode cX10_wordOf 0 = .ok (.iload_n 0, 1) := by decide +kernel
theorem dX10_wordOf_1 : decode cX10_wordOf 1 = .ok (.tableswitch 43 0 3 #[31, 34, 37, 40], 31) := by decide +kernel
theorem dX10_wordOf_32 : decode cX10_wordOf 32 = .ok (.ldc 76, 2) := by decide +kernel
theorem dX10_wordOf_34 : decode cX10_wordOf 34 = .ok (.areturn, 1) := by decide +kernel
theorem dX10_wordOf_35 : decode cX10_wordOf 35 = .ok (.ldc 78, 2) := by decide +kernel
theorem dX10_wordOf_37 : decode cX10_wordOf 37 = .ok (.areturn, 1) := by decide +kernel
theorem dX10_wordOf_38 : decode cX10_wordOf 38 = .ok (.ldc 80, 2) := by decide +kernel
theorem dX10_wordOf_40 : decode cX10_wordOf 40 = .ok (.areturn, 1) := by decide +kernel
theorem dX10_wordOf_41 : decode cX10_wordOf 41 = .ok (.ldc 81, 2) := by decide +kernel
theorem dX10_wordOf_43 : decode cX10_wordOf 43 = .ok (.areturn, 1) := by decide +kernel
theorem dX10_wordOf_44 : decode cX10_wordOf 44 = .ok (.ldc 82, 2) := by decide +kernel
theorem dX10_wordOf_46 : decode cX10_wordOf 46 = .ok (.areturn, 1) := by decide +kernel
theorem dX10_readWord_0 : decode cX10_readWord 0 = .ok (.iconst 0, 1) := by decide +kernel
theorem dX10_readWord_1 : decode cX10_readWord 1 = .ok (.istore_n 1, 1) := by decide +kernel
theorem dX10_readWord_2 : decode cX10_readWord 2 = .ok (.iconst 0, 1) := by decide +kernel
theorem dX10_readWord_3 : decode cX10_readWord 3 = .ok (.istore_n 2, 1) := by decide +kernel
theorem dX10_readWord_4 : decode cX10_readWord 4 = .ok (.iload_n 2, 1) := by decide +kernel
theorem dX10_readWord_5 : decode cX10_readWord 5 = .ok (.iconst 5, 1) := by decide +kernel
theorem dX10_readWord_6 : decode cX10_readWord 6 = .ok (.if_icmp .ge 50, 3) := by decide +kernel
theorem dX10_readWord_9 : decode cX10_readWord 9 = .ok (.iload_n 2, 1) := by decide +kernel
theorem dX10_readWord_10 : decode cX10_readWord 10 = .ok (.invokestatic 83, 3) := by decide +kernel
theorem dX10_readWord_13 : decode cX10_readWord 13 = .ok (.astore_n 3, 1) := by decide +kernel
theorem dX10_readWord_14 : decode cX10_readWord 14 = .ok (.aload_n 0, 1) := by decide +kernel
theorem dX10_readWord_15 : decode cX10_readWord 15 = .ok (.aload_n 3, 1) := by decide +kernel
theorem dX10_readWord_16 : decode cX10_readWord 16 = .ok (.invokevirtual 87, 3) := by decide +kernel
theorem dX10_readWord_19 : decode cX10_readWord 19 = .ok (.istore 4, 2) := by decide +kernel
theorem dX10_readWord_21 : decode cX10_readWord 21 = .ok (.iload 4, 2) := by decide +kernel
theorem dX10_readWord_23 : decode cX10_readWord 23 = .ok (.aload_n 3, 1) := by decide +kernel
theorem dX10_readWord_24 : decode cX10_readWord 24 = .ok (.invokevirtual 91, 3) := by decide +kernel
theorem dX10_readWord_27 : decode cX10_readWord 27 = .ok (.if_icmp .ne 16, 3) := by decide +kernel
theorem dX10_readWord_30 : decode cX10_readWord 30 = .ok (.aload_n 0, 1) := by decide +kernel
theorem dX10_readWord_31 : decode cX10_readWord 31 = .ok (.dup, 1) := by decide +kernel
theorem dX10_readWord_32 : decode cX10_readWord 32 = .ok (.getfield 44, 3) := by decide +kernel
theorem dX10_readWord_35 : decode cX10_readWord 35 = .ok (.iload 4, 2) := by decide +kernel
theorem dX10_readWord_37 : decode cX10_readWord 37 = .ok (.iadd, 1) := by decide +kernel
theorem dX10_readWord_38 : decode cX10_readWord 38 = .ok (.putfield 44, 3) := by decide +kernel
theorem dX10_readWord_41 : decode cX10_readWord 41 = .ok (.iload_n 2, 1) := by decide +kernel
theorem dX10_readWord_42 : decode cX10_readWord 42 = .ok (.ireturn, 1) := by decide +kernel
theorem dX10_readWord_43 : decode cX10_readWord 43 = .ok (.iload_n 1, 1) := by decide +kernel
theorem dX10_readWord_44 : decode cX10_readWord 44 = .ok (.iload 4, 2) := by decide +kernel
theorem dX10_readWord_46 : decode cX10_readWord 46 = .ok (.invokestatic 96, 3) := by decide +kernel
theorem dX10_readWord_49 : decode cX10_readWord 49 = .ok (.istore_n 1, 1) := by decide +kernel
theorem dX10_readWord_50 : decode cX10_readWord 50 = .ok (.iinc 2 1, 3) := by decide +kernel
theorem dX10_readWord_53 : decode cX10_readWord 53 = .ok (.goto (-49), 3) := by decide +kernel
theorem dX10_readWord_56 : decode cX10_readWord 56 = .ok (.aload_n 0, 1) := by decide +kernel
theorem dX10_readWord_57 : decode cX10_readWord 57 = .ok (.dup, 1) := by decide +kernel
theorem dX10_readWord_58 : decode cX10_readWord 58 = .ok (.getfield 44, 3) := by decide +kernel
theorem dX10_readWord_61 : decode cX10_readWord 61 = .ok (.iload_n 1, 1) := by decide +kernel
theorem dX10_readWord_62 : decode cX10_readWord 62 = .ok (.iadd, 1) := by decide +kernel
theorem dX10_readWord_63 : decode cX10_readWord 63 = .ok (.putfield 44, 3) := by decide +kernel
theorem dX10_readWord_66 : decode cX10_readWord 66 = .ok (.iconst (-1), 1) := by decide +kernel
theorem dX10_readWord_67 : decode cX10_readWord 67 = .ok (.ireturn, 1) := by decide +kernel
theorem dX10_sameAs_0 : decode cX10_sameAs 0 = .ok (.iconst 0, 1) := by decide +kernel
theorem dX10_sameAs_1 : decode cX10_sameAs 1 = .ok (.istore_n 2, 1) := by decide +kernel
theorem dX10_sameAs_2 : decode cX10_sameAs 2 = .ok (.iload_n 2, 1) := by decide +kernel
theorem dX10_sameAs_3 : decode cX10_sameAs 3 = .ok (.aload_n 1, 1) := by decide +kernel
theorem dX10_sameAs_4 : decode cX10_sameAs 4 = .ok (.invokevirtual 91, 3) := by decide +kernel
theorem dX10_sameAs_7 : decode cX10_sameAs 7 = .ok (.if_icmp .ge 29, 3) := by decide +kernel
theorem dX10_sameAs_10 : decode cX10_sameAs 10 = .ok (.aload_n 0, 1) := by decide +kernel
theorem dX10_sameAs_11 : decode cX10_sameAs 11 = .ok (.aload_n 0, 1) := by decide +kernel
theorem dX10_sameAs_12 : decode cX10_sameAs 12 = .ok (.getfield 44, 3) := by decide +kernel
theorem dX10_sameAs_15 : decode cX10_sameAs 15 = .ok (.iload_n 2, 1) := by decide +kernel
theorem dX10_sameAs_16 : decode cX10_sameAs 16 = .ok (.iadd, 1) := by decide +kernel
theorem dX10_sameAs_17 : decode cX10_sameAs 17 = .ok (.invokevirtual 102, 3) := by decide +kernel
theorem dX10_sameAs_20 : decode cX10_sameAs 20 = .ok (.aload_n 1, 1) := by decide +kernel
theorem dX10_sameAs_21 : decode cX10_sameAs 21 = .ok (.iload_n 2, 1) := by decide +kernel
theorem dX10_sameAs_22 : decode cX10_sameAs 22 = .ok (.invokevirtual 106, 3) := by decide +kernel
theorem dX10_sameAs_25 : decode cX10_sameAs 25 = .ok (.if_icmp .eq 5, 3) := by decide +kernel
theorem dX10_sameAs_28 : decode cX10_sameAs 28 = .ok (.iload_n 2, 1) := by decide +kernel
theorem dX10_sameAs_29 : decode cX10_sameAs 29 = .ok (.ireturn, 1) := by decide +kernel
theorem dX10_sameAs_30 : decode cX10_sameAs 30 = .ok (.iinc 2 1, 3) := by decide +kernel
theorem dX10_sameAs_33 : decode cX10_sameAs 33 = .ok (.goto (-31), 3) := by decide +kernel
theorem dX10_sameAs_36 : decode cX10_sameAs 36 = .ok (.aload_n 1, 1) := by decide +kernel
theorem dX10_sameAs_37 : decode cX10_sameAs 37 = .ok (.invokevirtual 91, 3) := by decide +kernel
theorem dX10_sameAs_40 : decode cX10_sameAs 40 = .ok (.ireturn, 1) := by decide +kernel
theorem dX10_signAt_0 : decode cX10_signAt 0 = .ok (.iload_n 1, 1) := by decide +kernel
theorem dX10_signAt_1 : decode cX10_signAt 1 = .ok (.ifCond .lt 29, 3) := by decide +kernel
theorem dX10_signAt_4 : decode cX10_signAt 4 = .ok (.iload_n 1, 1) := by decide +kernel
theorem dX10_signAt_5 : decode cX10_signAt 5 = .ok (.aload_n 0, 1) := by decide +kernel
theorem dX10_signAt_6 : decode cX10_signAt 6 = .ok (.getfield 41, 3) := by decide +kernel
theorem dX10_signAt_9 : decode cX10_signAt 9 = .ok (.if_icmp .ge 21, 3) := by decide +kernel
theorem dX10_signAt_12 : decode cX10_signAt 12 = .ok (.iload_n 1, 1) := by decide +kernel
theorem dX10_signAt_13 : decode cX10_signAt 13 = .ok (.aload_n 0, 1) := by decide +kernel
theorem dX10_signAt_14 : decode cX10_signAt 14 = .ok (.getfield 37, 3) := by decide +kernel
theorem dX10_signAt_17 : decode cX10_signAt 17 = .ok (.arraylength, 1) := by decide +kernel
theorem dX10_signAt_18 : decode cX10_signAt 18 = .ok (.if_icmp .ge 12, 3) := by decide +kernel
theorem dX10_signAt_21 : decode cX10_signAt 21 = .ok (.aload_n 0, 1) := by decide +kernel
theorem dX10_signAt_22 : decode cX10_signAt 22 = .ok (.getfield 37, 3) := by decide +kernel
theorem dX10_signAt_25 : decode cX10_signAt 25 = .ok (.iload_n 1, 1) := by decide +kernel
theorem dX10_signAt_26 : decode cX10_signAt 26 = .ok (.baload, 1) := by decide +kernel
theorem dX10_signAt_27 : decode cX10_signAt 27 = .ok (.goto 4, 3) := by decide +kernel
theorem dX10_signAt_30 : decode cX10_signAt 30 = .ok (.iconst (-1), 1) := by decide +kernel
theorem dX10_signAt_31 : decode cX10_signAt 31 = .ok (.ireturn, 1) := by decide +kernel
theorem dX10_skip_0 : decode cX10_skip 0 = .ok (.aload_n 0, 1) := by decide +kernel
theorem dX10_skip_1 : decode cX10_skip 1 = .ok (.aload_n 0, 1) := by decide +kernel
theorem dX10_skip_2 : decode cX10_skip 2 = .ok (.getfield 44, 3) := by decide +kernel
theorem dX10_skip_5 : decode cX10_skip 5 = .ok (.invokevirtual 102, 3) := by decide +kernel
theorem dX10_skip_8 : decode cX10_skip 8 = .ok (.iload_n 1, 1) := by decide +kernel
theorem dX10_skip_9 : decode cX10_skip 9 = .ok (.if_icmp .eq 5, 3) := by decide +kernel
theorem dX10_skip_12 : decode cX10_skip 12 = .ok (.iconst 0, 1) := by decide +kernel
theorem dX10_skip_13 : decode cX10_skip 13 = .ok (.ireturn, 1) := by decide +kernel
theorem dX10_skip_14 : decode cX10_skip 14 = .ok (.aload_n 0, 1) := by decide +kernel
theorem dX10_skip_15 : decode cX10_skip 15 = .ok (.dup, 1) := by decide +kernel
theorem dX10_skip_16 : decode cX10_skip 16 = .ok (.getfield 44, 3) := by decide +kernel
theorem dX10_skip_19 : decode cX10_skip 19 = .ok (.iconst 1, 1) := by decide +kernel
theorem dX10_skip_20 : decode cX10_skip 20 = .ok (.iadd, 1) := by decide +kernel
theorem dX10_skip_21 : decode cX10_skip 21 = .ok (.putfield 44, 3) := by decide +kernel
theorem dX10_skip_24 : decode cX10_skip 24 = .ok (.iconst 1, 1) := by decide +kernel
theorem dX10_skip_25 : decode cX10_skip 25 = .ok (.ireturn, 1) := by decide +kernel
theorem dX10_isDigit_0 : decode cX10_isDigit 0 = .ok (.iload_n 0, 1) := by decide +kernel
theorem dX10_isDigit_1 : decode cX10_isDigit 1 = .ok (.bipush 48, 2) := by decide +kernel
theorem dX10_isDigit_3 : decode cX10_isDigit 3 = .ok (.if_icmp .lt 13, 3) := by decide +kernel
theorem dX10_isDigit_6 : decode cX10_isDigit 6 = .ok (.iload_n 0, 1) := by decide +kernel
theorem dX10_isDigit_7 : decode cX10_isDigit 7 = .ok (.bipush 57, 2) := by decide +kernel
theorem dX10_isDigit_9 : decode cX10_isDigit 9 = .ok (.if_icmp .gt 7, 3) := by decide +kernel
theorem dX10_isDigit_12 : decode cX10_isDigit 12 = .ok (.iconst 1, 1) := by decide +kernel
theorem dX10_isDigit_13 : decode cX10_isDigit 13 = .ok (.goto 4, 3) := by decide +kernel
theorem dX10_isDigit_16 : decode cX10_isDigit 16 = .ok (.iconst 0, 1) := by decide +kernel
theorem dX10_isDigit_17 : decode cX10_isDigit 17 = .ok (.ireturn, 1) := by decide +kernel
theorem dX10_readNumber_0 : decode cX10_readNumber 0 = .ok (.aload_n 0, 1) := by decide +kernel
theorem dX10_readNumber_1 : decode cX10_readNumber 1 = .ok (.aload_n 0, 1) := by decide +kernel
theorem dX10_readNumber_2 : decode cX10_readNumber 2 = .ok (.getfield 44, 3) := by decide +kernel
theorem dX10_readNumber_5 : decode cX10_readNumber 5 = .ok (.invokevirtual 102, 3) := by decide +kernel
theorem dX10_readNumber_8 : decode cX10_readNumber 8 = .ok (.istore_n 1, 1) := by decide +kernel
theorem dX10_readNumber_9 : decode cX10_readNumber 9 = .ok (.iload_n 1, 1) := by decide +kernel
theorem dX10_readNumber_10 : decode cX10_readNumber 10 = .ok (.invokestatic 110, 3) := by decide +kernel
theorem dX10_readNumber_13 : decode cX10_readNumber 13 = .ok (.ifCond .ne 5, 3) := by decide +kernel
theorem dX10_readNumber_16 : decode cX10_readNumber 16 = .ok (.iconst (-1), 1) := by decide +kernel
theorem dX10_readNumber_17 : decode cX10_readNumber 17 = .ok (.ireturn, 1) := by decide +kernel
theorem dX10_readNumber_18 : decode cX10_readNumber 18 = .ok (.aload_n 0, 1) := by decide +kernel
theorem dX10_readNumber_19 : decode cX10_readNumber 19 = .ok (.dup, 1) := by decide +kernel
theorem dX10_readNumber_20 : decode cX10_readNumber 20 = .ok (.getfield 44, 3) := by decide +kernel
theorem dX10_readNumber_23 : decode cX10_readNumber 23 = .ok (.iconst 1, 1) := by decide +kernel
theorem dX10_readNumber_24 : decode cX10_readNumber 24 = .ok (.iadd, 1) := by decide +kernel
theorem dX10_readNumber_25 : decode cX10_readNumber 25 = .ok (.putfield 44, 3) := by decide +kernel
theorem dX10_readNumber_28 : decode cX10_readNumber 28 = .ok (.aload_n 0, 1) := by decide +kernel
theorem dX10_readNumber_29 : decode cX10_readNumber 29 = .ok (.aload_n 0, 1) := by decide +kernel
theorem dX10_readNumber_30 : decode cX10_readNumber 30 = .ok (.getfield 44, 3) := by decide +kernel
theorem dX10_readNumber_33 : decode cX10_readNumber 33 = .ok (.invokevirtual 102, 3) := by decide +kernel
theorem dX10_readNumber_36 : decode cX10_readNumber 36 = .ok (.istore_n 2, 1) := by decide +kernel
theorem dX10_readNumber_37 : decode cX10_readNumber 37 = .ok (.iload_n 2, 1) := by decide +kernel
theorem dX10_readNumber_38 : decode cX10_readNumber 38 = .ok (.invokestatic 110, 3) := by decide +kernel
theorem dX10_readNumber_41 : decode cX10_readNumber 41 = .ok (.ifCond .ne 8, 3) := by decide +kernel
theorem dX10_readNumber_44 : decode cX10_readNumber 44 = .ok (.iload_n 1, 1) := by decide +kernel
theorem dX10_readNumber_45 : decode cX10_readNumber 45 = .ok (.bipush 48, 2) := by decide +kernel
theorem dX10_readNumber_47 : decode cX10_readNumber 47 = .ok (.isub, 1) := by decide +kernel
theorem dX10_readNumber_48 : decode cX10_readNumber 48 = .ok (.ireturn, 1) := by decide +kernel
theorem dX10_readNumber_49 : decode cX10_readNumber 49 = .ok (.aload_n 0, 1) := by decide +kernel
theorem dX10_readNumber_50 : decode cX10_readNumber 50 = .ok (.dup, 1) := by decide +kernel
theorem dX10_readNumber_51 : decode cX10_readNumber 51 = .ok (.getfield 44, 3) := by decide +kernel
theorem dX10_readNumber_54 : decode cX10_readNumber 54 = .ok (.iconst 1, 1) := by decide +kernel
theorem dX10_readNumber_55 : decode cX10_readNumber 55 = .ok (.iadd, 1) := by decide +kernel
theorem dX10_readNumber_56 : decode cX10_readNumber 56 = .ok (.putfield 44, 3) := by decide +kernel
theorem dX10_readNumber_59 : decode cX10_readNumber 59 = .ok (.iload_n 1, 1) := by decide +kernel
theorem dX10_readNumber_60 : decode cX10_readNumber 60 = .ok (.bipush 48, 2) := by decide +kernel
theorem dX10_readNumber_62 : decode cX10_readNumber 62 = .ok (.isub, 1) := by decide +kernel
theorem dX10_readNumber_63 : decode cX10_readNumber 63 = .ok (.bipush 10, 2) := by decide +kernel
theorem dX10_readNumber_65 : decode cX10_readNumber 65 = .ok (.imul, 1) := by decide +kernel
theorem dX10_readNumber_66 : decode cX10_readNumber 66 = .ok (.iload_n 2, 1) := by decide +kernel
theorem dX10_readNumber_67 : decode cX10_readNumber 67 = .ok (.iadd, 1) := by decide +kernel
theorem dX10_readNumber_68 : decode cX10_readNumber 68 = .ok (.bipush 48, 2) := by decide +kernel
theorem dX10_readNumber_70 : decode cX10_readNumber 70 = .ok (.isub, 1) := by decide +kernel
theorem dX10_readNumber_71 : decode cX10_readNumber 71 = .ok (.ireturn, 1) := by decide +kernel
theorem dX10_readEither_0 : decode cX10_readEither 0 = .ok (.iconst 0, 1) := by decide +kernel
theorem dX10_readEither_1 : decode cX10_readEither 1 = .ok (.istore_n 2, 1) := by decide +kernel
theorem dX10_readEither_2 : decode cX10_readEither 2 = .ok (.iconst 0, 1) := by decide +kernel
theorem dX10_readEither_3 : decode cX10_readEither 3 = .ok (.istore_n 3, 1) := by decide +kernel
theorem dX10_readEither_4 : decode cX10_readEither 4 = .ok (.iconst 0, 1) := by decide +kernel
theorem dX10_readEither_5 : decode cX10_readEither 5 = .ok (.istore 4, 2) := by decide +kernel
theorem dX10_readEither_7 : decode cX10_readEither 7 = .ok (.iload 4, 2) := by decide +kernel
theorem dX10_readEither_9 : decode cX10_readEither 9 = .ok (.bipush 100, 2) := by decide +kernel
theorem dX10_readEither_11 : decode cX10_readEither 11 = .ok (.if_icmp .ge 66, 3) := by decide +kernel
theorem dX10_readEither_14 : decode cX10_readEither 14 = .ok (.aload_n 0, 1) := by decide +kernel
theorem dX10_readEither_15 : decode cX10_readEither 15 = .ok (.iload_n 1, 1) := by decide +kernel
theorem dX10_readEither_16 : decode cX10_readEither 16 = .ok (.invokevirtual 113, 3) := by decide +kernel
theorem dX10_readEither_19 : decode cX10_readEither 19 = .ok (.ifCond .ne 5, 3) := by decide +kernel
theorem dX10_readEither_22 : decode cX10_readEither 22 = .ok (.iconst 0, 1) := by decide +kernel
theorem dX10_readEither_23 : decode cX10_readEither 23 = .ok (.ireturn, 1) := by decide +kernel
theorem dX10_readEither_24 : decode cX10_readEither 24 = .ok (.iload_n 2, 1) := by decide +kernel
theorem dX10_readEither_25 : decode cX10_readEither 25 = .ok (.ifCond .eq 9, 3) := by decide +kernel
theorem dX10_readEither_28 : decode cX10_readEither 28 = .ok (.aload_n 0, 1) := by decide +kernel
theorem dX10_readEither_29 : decode cX10_readEither 29 = .ok (.bipush (-2), 2) := by decide +kernel
theorem dX10_readEither_31 : decode cX10_readEither 31 = .ok (.invokevirtual 116, 3) := by decide +kernel
theorem dX10_readEither_34 : decode cX10_readEither 34 = .ok (.aload_n 0, 1) := by decide +kernel
theorem dX10_readEither_35 : decode cX10_readEither 35 = .ok (.bipush 38, 2) := by decide +kernel
theorem dX10_readEither_37 : decode cX10_readEither 37 = .ok (.invokevirtual 57, 3) := by decide +kernel
theorem dX10_readEither_40 : decode cX10_readEither 40 = .ok (.istore_n 2, 1) := by decide +kernel
theorem dX10_readEither_41 : decode cX10_readEither 41 = .ok (.iload_n 2, 1) := by decide +kernel
theorem dX10_readEither_42 : decode cX10_readEither 42 = .ok (.ifCond .eq 6, 3) := by decide +kernel
theorem dX10_readEither_45 : decode cX10_readEither 45 = .ok (.goto 26, 3) := by decide +kernel
theorem dX10_readEither_48 : decode cX10_readEither 48 = .ok (.iload_n 3, 1) := by decide +kernel
theorem dX10_readEither_49 : decode cX10_readEither 49 = .ok (.ifCond .eq 9, 3) := by decide +kernel
theorem dX10_readEither_52 : decode cX10_readEither 52 = .ok (.aload_n 0, 1) := by decide +kernel
theorem dX10_readEither_53 : decode cX10_readEither 53 = .ok (.bipush (-3), 2) := by decide +kernel
theorem dX10_readEither_55 : decode cX10_readEither 55 = .ok (.invokevirtual 116, 3) := by decide +kernel
theorem dX10_readEither_58 : decode cX10_readEither 58 = .ok (.aload_n 0, 1) := by decide +kernel
theorem dX10_readEither_59 : decode cX10_readEither 59 = .ok (.bipush 124, 2) := by decide +kernel
theorem dX10_readEither_61 : decode cX10_readEither 61 = .ok (.invokevirtual 57, 3) := by decide +kernel
theorem dX10_readEither_64 : decode cX10_readEither 64 = .ok (.istore_n 3, 1) := by decide +kernel
theorem dX10_readEither_65 : decode cX10_readEither 65 = .ok (.iload_n 3, 1) := by decide +kernel
theorem dX10_readEither_66 : decode cX10_readEither 66 = .ok (.ifCond .ne 5, 3) := by decide +kernel
theorem dX10_readEither_69 : decode cX10_readEither 69 = .ok (.iconst 1, 1) := by decide +kernel
theorem dX10_readEither_70 : decode cX10_readEither 70 = .ok (.ireturn, 1) := by decide +kernel
theorem dX10_readEither_71 : decode cX10_readEither 71 = .ok (.iinc 4 1, 3) := by decide +kernel
theorem dX10_readEither_74 : decode cX10_readEither 74 = .ok (.goto (-67), 3) := by decide +kernel
theorem dX10_readEither_77 : decode cX10_readEither 77 = .ok (.iconst 0, 1) := by decide +kernel
theorem dX10_readEither_78 : decode cX10_readEither 78 = .ok (.ireturn, 1) := by decide +kernel
theorem dX10_readPart_0 : decode cX10_readPart 0 = .ok (.aload_n 0, 1) := by decide +kernel
theorem dX10_readPart_1 : decode cX10_readPart 1 = .ok (.aload_n 0, 1) := by decide +kernel
theorem dX10_readPart_2 : decode cX10_readPart 2 = .ok (.getfield 44, 3) := by decide +kernel
theorem dX10_readPart_5 : decode cX10_readPart 5 = .ok (.invokevirtual 102, 3) := by decide +kernel
theorem dX10_readPart_8 : decode cX10_readPart 8 = .ok (.istore_n 2, 1) := by decide +kernel
theorem dX10_readPart_9 : decode cX10_readPart 9 = .ok (.iload_n 2, 1) := by decide +kernel
theorem dX10_readPart_10 : decode cX10_readPart 10 = .ok (.bipush 33, 2) := by decide +kernel
theorem dX10_readPart_12 : decode cX10_readPart 12 = .ok (.if_icmp .eq 14, 3) := by decide +kernel
theorem dX10_readPart_15 : decode cX10_readPart 15 = .ok (.iload_n 2, 1) := by decide +kernel
theorem dX10_readPart_16 : decode cX10_readPart 16 = .ok (.bipush 40, 2) := by decide +kernel
theorem dX10_readPart_18 : decode cX10_readPart 18 = .ok (.if_icmp .eq 8, 3) := by decide +kernel
theorem dX10_readPart_21 : decode cX10_readPart 21 = .ok (.aload_n 0, 1) := by decide +kernel
theorem dX10_readPart_22 : decode cX10_readPart 22 = .ok (.invokevirtual 120, 3) := by decide +kernel
theorem dX10_readPart_25 : decode cX10_readPart 25 = .ok (.ireturn, 1) := by decide +kernel
theorem dX10_readPart_26 : decode cX10_readPart 26 = .ok (.iload_n 1, 1) := by decide +kernel
theorem dX10_readPart_27 : decode cX10_readPart 27 = .ok (.iconst 4, 1) := by decide +kernel
theorem dX10_readPart_28 : decode cX10_readPart 28 = .ok (.if_icmp .lt 5, 3) := by decide +kernel
theorem dX10_readPart_31 : decode cX10_readPart 31 = .ok (.iconst 0, 1) := by decide +kernel
theorem dX10_readPart_32 : decode cX10_readPart 32 = .ok (.ireturn, 1) := by decide +kernel
theorem dX10_readPart_33 : decode cX10_readPart 33 = .ok (.aload_n 0, 1) := by decide +kernel
theorem dX10_readPart_34 : decode cX10_readPart 34 = .ok (.dup, 1) := by decide +kernel
theorem dX10_readPart_35 : decode cX10_readPart 35 = .ok (.getfield 44, 3) := by decide +kernel
theorem dX10_readPart_38 : decode cX10_readPart 38 = .ok (.iconst 1, 1) := by decide +kernel
theorem dX10_readPart_39 : decode cX10_readPart 39 = .ok (.iadd, 1) := by decide +kernel
theorem dX10_readPart_40 : decode cX10_readPart 40 = .ok (.putfield 44, 3) := by decide +kernel
theorem dX10_readPart_43 : decode cX10_readPart 43 = .ok (.iload_n 2, 1) := by decide +kernel
theorem dX10_readPart_44 : decode cX10_readPart 44 = .ok (.bipush 40, 2) := by decide +kernel
theorem dX10_readPart_46 : decode cX10_readPart 46 = .ok (.if_icmp .ne 28, 3) := by decide +kernel
theorem dX10_readPart_49 : decode cX10_readPart 49 = .ok (.aload_n 0, 1) := by decide +kernel
theorem dX10_readPart_50 : decode cX10_readPart 50 = .ok (.iload_n 1, 1) := by decide +kernel
theorem dX10_readPart_51 : decode cX10_readPart 51 = .ok (.iconst 1, 1) := by decide +kernel
theorem dX10_readPart_52 : decode cX10_readPart 52 = .ok (.iadd, 1) := by decide +kernel
theorem dX10_readPart_53 : decode cX10_readPart 53 = .ok (.invokevirtual 68, 3) := by decide +kernel
theorem dX10_readPart_56 : decode cX10_readPart 56 = .ok (.ifCond .eq 16, 3) := by decide +kernel
theorem dX10_readPart_59 : decode cX10_readPart 59 = .ok (.aload_n 0, 1) := by decide +kernel
theorem dX10_readPart_60 : decode cX10_readPart 60 = .ok (.bipush 41, 2) := by decide +kernel
theorem dX10_readPart_62 : decode cX10_readPart 62 = .ok (.invokevirtual 57, 3) := by decide +kernel
theorem dX10_readPart_65 : decode cX10_readPart 65 = .ok (.ifCond .eq 7, 3) := by decide +kernel
theorem dX10_readPart_68 : decode cX10_readPart 68 = .ok (.iconst 1, 1) := by decide +kernel
theorem dX10_readPart_69 : decode cX10_readPart 69 = .ok (.goto 4, 3) := by decide +kernel
theorem dX10_readPart_72 : decode cX10_readPart 72 = .ok (.iconst 0, 1) := by decide +kernel
theorem dX10_readPart_73 : decode cX10_readPart 73 = .ok (.ireturn, 1) := by decide +kernel
theorem dX10_readPart_74 : decode cX10_readPart 74 = .ok (.aload_n 0, 1) := by decide +kernel
theorem dX10_readPart_75 : decode cX10_readPart 75 = .ok (.iload_n 1, 1) := by decide +kernel
theorem dX10_readPart_76 : decode cX10_readPart 76 = .ok (.iconst 1, 1) := by decide +kernel
theorem dX10_readPart_77 : decode cX10_readPart 77 = .ok (.iadd, 1) := by decide +kernel
theorem dX10_readPart_78 : decode cX10_readPart 78 = .ok (.invokevirtual 113, 3) := by decide +kernel
theorem dX10_readPart_81 : decode cX10_readPart 81 = .ok (.ifCond .ne 5, 3) := by decide +kernel
theorem dX10_readPart_84 : decode cX10_readPart 84 = .ok (.iconst 0, 1) := by decide +kernel
theorem dX10_readPart_85 : decode cX10_readPart 85 = .ok (.ireturn, 1) := by decide +kernel
theorem dX10_readPart_86 : decode cX10_readPart 86 = .ok (.aload_n 0, 1) := by decide +kernel
theorem dX10_readPart_87 : decode cX10_readPart 87 = .ok (.iconst (-1), 1) := by decide +kernel
theorem dX10_readPart_88 : decode cX10_readPart 88 = .ok (.invokevirtual 116, 3) := by decide +kernel
theorem dX10_readPart_91 : decode cX10_readPart 91 = .ok (.iconst 1, 1) := by decide +kernel
theorem dX10_readPart_92 : decode cX10_readPart 92 = .ok (.ireturn, 1) := by decide +kernel
theorem dX10_readTest_0 : decode cX10_readTest 0 = .ok (.aload_n 0, 1) := by decide +kernel
theorem dX10_readTest_1 : decode cX10_readTest 1 = .ok (.ldc 123, 2) := by decide +kernel
theorem dX10_readTest_3 : decode cX10_readTest 3 = .ok (.invokevirtual 125, 3) := by decide +kernel
theorem dX10_readTest_6 : decode cX10_readTest 6 = .ok (.istore_n 1, 1) := by decide +kernel
theorem dX10_readTest_7 : decode cX10_readTest 7 = .ok (.iload_n 1, 1) := by decide +kernel
theorem dX10_readTest_8 : decode cX10_readTest 8 = .ok (.ifCond .ge 5, 3) := by decide +kernel
theorem dX10_readTest_11 : decode cX10_readTest 11 = .ok (.iconst 0, 1) := by decide +kernel
theorem dX10_readTest_12 : decode cX10_readTest 12 = .ok (.ireturn, 1) := by decide +kernel
theorem dX10_readTest_13 : decode cX10_readTest 13 = .ok (.aload_n 0, 1) := by decide +kernel
theorem dX10_readTest_14 : decode cX10_readTest 14 = .ok (.ldc 128, 2) := by decide +kernel
theorem dX10_readTest_16 : decode cX10_readTest 16 = .ok (.invokevirtual 125, 3) := by decide +kernel
theorem dX10_readTest_19 : decode cX10_readTest 19 = .ok (.istore_n 2, 1) := by decide +kernel
theorem dX10_readTest_20 : decode cX10_readTest 20 = .ok (.iload_n 2, 1) := by decide +kernel
theorem dX10_readTest_21 : decode cX10_readTest 21 = .ok (.ifCond .ge 5, 3) := by decide +kernel
theorem dX10_readTest_24 : decode cX10_readTest 24 = .ok (.iconst 0, 1) := by decide +kernel
theorem dX10_readTest_25 : decode cX10_readTest 25 = .ok (.ireturn, 1) := by decide +kernel
theorem dX10_readTest_26 : decode cX10_readTest 26 = .ok (.aload_n 0, 1) := by decide +kernel
theorem dX10_readTest_27 : decode cX10_readTest 27 = .ok (.invokevirtual 65, 3) := by decide +kernel
theorem dX10_readTest_30 : decode cX10_readTest 30 = .ok (.istore_n 3, 1) := by decide +kernel
theorem dX10_readTest_31 : decode cX10_readTest 31 = .ok (.iload_n 3, 1) := by decide +kernel
theorem dX10_readTest_32 : decode cX10_readTest 32 = .ok (.ifCond .ge 5, 3) := by decide +kernel
theorem dX10_readTest_35 : decode cX10_readTest 35 = .ok (.iconst 0, 1) := by decide +kernel
theorem dX10_readTest_36 : decode cX10_readTest 36 = .ok (.ireturn, 1) := by decide +kernel
theorem dX10_readTest_37 : decode cX10_readTest 37 = .ok (.aload_n 0, 1) := by decide +kernel
theorem dX10_readTest_38 : decode cX10_readTest 38 = .ok (.iload_n 1, 1) := by decide +kernel
theorem dX10_readTest_39 : decode cX10_readTest 39 = .ok (.iconst 3, 1) := by decide +kernel
theorem dX10_readTest_40 : decode cX10_readTest 40 = .ok (.imul, 1) := by decide +kernel
theorem dX10_readTest_41 : decode cX10_readTest 41 = .ok (.iload_n 2, 1) := by decide +kernel
theorem dX10_readTest_42 : decode cX10_readTest 42 = .ok (.iadd, 1) := by decide +kernel
theorem dX10_readTest_43 : decode cX10_readTest 43 = .ok (.bipush 100, 2) := by decide +kernel
theorem dX10_readTest_45 : decode cX10_readTest 45 = .ok (.imul, 1) := by decide +kernel
theorem dX10_readTest_46 : decode cX10_readTest 46 = .ok (.iload_n 3, 1) := by decide +kernel
theorem dX10_readTest_47 : decode cX10_readTest 47 = .ok (.iadd, 1) := by decide +kernel
theorem dX10_readTest_48 : decode cX10_readTest 48 = .ok (.invokevirtual 116, 3) := by decide +kernel
theorem dX10_readTest_51 : decode cX10_readTest 51 = .ok (.iconst 1, 1) := by decide +kernel
theorem dX10_readTest_52 : decode cX10_readTest 52 = .ok (.ireturn, 1) := by decide +kernel
theorem dX10_readOneOf_0 : decode cX10_readOneOf 0 = .ok (.aload_n 0, 1) := by decide +kernel
theorem dX10_readOneOf_1 : decode cX10_readOneOf 1 = .ok (.aload_n 0, 1) := by decide +kernel
theorem dX10_readOneOf_2 : decode cX10_readOneOf 2 = .ok (.getfield 44, 3) := by decide +kernel
theorem dX10_readOneOf_5 : decode cX10_readOneOf 5 = .ok (.invokevirtual 102, 3) := by decide +kernel
theorem dX10_readOneOf_8 : decode cX10_readOneOf 8 = .ok (.istore_n 2, 1) := by decide +kernel
theorem dX10_readOneOf_9 : decode cX10_readOneOf 9 = .ok (.iload_n 2, 1) := by decide +kernel
theorem dX10_readOneOf_10 : decode cX10_readOneOf 10 = .ok (.ifCond .ge 7, 3) := by decide +kernel
theorem dX10_readOneOf_13 : decode cX10_readOneOf 13 = .ok (.iconst (-1), 1) := by decide +kernel
theorem dX10_readOneOf_14 : decode cX10_readOneOf 14 = .ok (.goto 9, 3) := by decide +kernel
theorem dX10_readOneOf_17 : decode cX10_readOneOf 17 = .ok (.aload_n 1, 1) := by decide +kernel
theorem dX10_readOneOf_18 : decode cX10_readOneOf 18 = .ok (.iload_n 2, 1) := by decide +kernel
theorem dX10_readOneOf_19 : decode cX10_readOneOf 19 = .ok (.i2c, 1) := by decide +kernel
theorem dX10_readOneOf_20 : decode cX10_readOneOf 20 = .ok (.invokevirtual 130, 3) := by decide +kernel
theorem dX10_readOneOf_23 : decode cX10_readOneOf 23 = .ok (.istore_n 3, 1) := by decide +kernel
theorem dX10_readOneOf_24 : decode cX10_readOneOf 24 = .ok (.iload_n 3, 1) := by decide +kernel
theorem dX10_readOneOf_25 : decode cX10_readOneOf 25 = .ok (.ifCond .lt 13, 3) := by decide +kernel
theorem dX10_readOneOf_28 : decode cX10_readOneOf 28 = .ok (.aload_n 0, 1) := by decide +kernel
theorem dX10_readOneOf_29 : decode cX10_readOneOf 29 = .ok (.dup, 1) := by decide +kernel
theorem dX10_readOneOf_30 : decode cX10_readOneOf 30 = .ok (.getfield 44, 3) := by decide +kernel
theorem dX10_readOneOf_33 : decode cX10_readOneOf 33 = .ok (.iconst 1, 1) := by decide +kernel
theorem dX10_readOneOf_34 : decode cX10_readOneOf 34 = .ok (.iadd, 1) := by decide +kernel
theorem dX10_readOneOf_35 : decode cX10_readOneOf 35 = .ok (.putfield 44, 3) := by decide +kernel
theorem dX10_readOneOf_38 : decode cX10_readOneOf 38 = .ok (.iload_n 3, 1) := by decide +kernel
theorem dX10_readOneOf_39 : decode cX10_readOneOf 39 = .ok (.ireturn, 1) := by decide +kernel
theorem dX10_addCode_0 : decode cX10_addCode 0 = .ok (.aload_n 0, 1) := by decide +kernel
theorem dX10_addCode_1 : decode cX10_addCode 1 = .ok (.getfield 50, 3) := by decide +kernel
theorem dX10_addCode_4 : decode cX10_addCode 4 = .ok (.aload_n 0, 1) := by decide +kernel
theorem dX10_addCode_5 : decode cX10_addCode 5 = .ok (.getfield 24, 3) := by decide +kernel
theorem dX10_addCode_8 : decode cX10_addCode 8 = .ok (.arraylength, 1) := by decide +kernel
theorem dX10_addCode_9 : decode cX10_addCode 9 = .ok (.if_icmp .ge 23, 3) := by decide +kernel
theorem dX10_addCode_12 : decode cX10_addCode 12 = .ok (.aload_n 0, 1) := by decide +kernel
theorem dX10_addCode_13 : decode cX10_addCode 13 = .ok (.getfield 24, 3) := by decide +kernel
theorem dX10_addCode_16 : decode cX10_addCode 16 = .ok (.aload_n 0, 1) := by decide +kernel
theorem dX10_addCode_17 : decode cX10_addCode 17 = .ok (.getfield 50, 3) := by decide +kernel
theorem dX10_addCode_20 : decode cX10_addCode 20 = .ok (.iload_n 1, 1) := by decide +kernel
theorem dX10_addCode_21 : decode cX10_addCode 21 = .ok (.iastore, 1) := by decide +kernel
theorem dX10_addCode_22 : decode cX10_addCode 22 = .ok (.aload_n 0, 1) := by decide +kernel
theorem dX10_addCode_23 : decode cX10_addCode 23 = .ok (.dup, 1) := by decide +kernel
theorem dX10_addCode_24 : decode cX10_addCode 24 = .ok (.getfield 50, 3) := by decide +kernel
theorem dX10_addCode_27 : decode cX10_addCode 27 = .ok (.iconst 1, 1) := by decide +kernel
theorem dX10_addCode_28 : decode cX10_addCode 28 = .ok (.iadd, 1) := by decide +kernel
theorem dX10_addCode_29 : decode cX10_addCode 29 = .ok (.putfield 50, 3) := by decide +kernel
theorem dX10_addCode_32 : decode cX10_addCode 32 = .ok (.return_, 1) := by decide +kernel
theorem dX10_shakeFor_0 : decode cX10_shakeFor 0 = .ok (.iconst 0, 1) := by decide +kernel
theorem dX10_shakeFor_1 : decode cX10_shakeFor 1 = .ok (.istore_n 2, 1) := by decide +kernel
theorem dX10_shakeFor_2 : decode cX10_shakeFor 2 = .ok (.iconst 0, 1) := by decide +kernel
theorem dX10_shakeFor_3 : decode cX10_shakeFor 3 = .ok (.istore_n 3, 1) := by decide +kernel
theorem dX10_shakeFor_4 : decode cX10_shakeFor 4 = .ok (.iload_n 3, 1) := by decide +kernel
theorem dX10_shakeFor_5 : decode cX10_shakeFor 5 = .ok (.aload_n 0, 1) := by decide +kernel
theorem dX10_shakeFor_6 : decode cX10_shakeFor 6 = .ok (.getfield 47, 3) := by decide +kernel
theorem dX10_shakeFor_9 : decode cX10_shakeFor 9 = .ok (.if_icmp .ge 67, 3) := by decide +kernel
theorem dX10_shakeFor_12 : decode cX10_shakeFor 12 = .ok (.aload_n 0, 1) := by decide +kernel
theorem dX10_shakeFor_13 : decode cX10_shakeFor 13 = .ok (.getfield 11, 3) := by decide +kernel
theorem dX10_shakeFor_16 : decode cX10_shakeFor 16 = .ok (.iload_n 3, 1) := by decide +kernel
theorem dX10_shakeFor_17 : decode cX10_shakeFor 17 = .ok (.iaload, 1) := by decide +kernel
theorem dX10_shakeFor_18 : decode cX10_shakeFor 18 = .ok (.ifCond .ne 24, 3) := by decide +kernel
theorem dX10_shakeFor_21 : decode cX10_shakeFor 21 = .ok (.aload_n 0, 1) := by decide +kernel
theorem dX10_shakeFor_22 : decode cX10_shakeFor 22 = .ok (.iload_n 3, 1) := by decide +kernel
theorem dX10_shakeFor_23 : decode cX10_shakeFor 23 = .ok (.aload_n 1, 1) := by decide +kernel
theorem dX10_shakeFor_24 : decode cX10_shakeFor 24 = .ok (.invokevirtual 133, 3) := by decide +kernel
theorem dX10_shakeFor_27 : decode cX10_shakeFor 27 = .ok (.ifCond .eq 15, 3) := by decide +kernel
theorem dX10_shakeFor_30 : decode cX10_shakeFor 30 = .ok (.iload_n 2, 1) := by decide +kernel
theorem dX10_shakeFor_31 : decode cX10_shakeFor 31 = .ok (.aload_n 0, 1) := by decide +kernel
theorem dX10_shakeFor_32 : decode cX10_shakeFor 32 = .ok (.getfield 15, 3) := by decide +kernel
theorem dX10_shakeFor_35 : decode cX10_shakeFor 35 = .ok (.iload_n 3, 1) := by decide +kernel
theorem dX10_shakeFor_36 : decode cX10_shakeFor 36 = .ok (.iaload, 1) := by decide +kernel
theorem dX10_shakeFor_37 : decode cX10_shakeFor 37 = .ok (.iadd, 1) := by decide +kernel
theorem dX10_shakeFor_38 : decode cX10_shakeFor 38 = .ok (.istore_n 2, 1) := by decide +kernel
theorem dX10_shakeFor_39 : decode cX10_shakeFor 39 = .ok (.goto 31, 3) := by decide +kernel
theorem dX10_shakeFor_42 : decode cX10_shakeFor 42 = .ok (.aload_n 0, 1) := by decide +kernel
theorem dX10_shakeFor_43 : decode cX10_shakeFor 43 = .ok (.getfield 11, 3) := by decide +kernel
theorem dX10_shakeFor_46 : decode cX10_shakeFor 46 = .ok (.iload_n 3, 1) := by decide +kernel
theorem dX10_shakeFor_47 : decode cX10_shakeFor 47 = .ok (.iaload, 1) := by decide +kernel
theorem dX10_shakeFor_48 : decode cX10_shakeFor 48 = .ok (.iconst 1, 1) := by decide +kernel
theorem dX10_shakeFor_49 : decode cX10_shakeFor 49 = .ok (.if_icmp .ne 21, 3) := by decide +kernel
theorem dX10_shakeFor_52 : decode cX10_shakeFor 52 = .ok (.aload_n 0, 1) := by decide +kernel
theorem dX10_shakeFor_53 : decode cX10_shakeFor 53 = .ok (.iload_n 3, 1) := by decide +kernel
theorem dX10_shakeFor_54 : decode cX10_shakeFor 54 = .ok (.aload_n 1, 1) := by decide +kernel
theorem dX10_shakeFor_55 : decode cX10_shakeFor 55 = .ok (.invokevirtual 133, 3) := by decide +kernel
theorem dX10_shakeFor_58 : decode cX10_shakeFor 58 = .ok (.ifCond .eq 12, 3) := by decide +kernel
theorem dX10_shakeFor_61 : decode cX10_shakeFor 61 = .ok (.iload_n 2, 1) := by decide +kernel
theorem dX10_shakeFor_62 : decode cX10_shakeFor 62 = .ok (.aload_n 0, 1) := by decide +kernel
theorem dX10_shakeFor_63 : decode cX10_shakeFor 63 = .ok (.getfield 15, 3) := by decide +kernel
theorem dX10_shakeFor_66 : decode cX10_shakeFor 66 = .ok (.iload_n 3, 1) := by decide +kernel
theorem dX10_shakeFor_67 : decode cX10_shakeFor 67 = .ok (.iaload, 1) := by decide +kernel
theorem dX10_shakeFor_68 : decode cX10_shakeFor 68 = .ok (.isub, 1) := by decide +kernel
theorem dX10_shakeFor_69 : decode cX10_shakeFor 69 = .ok (.istore_n 2, 1) := by decide +kernel
theorem dX10_shakeFor_70 : decode cX10_shakeFor 70 = .ok (.iinc 3 1, 3) := by decide +kernel
theorem dX10_shakeFor_73 : decode cX10_shakeFor 73 = .ok (.goto (-69), 3) := by decide +kernel
theorem dX10_shakeFor_76 : decode cX10_shakeFor 76 = .ok (.iload_n 2, 1) := by decide +kernel
theorem dX10_shakeFor_77 : decode cX10_shakeFor 77 = .ok (.ireturn, 1) := by decide +kernel
theorem dX10_holds_0 : decode cX10_holds 0 = .ok (.iconst 0, 1) := by decide +kernel
theorem dX10_holds_1 : decode cX10_holds 1 = .ok (.istore_n 3, 1) := by decide +kernel
theorem dX10_holds_2 : decode cX10_holds 2 = .ok (.aload_n 0, 1) := by decide +kernel
theorem dX10_holds_3 : decode cX10_holds 3 = .ok (.getfield 18, 3) := by decide +kernel
theorem dX10_holds_6 : decode cX10_holds 6 = .ok (.iload_n 1, 1) := by decide +kernel
theorem dX10_holds_7 : decode cX10_holds 7 = .ok (.iaload, 1) := by decide +kernel
theorem dX10_holds_8 : decode cX10_holds 8 = .ok (.istore 4, 2) := by decide +kernel
theorem dX10_holds_10 : decode cX10_holds 10 = .ok (.iload 4, 2) := by decide +kernel
theorem dX10_holds_12 : decode cX10_holds 12 = .ok (.aload_n 0, 1) := by decide +kernel
theorem dX10_holds_13 : decode cX10_holds 13 = .ok (.getfield 21, 3) := by decide +kernel
theorem dX10_holds_16 : decode cX10_holds 16 = .ok (.iload_n 1, 1) := by decide +kernel
theorem dX10_holds_17 : decode cX10_holds 17 = .ok (.iaload, 1) := by decide +kernel
theorem dX10_holds_18 : decode cX10_holds 18 = .ok (.if_icmp .ge 97, 3) := by decide +kernel
theorem dX10_holds_21 : decode cX10_holds 21 = .ok (.aload_n 0, 1) := by decide +kernel
theorem dX10_holds_22 : decode cX10_holds 22 = .ok (.getfield 24, 3) := by decide +kernel
theorem dX10_holds_25 : decode cX10_holds 25 = .ok (.iload 4, 2) := by decide +kernel
theorem dX10_holds_27 : decode cX10_holds 27 = .ok (.iaload, 1) := by decide +kernel
theorem dX10_holds_28 : decode cX10_holds 28 = .ok (.istore 5, 2) := by decide +kernel
theorem dX10_holds_30 : decode cX10_holds 30 = .ok (.iload 5, 2) := by decide +kernel
theorem dX10_holds_32 : decode cX10_holds 32 = .ok (.tableswitch 58 (-3) (-1) #[47, 35, 28], 28) := by decide +kernel
theorem dX10_holds_60 : decode cX10_holds 60 = .ok (.iload_n 3, 1) := by decide +kernel
theorem dX10_holds_61 : decode cX10_holds 61 = .ok (.iconst 1, 1) := by decide +kernel
theorem dX10_holds_62 : decode cX10_holds 62 = .ok (.ixor, 1) := by decide +kernel
theorem dX10_holds_63 : decode cX10_holds 63 = .ok (.istore_n 3, 1) := by decide +kernel
theorem dX10_holds_64 : decode cX10_holds 64 = .ok (.goto 45, 3) := by decide +kernel
theorem dX10_holds_67 : decode cX10_holds 67 = .ok (.iload_n 3, 1) := by decide +kernel
theorem dX10_holds_68 : decode cX10_holds 68 = .ok (.iconst 1, 1) := by decide +kernel
theorem dX10_holds_69 : decode cX10_holds 69 = .ok (.ishr, 1) := by decide +kernel
theorem dX10_holds_70 : decode cX10_holds 70 = .ok (.iload_n 3, 1) := by decide +kernel
theorem dX10_holds_71 : decode cX10_holds 71 = .ok (.bipush (-2), 2) := by decide +kernel
theorem dX10_holds_73 : decode cX10_holds 73 = .ok (.ior, 1) := by decide +kernel
theorem dX10_holds_74 : decode cX10_holds 74 = .ok (.iand, 1) := by decide +kernel
theorem dX10_holds_75 : decode cX10_holds 75 = .ok (.istore_n 3, 1) := by decide +kernel
theorem dX10_holds_76 : decode cX10_holds 76 = .ok (.goto 33, 3) := by decide +kernel
theorem dX10_holds_79 : decode cX10_holds 79 = .ok (.iload_n 3, 1) := by decide +kernel
theorem dX10_holds_80 : decode cX10_holds 80 = .ok (.iconst 1, 1) := by decide +kernel
theorem dX10_holds_81 : decode cX10_holds 81 = .ok (.ishr, 1) := by decide +kernel
theorem dX10_holds_82 : decode cX10_holds 82 = .ok (.iload_n 3, 1) := by decide +kernel
theorem dX10_holds_83 : decode cX10_holds 83 = .ok (.iconst 1, 1) := by decide +kernel
theorem dX10_holds_84 : decode cX10_holds 84 = .ok (.iand, 1) := by decide +kernel
theorem dX10_holds_85 : decode cX10_holds 85 = .ok (.ior, 1) := by decide +kernel
theorem dX10_holds_86 : decode cX10_holds 86 = .ok (.istore_n 3, 1) := by decide +kernel
theorem dX10_holds_87 : decode cX10_holds 87 = .ok (.goto 22, 3) := by decide +kernel
theorem dX10_holds_90 : decode cX10_holds 90 = .ok (.iload_n 3, 1) := by decide +kernel
theorem dX10_holds_91 : decode cX10_holds 91 = .ok (.iconst 1, 1) := by decide +kernel
theorem dX10_holds_92 : decode cX10_holds 92 = .ok (.ishl, 1) := by decide +kernel
theorem dX10_holds_93 : decode cX10_holds 93 = .ok (.iload 5, 2) := by decide +kernel
theorem dX10_holds_95 : decode cX10_holds 95 = .ok (.aload_n 2, 1) := by decide +kernel
theorem dX10_holds_96 : decode cX10_holds 96 = .ok (.invokestatic 137, 3) := by decide +kernel
theorem dX10_holds_99 : decode cX10_holds 99 = .ok (.ifCond .eq 7, 3) := by decide +kernel
theorem dX10_holds_102 : decode cX10_holds 102 = .ok (.iconst 1, 1) := by decide +kernel
theorem dX10_holds_103 : decode cX10_holds 103 = .ok (.goto 4, 3) := by decide +kernel
theorem dX10_holds_106 : decode cX10_holds 106 = .ok (.iconst 0, 1) := by decide +kernel
theorem dX10_holds_107 : decode cX10_holds 107 = .ok (.ior, 1) := by decide +kernel
theorem dX10_holds_108 : decode cX10_holds 108 = .ok (.istore_n 3, 1) := by decide +kernel
theorem dX10_holds_109 : decode cX10_holds 109 = .ok (.iinc 4 1, 3) := by decide +kernel
theorem dX10_holds_112 : decode cX10_holds 112 = .ok (.goto (-102), 3) := by decide +kernel
theorem dX10_holds_115 : decode cX10_holds 115 = .ok (.iload_n 3, 1) := by decide +kernel
theorem dX10_holds_116 : decode cX10_holds 116 = .ok (.iconst 1, 1) := by decide +kernel
theorem dX10_holds_117 : decode cX10_holds 117 = .ok (.iand, 1) := by decide +kernel
theorem dX10_holds_118 : decode cX10_holds 118 = .ok (.ifCond .eq 7, 3) := by decide +kernel
theorem dX10_holds_121 : decode cX10_holds 121 = .ok (.iconst 1, 1) := by decide +kernel
theorem dX10_holds_122 : decode cX10_holds 122 = .ok (.goto 4, 3) := by decide +kernel
theorem dX10_holds_125 : decode cX10_holds 125 = .ok (.iconst 0, 1) := by decide +kernel
theorem dX10_holds_126 : decode cX10_holds 126 = .ok (.ireturn, 1) := by decide +kernel
theorem dX10_isSo_0 : decode cX10_isSo 0 = .ok (.iload_n 0, 1) := by decide +kernel
theorem dX10_isSo_1 : decode cX10_isSo 1 = .ok (.sipush 300, 3) := by decide +kernel
theorem dX10_isSo_4 : decode cX10_isSo 4 = .ok (.idiv, 1) := by decide +kernel
theorem dX10_isSo_5 : decode cX10_isSo 5 = .ok (.istore_n 2, 1) := by decide +kernel
theorem dX10_isSo_6 : decode cX10_isSo 6 = .ok (.iload_n 2, 1) := by decide +kernel
theorem dX10_isSo_7 : decode cX10_isSo 7 = .ok (.ifCond .lt 9, 3) := by decide +kernel
theorem dX10_isSo_10 : decode cX10_isSo 10 = .ok (.iload_n 2, 1) := by decide +kernel
theorem dX10_isSo_11 : decode cX10_isSo 11 = .ok (.aload_n 1, 1) := by decide +kernel
theorem dX10_isSo_12 : decode cX10_isSo 12 = .ok (.arraylength, 1) := by decide +kernel
theorem dX10_isSo_13 : decode cX10_isSo 13 = .ok (.if_icmp .lt 5, 3) := by decide +kernel
theorem dX10_isSo_16 : decode cX10_isSo 16 = .ok (.iconst 0, 1) := by decide +kernel
theorem dX10_isSo_17 : decode cX10_isSo 17 = .ok (.ireturn, 1) := by decide +kernel
theorem dX10_isSo_18 : decode cX10_isSo 18 = .ok (.iload_n 0, 1) := by decide +kernel
theorem dX10_isSo_19 : decode cX10_isSo 19 = .ok (.bipush 100, 2) := by decide +kernel
theorem dX10_isSo_21 : decode cX10_isSo 21 = .ok (.irem, 1) := by decide +kernel
theorem dX10_isSo_22 : decode cX10_isSo 22 = .ok (.istore_n 3, 1) := by decide +kernel
theorem dX10_isSo_23 : decode cX10_isSo 23 = .ok (.iload_n 0, 1) := by decide +kernel
theorem dX10_isSo_24 : decode cX10_isSo 24 = .ok (.bipush 100, 2) := by decide +kernel
theorem dX10_isSo_26 : decode cX10_isSo 26 = .ok (.idiv, 1) := by decide +kernel
theorem dX10_isSo_27 : decode cX10_isSo 27 = .ok (.iconst 3, 1) := by decide +kernel
theorem dX10_isSo_28 : decode cX10_isSo 28 = .ok (.irem, 1) := by decide +kernel
theorem dX10_isSo_29 : decode cX10_isSo 29 = .ok (.lookupswitch 53 #[(0, 27), (1, 40)], 27) := by decide +kernel
theorem dX10_isSo_56 : decode cX10_isSo 56 = .ok (.aload_n 1, 1) := by decide +kernel
theorem dX10_isSo_57 : decode cX10_isSo 57 = .ok (.iload_n 2, 1) := by decide +kernel
theorem dX10_isSo_58 : decode cX10_isSo 58 = .ok (.iaload, 1) := by decide +kernel
theorem dX10_isSo_59 : decode cX10_isSo 59 = .ok (.iload_n 3, 1) := by decide +kernel
theorem dX10_isSo_60 : decode cX10_isSo 60 = .ok (.if_icmp .ge 7, 3) := by decide +kernel
theorem dX10_isSo_63 : decode cX10_isSo 63 = .ok (.iconst 1, 1) := by decide +kernel
theorem dX10_isSo_64 : decode cX10_isSo 64 = .ok (.goto 4, 3) := by decide +kernel
theorem dX10_isSo_67 : decode cX10_isSo 67 = .ok (.iconst 0, 1) := by decide +kernel
theorem dX10_isSo_68 : decode cX10_isSo 68 = .ok (.ireturn, 1) := by decide +kernel
theorem dX10_isSo_69 : decode cX10_isSo 69 = .ok (.aload_n 1, 1) := by decide +kernel
theorem dX10_isSo_70 : decode cX10_isSo 70 = .ok (.iload_n 2, 1) := by decide +kernel
theorem dX10_isSo_71 : decode cX10_isSo 71 = .ok (.iaload, 1) := by decide +kernel
theorem dX10_isSo_72 : decode cX10_isSo 72 = .ok (.iload_n 3, 1) := by decide +kernel
theorem dX10_isSo_73 : decode cX10_isSo 73 = .ok (.if_icmp .ne 7, 3) := by decide +kernel
theorem dX10_isSo_76 : decode cX10_isSo 76 = .ok (.iconst 1, 1) := by decide +kernel
theorem dX10_isSo_77 : decode cX10_isSo 77 = .ok (.goto 4, 3) := by decide +kernel
theorem dX10_isSo_80 : decode cX10_isSo 80 = .ok (.iconst 0, 1) := by decide +kernel
theorem dX10_isSo_81 : decode cX10_isSo 81 = .ok (.ireturn, 1) := by decide +kernel
theorem dX10_isSo_82 : decode cX10_isSo 82 = .ok (.aload_n 1, 1) := by decide +kernel
theorem dX10_isSo_83 : decode cX10_isSo 83 = .ok (.iload_n 2, 1) := by decide +kernel
theorem dX10_isSo_84 : decode cX10_isSo 84 = .ok (.iaload, 1) := by decide +kernel
theorem dX10_isSo_85 : decode cX10_isSo 85 = .ok (.iload_n 3, 1) := by decide +kernel
theorem dX10_isSo_86 : decode cX10_isSo 86 = .ok (.if_icmp .le 7, 3) := by decide +kernel
theorem dX10_isSo_89 : decode cX10_isSo 89 = .ok (.iconst 1, 1) := by decide +kernel
theorem dX10_isSo_90 : decode cX10_isSo 90 = .ok (.goto 4, 3) := by decide +kernel
theorem dX10_isSo_93 : decode cX10_isSo 93 = .ok (.iconst 0, 1) := by decide +kernel
theorem dX10_isSo_94 : decode cX10_isSo 94 = .ok (.ireturn, 1) := by decide +kernel
theorem dX11_init_0 : decode cX11_init 0 = .ok (.aload_n 0, 1) := by decide +kernel
theorem dX11_init_1 : decode cX11_init 1 = .ok (.invokespecial 3, 3) := by decide +kernel
theorem dX11_init_4 : decode cX11_init 4 = .ok (.aload_n 0, 1) := by decide +kernel
theorem dX11_init_5 : decode cX11_init 5 = .ok (.bipush 7, 2) := by decide +kernel
theorem dX11_init_7 : decode cX11_init 7 = .ok (.anewarray 9, 3) := by decide +kernel
theorem dX11_init_10 : decode cX11_init 10 = .ok (.dup, 1) := by decide +kernel
theorem dX11_init_11 : decode cX11_init 11 = .ok (.iconst 0, 1) := by decide +kernel
theorem dX11_init_12 : decode cX11_init 12 = .ok (.new 9, 3) := by decide +kernel
theorem dX11_init_15 : decode cX11_init 15 = .ok (.dup, 1) := by decide +kernel
theorem dX11_init_16 : decode cX11_init 16 = .ok (.invokespecial 11, 3) := by decide +kernel
theorem dX11_init_19 : decode cX11_init 19 = .ok (.aastore, 1) := by decide +kernel
theorem dX11_init_20 : decode cX11_init 20 = .ok (.dup, 1) := by decide +kernel
theorem dX11_init_21 : decode cX11_init 21 = .ok (.iconst 1, 1) := by decide +kernel
theorem dX11_init_22 : decode cX11_init 22 = .ok (.new 12, 3) := by decide +kernel
theorem dX11_init_25 : decode cX11_init 25 = .ok (.dup, 1) := by decide +kernel
theorem dX11_init_26 : decode cX11_init 26 = .ok (.invokespecial 14, 3) := by decide +kernel
theorem dX11_init_29 : decode cX11_init 29 = .ok (.aastore, 1) := by decide +kernel
theorem dX11_init_30 : decode cX11_init 30 = .ok (.dup, 1) := by decide +kernel
theorem dX11_init_31 : decode cX11_init 31 = .ok (.iconst 2, 1) := by decide +kernel
theorem dX11_init_32 : decode cX11_init 32 = .ok (.new 15, 3) := by decide +kernel
theorem dX11_init_35 : decode cX11_init 35 = .ok (.dup, 1) := by decide +kernel
theorem dX11_init_36 : decode cX11_init 36 = .ok (.invokespecial 17, 3) := by decide +kernel
theorem dX11_init_39 : decode cX11_init 39 = .ok (.aastore, 1) := by decide +kernel
theorem dX11_init_40 : decode cX11_init 40 = .ok (.dup, 1) := by decide +kernel
theorem dX11_init_41 : decode cX11_init 41 = .ok (.iconst 3, 1) := by decide +kernel
theorem dX11_init_42 : decode cX11_init 42 = .ok (.new 18, 3) := by decide +kernel
theorem dX11_init_45 : decode cX11_init 45 = .ok (.dup, 1) := by decide +kernel
theorem dX11_init_46 : decode cX11_init 46 = .ok (.invokespecial 20, 3) := by decide +kernel
theorem dX11_init_49 : decode cX11_init 49 = .ok (.aastore, 1) := by decide +kernel
theorem dX11_init_50 : decode cX11_init 50 = .ok (.dup, 1) := by decide +kernel
theorem dX11_init_51 : decode cX11_init 51 = .ok (.iconst 4, 1) := by decide +kernel
theorem dX11_init_52 : decode cX11_init 52 = .ok (.new 21, 3) := by decide +kernel
theorem dX11_init_55 : decode cX11_init 55 = .ok (.dup, 1) := by decide +kernel
theorem dX11_init_56 : decode cX11_init 56 = .ok (.invokespecial 23, 3) := by decide +kernel
theorem dX11_init_59 : decode cX11_init 59 = .ok (.aastore, 1) := by decide +kernel
theorem dX11_init_60 : decode cX11_init 60 = .ok (.dup, 1) := by decide +kernel
theorem dX11_init_61 : decode cX11_init 61 = .ok (.iconst 5, 1) := by decide +kernel
theorem dX11_init_62 : decode cX11_init 62 = .ok (.new 24, 3) := by decide +kernel
theorem dX11_init_65 : decode cX11_init 65 = .ok (.dup, 1) := by decide +kernel
theorem dX11_init_66 : decode cX11_init 66 = .ok (.invokespecial 26, 3) := by decide +kernel
theorem dX11_init_69 : decode cX11_init 69 = .ok (.aastore, 1) := by decide +kernel
theorem dX11_init_70 : decode cX11_init 70 = .ok (.dup, 1) := by decide +kernel
theorem dX11_init_71 : decode cX11_init 71 = .ok (.bipush 6, 2) := by decide +kernel
theorem dX11_init_73 : decode cX11_init 73 = .ok (.new 27, 3) := by decide +kernel
theorem dX11_init_76 : decode cX11_init 76 = .ok (.dup, 1) := by decide +kernel
theorem dX11_init_77 : decode cX11_init 77 = .ok (.invokespecial 29, 3) := by decide +kernel
theorem dX11_init_80 : decode cX11_init 80 = .ok (.aastore, 1) := by decide +kernel
theorem dX11_init_81 : decode cX11_init 81 = .ok (.putfield 30, 3) := by decide +kernel
theorem dX11_init_84 : decode cX11_init 84 = .ok (.aload_n 0, 1) := by decide +kernel
theorem dX11_init_85 : decode cX11_init 85 = .ok (.bipush 100, 2) := by decide +kernel
theorem dX11_init_87 : decode cX11_init 87 = .ok (.newarray .byte, 2) := by decide +kernel
theorem dX11_init_89 : decode cX11_init 89 = .ok (.putfield 36, 3) := by decide +kernel
theorem dX11_init_92 : decode cX11_init 92 = .ok (.aload_n 0, 1) := by decide +kernel
theorem dX11_init_93 : decode cX11_init 93 = .ok (.bipush 7, 2) := by decide +kernel
theorem dX11_init_95 : decode cX11_init 95 = .ok (.anewarray 40, 3) := by decide +kernel
theorem dX11_init_98 : decode cX11_init 98 = .ok (.putfield 42, 3) := by decide +kernel
theorem dX11_init_101 : decode cX11_init 101 = .ok (.iconst 0, 1) := by decide +kernel
theorem dX11_init_102 : decode cX11_init 102 = .ok (.istore_n 1, 1) := by decide +kernel
theorem dX11_init_103 : decode cX11_init 103 = .ok (.iload_n 1, 1) := by decide +kernel
theorem dX11_init_104 : decode cX11_init 104 = .ok (.bipush 6, 2) := by decide +kernel
theorem dX11_init_106 : decode cX11_init 106 = .ok (.if_icmp .gt 26, 3) := by decide +kernel
theorem dX11_init_109 : decode cX11_init 109 = .ok (.aload_n 0, 1) := by decide +kernel
theorem dX11_init_110 : decode cX11_init 110 = .ok (.getfield 42, 3) := by decide +kernel
theorem dX11_init_113 : decode cX11_init 113 = .ok (.iload_n 1, 1) := by decide +kernel
theorem dX11_init_114 : decode cX11_init 114 = .ok (.new 40, 3) := by decide +kernel
theorem dX11_init_117 : decode cX11_init 117 = .ok (.dup, 1) := by decide +kernel
theorem dX11_init_118 : decode cX11_init 118 = .ok (.aload_n 0, 1) := by decide +kernel
theorem dX11_init_119 : decode cX11_init 119 = .ok (.getfield 36, 3) := by decide +kernel
theorem dX11_init_122 : decode cX11_init 122 = .ok (.invokespecial 46, 3) := by decide +kernel
theorem dX11_init_125 : decode cX11_init 125 = .ok (.aastore, 1) := by decide +kernel
theorem dX11_init_126 : decode cX11_init 126 = .ok (.iinc 1 1, 3) := by decide +kernel
theorem dX11_init_129 : decode cX11_init 129 = .ok (.goto (-26), 3) := by decide +kernel
theorem dX11_init_132 : decode cX11_init 132 = .ok (.aload_n 0, 1) := by decide +kernel
theorem dX11_init_133 : decode cX11_init 133 = .ok (.new 49, 3) := by decide +kernel
theorem dX11_init_136 : decode cX11_init 136 = .ok (.dup, 1) := by decide +kernel
theorem dX11_init_137 : decode cX11_init 137 = .ok (.aload_n 0, 1) := by decide +kernel
theorem dX11_init_138 : decode cX11_init 138 = .ok (.getfield 42, 3) := by decide +kernel
theorem dX11_init_141 : decode cX11_init 141 = .ok (.iconst 0, 1) := by decide +kernel
theorem dX11_init_142 : decode cX11_init 142 = .ok (.aaload, 1) := by decide +kernel
theorem dX11_init_143 : decode cX11_init 143 = .ok (.invokespecial 51, 3) := by decide +kernel
theorem dX11_init_146 : decode cX11_init 146 = .ok (.putfield 54, 3) := by decide +kernel
theorem dX11_init_149 : decode cX11_init 149 = .ok (.aload_n 0, 1) := by decide +kernel
theorem dX11_init_150 : decode cX11_init 150 = .ok (.new 49, 3) := by decide +kernel
theorem dX11_init_153 : decode cX11_init 153 = .ok (.dup, 1) := by decide +kernel
theorem dX11_init_154 : decode cX11_init 154 = .ok (.aload_n 0, 1) := by decide +kernel
theorem dX11_init_155 : decode cX11_init 155 = .ok (.getfield 42, 3) := by decide +kernel
theorem dX11_init_158 : decode cX11_init 158 = .ok (.iconst 0, 1) := by decide +kernel
theorem dX11_init_159 : decode cX11_init 159 = .ok (.aaload, 1) := by decide +kernel
theorem dX11_init_160 : decode cX11_init 160 = .ok (.invokespecial 51, 3) := by decide +kernel
theorem dX11_init_163 : decode cX11_init 163 = .ok (.putfield 58, 3) := by decide +kernel
theorem dX11_init_166 : decode cX11_init 166 = .ok (.aload_n 0, 1) := by decide +kernel
theorem dX11_init_167 : decode cX11_init 167 = .ok (.new 49, 3) := by decide +kernel
theorem dX11_init_170 : decode cX11_init 170 = .ok (.dup, 1) := by decide +kernel
theorem dX11_init_171 : decode cX11_init 171 = .ok (.aload_n 0, 1) := by decide +kernel
theorem dX11_init_172 : decode cX11_init 172 = .ok (.getfield 42, 3) := by decide +kernel
theorem dX11_init_175 : decode cX11_init 175 = .ok (.iconst 0, 1) := by decide +kernel
theorem dX11_init_176 : decode cX11_init 176 = .ok (.aaload, 1) := by decide +kernel
theorem dX11_init_177 : decode cX11_init 177 = .ok (.invokespecial 51, 3) := by decide +kernel
theorem dX11_init_180 : decode cX11_init 180 = .ok (.putfield 61, 3) := by decide +kernel
theorem dX11_init_183 : decode cX11_init 183 = .ok (.aload_n 0, 1) := by decide +kernel
theorem dX11_init_184 : decode cX11_init 184 = .ok (.new 64, 3) := by decide +kernel
theorem dX11_init_187 : decode cX11_init 187 = .ok (.dup, 1) := by decide +kernel
theorem dX11_init_188 : decode cX11_init 188 = .ok (.aload_n 0, 1) := by decide +kernel
theorem dX11_init_189 : decode cX11_init 189 = .ok (.getfield 30, 3) := by decide +kernel
theorem dX11_init_192 : decode cX11_init 192 = .ok (.invokespecial 66, 3) := by decide +kernel
theorem dX11_init_195 : decode cX11_init 195 = .ok (.putfield 69, 3) := by decide +kernel
theorem dX11_init_198 : decode cX11_init 198 = .ok (.aload_n 0, 1) := by decide +kernel
theorem dX11_init_199 : decode cX11_init 199 = .ok (.new 73, 3) := by decide +kernel
theorem dX11_init_202 : decode cX11_init 202 = .ok (.dup, 1) := by decide +kernel
theorem dX11_init_203 : decode cX11_init 203 = .ok (.invokespecial 75, 3) := by decide +kernel
theorem dX11_init_206 : decode cX11_init 206 = .ok (.putfield 76, 3) := by decide +kernel
theorem dX11_init_209 : decode cX11_init 209 = .ok (.aload_n 0, 1) := by decide +kernel
theorem dX11_init_210 : decode cX11_init 210 = .ok (.bipush 6, 2) := by decide +kernel
theorem dX11_init_212 : decode cX11_init 212 = .ok (.bipush 60, 2) := by decide +kernel
theorem dX11_init_214 : decode cX11_init 214 = .ok (.multianewarray 80 2, 4) := by decide +kernel
theorem dX11_init_218 : decode cX11_init 218 = .ok (.putfield 82, 3) := by decide +kernel
theorem dX11_init_221 : decode cX11_init 221 = .ok (.aload_n 0, 1) := by decide +kernel
theorem dX11_init_222 : decode cX11_init 222 = .ok (.bipush 6, 2) := by decide +kernel
theorem dX11_init_224 : decode cX11_init 224 = .ok (.newarray .int, 2) := by decide +kernel
theorem dX11_init_226 : decode cX11_init 226 = .ok (.putfield 85, 3) := by decide +kernel
theorem dX11_init_229 : decode cX11_init 229 = .ok (.aload_n 0, 1) := by decide +kernel
theorem dX11_init_230 : decode cX11_init 230 = .ok (.bipush 6, 2) := by decide +kernel
theorem dX11_init_232 : decode cX11_init 232 = .ok (.newarray .int, 2) := by decide +kernel
theorem dX11_init_234 : decode cX11_init 234 = .ok (.putfield 89, 3) := by decide +kernel
theorem dX11_init_237 : decode cX11_init 237 = .ok (.iconst 0, 1) := by decide +kernel
theorem dX11_init_238 : decode cX11_init 238 = .ok (.istore_n 1, 1) := by decide +kernel
theorem dX11_init_239 : decode cX11_init 239 = .ok (.iload_n 1, 1) := by decide +kernel
theorem dX11_init_240 : decode cX11_init 240 = .ok (.bipush 6, 2) := by decide +kernel
theorem dX11_init_242 : decode cX11_init 242 = .ok (.if_icmp .ge 16, 3) := by decide +kernel
theorem dX11_init_245 : decode cX11_init 245 = .ok (.aload_n 0, 1) := by decide +kernel
theorem dX11_init_246 : decode cX11_init 246 = .ok (.getfield 85, 3) := by decide +kernel
theorem dX11_init_249 : decode cX11_init 249 = .ok (.iload_n 1, 1) := by decide +kernel
theorem dX11_init_250 : decode cX11_init 250 = .ok (.iconst (-1), 1) := by decide +kernel
theorem dX11_init_251 : decode cX11_init 251 = .ok (.iastore, 1) := by decide +kernel
theorem dX11_init_252 : decode cX11_init 252 = .ok (.iinc 1 1, 3) := by decide +kernel
theorem dX11_init_255 : decode cX11_init 255 = .ok (.goto (-16), 3) := by decide +kernel
theorem dX11_init_258 : decode cX11_init 258 = .ok (.return_, 1) := by decide +kernel
theorem dX11_child_0 : decode cX11_child 0 = .ok (.iload_n 1, 1) := by decide +kernel
theorem dX11_child_1 : decode cX11_child 1 = .ok (.iconst 0, 1) := by decide +kernel
theorem dX11_child_2 : decode cX11_child 2 = .ok (.bipush 6, 2) := by decide +kernel
theorem dX11_child_4 : decode cX11_child 4 = .ok (.invokestatic 92, 3) := by decide +kernel
theorem dX11_child_7 : decode cX11_child 7 = .ok (.ifCond .ne 5, 3) := by decide +kernel
theorem dX11_child_10 : decode cX11_child 10 = .ok (.iconst (-1), 1) := by decide +kernel
theorem dX11_child_11 : decode cX11_child 11 = .ok (.ireturn, 1) := by decide +kernel
theorem dX11_child_12 : decode cX11_child 12 = .ok (.iload_n 2, 1) := by decide +kernel
theorem dX11_child_13 : decode cX11_child 13 = .ok (.iconst 0, 1) := by decide +kernel
theorem dX11_child_14 : decode cX11_child 14 = .ok (.bipush 9, 2) := by decide +kernel
theorem dX11_child_16 : decode cX11_child 16 = .ok (.invokestatic 92, 3) := by decide +kernel
theorem dX11_child_19 : decode cX11_child 19 = .ok (.ifCond .ne 6, 3) := by decide +kernel
theorem dX11_child_22 : decode cX11_child 22 = .ok (.bipush (-2), 2) := by decide +kernel
theorem dX11_child_24 : decode cX11_child 24 = .ok (.ireturn, 1) := by decide +kernel
theorem dX11_child_25 : decode cX11_child 25 = .ok (.aload_n 0, 1) := by decide +kernel
theorem dX11_child_26 : decode cX11_child 26 = .ok (.getfield 54, 3) := by decide +kernel
theorem dX11_child_29 : decode cX11_child 29 = .ok (.getfield 96, 3) := by decide +kernel
theorem dX11_child_32 : decode cX11_child 32 = .ok (.bipush 7, 2) := by decide +kernel
theorem dX11_child_34 : decode cX11_child 34 = .ok (.if_icmp .lt 6, 3) := by decide +kernel
theorem dX11_child_37 : decode cX11_child 37 = .ok (.bipush (-4), 2) := by decide +kernel
theorem dX11_child_39 : decode cX11_child 39 = .ok (.ireturn, 1) := by decide +kernel
theorem dX11_child_40 : decode cX11_child 40 = .ok (.aload_n 0, 1) := by decide +kernel
theorem dX11_child_41 : decode cX11_child 41 = .ok (.getfield 54, 3) := by decide +kernel
theorem dX11_child_44 : decode cX11_child 44 = .ok (.iload_n 1, 1) := by decide +kernel
theorem dX11_child_45 : decode cX11_child 45 = .ok (.iload_n 2, 1) := by decide +kernel
theorem dX11_child_46 : decode cX11_child 46 = .ok (.invokevirtual 100, 3) := by decide +kernel
theorem dX11_child_49 : decode cX11_child 49 = .ok (.ireturn, 1) := by decide +kernel
theorem dX11_of_0 : decode cX11_of 0 = .ok (.aload_n 0, 1) := by decide +kernel
theorem dX11_of_1 : decode cX11_of 1 = .ok (.getfield 54, 3) := by decide +kernel
theorem dX11_of_4 : decode cX11_of 4 = .ok (.iload_n 1, 1) := by decide +kernel
theorem dX11_of_5 : decode cX11_of 5 = .ok (.invokevirtual 104, 3) := by decide +kernel
theorem dX11_of_8 : decode cX11_of 8 = .ok (.ifCond .ne 5, 3) := by decide +kernel
theorem dX11_of_11 : decode cX11_of 11 = .ok (.iconst (-1), 1) := by decide +kernel
theorem dX11_of_12 : decode cX11_of 12 = .ok (.ireturn, 1) := by decide +kernel
theorem dX11_of_13 : decode cX11_of 13 = .ok (.aload_n 0, 1) := by decide +kernel
theorem dX11_of_14 : decode cX11_of 14 = .ok (.getfield 69, 3) := by decide +kernel
theorem dX11_of_17 : decode cX11_of 17 = .ok (.aload_n 0, 1) := by decide +kernel
theorem dX11_of_18 : decode cX11_of 18 = .ok (.getfield 54, 3) := by decide +kernel
theorem dX11_of_21 : decode cX11_of 21 = .ok (.invokevirtual 108, 3) := by decide +kernel
theorem dX11_of_24 : decode cX11_of 24 = .ok (.iload_n 2, 1) := by decide +kernel
theorem dX11_of_25 : decode cX11_of 25 = .ok (.tableswitch 148 0 8 #[51, 61, 71, 81, 91, 101, 118, 128, 138], 51) := by decide +kernel
theorem dX11_of_76 : decode cX11_of 76 = .ok (.aload_n 0, 1) := by decide +kernel
theorem dX11_of_77 : decode cX11_of 77 = .ok (.getfield 54, 3) := by decide +kernel
theorem dX11_of_80 : decode cX11_of 80 = .ok (.getfield 112, 3) := by decide +kernel
theorem dX11_of_83 : decode cX11_of 83 = .ok (.iload_n 1, 1) := by decide +kernel
theorem dX11_of_84 : decode cX11_of 84 = .ok (.iaload, 1) := by decide +kernel
theorem dX11_of_85 : decode cX11_of 85 = .ok (.ireturn, 1) := by decide +kernel
theorem dX11_of_86 : decode cX11_of 86 = .ok (.aload_n 0, 1) := by decide +kernel
theorem dX11_of_87 : decode cX11_of 87 = .ok (.getfield 54, 3) := by decide +kernel
theorem dX11_of_90 : decode cX11_of 90 = .ok (.getfield 115, 3) := by decide +kernel
theorem dX11_of_93 : decode cX11_of 93 = .ok (.iload_n 1, 1) := by decide +kernel
theorem dX11_of_94 : decode cX11_of 94 = .ok (.iaload, 1) := by decide +kernel
theorem dX11_of_95 : decode cX11_of 95 = .ok (.ireturn, 1) := by decide +kernel
theorem dX11_of_96 : decode cX11_of 96 = .ok (.aload_n 0, 1) := by decide +kernel
theorem dX11_of_97 : decode cX11_of 97 = .ok (.getfield 54, 3) := by decide +kernel
theorem dX11_of_100 : decode cX11_of 100 = .ok (.getfield 118, 3) := by decide +kernel
theorem dX11_of_103 : decode cX11_of 103 = .ok (.iload_n 1, 1) := by decide +kernel
theorem dX11_of_104 : decode cX11_of 104 = .ok (.iaload, 1) := by decide +kernel
theorem dX11_of_105 : decode cX11_of 105 = .ok (.ireturn, 1) := by decide +kernel
theorem dX11_of_106 : decode cX11_of 106 = .ok (.aload_n 0, 1) := by decide +kernel
theorem dX11_of_107 : decode cX11_of 107 = .ok (.getfield 54, 3) := by decide +kernel
theorem dX11_of_110 : decode cX11_of 110 = .ok (.getfield 121, 3) := by decide +kernel
theorem dX11_of_113 : decode cX11_of 113 = .ok (.iload_n 1, 1) := by decide +kernel
theorem dX11_of_114 : decode cX11_of 114 = .ok (.iaload, 1) := by decide +kernel
theorem dX11_of_115 : decode cX11_of 115 = .ok (.ireturn, 1) := by decide +kernel
theorem dX11_of_116 : decode cX11_of 116 = .ok (.aload_n 0, 1) := by decide +kernel
theorem dX11_of_117 : decode cX11_of 117 = .ok (.getfield 54, 3) := by decide +kernel
theorem dX11_of_120 : decode cX11_of 120 = .ok (.getfield 124, 3) := by decide +kernel
theorem dX11_of_123 : decode cX11_of 123 = .ok (.iload_n 1, 1) := by decide +kernel
theorem dX11_of_124 : decode cX11_of 124 = .ok (.iaload, 1) := by decide +kernel
theorem dX11_of_125 : decode cX11_of 125 = .ok (.ireturn, 1) := by decide +kernel
theorem dX11_of_126 : decode cX11_of 126 = .ok (.aload_n 0, 1) := by decide +kernel
theorem dX11_of_127 : decode cX11_of 127 = .ok (.getfield 54, 3) := by decide +kernel
theorem dX11_of_130 : decode cX11_of 130 = .ok (.iload_n 1, 1) := by decide +kernel
theorem dX11_of_131 : decode cX11_of 131 = .ok (.invokevirtual 127, 3) := by decide +kernel
theorem dX11_of_134 : decode cX11_of 134 = .ok (.ifCond .eq 7, 3) := by decide +kernel
theorem dX11_of_137 : decode cX11_of 137 = .ok (.iconst 1, 1) := by decide +kernel
theorem dX11_of_138 : decode cX11_of 138 = .ok (.goto 4, 3) := by decide +kernel
theorem dX11_of_141 : decode cX11_of 141 = .ok (.iconst 0, 1) := by decide +kernel
theorem dX11_of_142 : decode cX11_of 142 = .ok (.ireturn, 1) := by decide +kernel
theorem dX11_of_143 : decode cX11_of 143 = .ok (.aload_n 0, 1) := by decide +kernel
theorem dX11_of_144 : decode cX11_of 144 = .ok (.getfield 69, 3) := by decide +kernel
theorem dX11_of_147 : decode cX11_of 147 = .ok (.getfield 130, 3) := by decide +kernel
theorem dX11_of_150 : decode cX11_of 150 = .ok (.iload_n 1, 1) := by decide +kernel
theorem dX11_of_151 : decode cX11_of 151 = .ok (.iaload, 1) := by decide +kernel
theorem dX11_of_152 : decode cX11_of 152 = .ok (.ireturn, 1) := by decide +kernel
theorem dX11_of_153 : decode cX11_of 153 = .ok (.aload_n 0, 1) := by decide +kernel
theorem dX11_of_154 : decode cX11_of 154 = .ok (.getfield 69, 3) := by decide +kernel
theorem dX11_of_157 : decode cX11_of 157 = .ok (.getfield 133, 3) := by decide +kernel
theorem dX11_of_160 : decode cX11_of 160 = .ok (.iload_n 1, 1) := by decide +kernel
theorem dX11_of_161 : decode cX11_of 161 = .ok (.iaload, 1) := by decide +kernel
theorem dX11_of_162 : decode cX11_of 162 = .ok (.ireturn, 1) := by decide +kernel
theorem dX11_of_163 : decode cX11_of 163 = .ok (.aload_n 0, 1) := by decide +kernel
theorem dX11_of_164 : decode cX11_of 164 = .ok (.getfield 69, 3) := by decide +kernel
theorem dX11_of_167 : decode cX11_of 167 = .ok (.getfield 136, 3) := by decide +kernel
theorem dX11_of_170 : decode cX11_of 170 = .ok (.iload_n 1, 1) := by decide +kernel
theorem dX11_of_171 : decode cX11_of 171 = .ok (.iaload, 1) := by decide +kernel
theorem dX11_of_172 : decode cX11_of 172 = .ok (.ireturn, 1) := by decide +kernel
theorem dX11_of_173 : decode cX11_of 173 = .ok (.iconst (-1), 1) := by decide +kernel
theorem dX11_of_174 : decode cX11_of 174 = .ok (.ireturn, 1) := by decide +kernel
theorem dX11_set_0 : decode cX11_set 0 = .ok (.aload_n 0, 1) := by decide +kernel
theorem dX11_set_1 : decode cX11_set 1 = .ok (.getfield 54, 3) := by decide +kernel
theorem dX11_set_4 : decode cX11_set 4 = .ok (.iload_n 1, 1) := by decide +kernel
theorem dX11_set_5 : decode cX11_set 5 = .ok (.invokevirtual 104, 3) := by decide +kernel
theorem dX11_set_8 : decode cX11_set 8 = .ok (.ifCond .eq 12, 3) := by decide +kernel
theorem dX11_set_11 : decode cX11_set 11 = .ok (.iload_n 2, 1) := by decide +kernel
theorem dX11_set_12 : decode cX11_set 12 = .ok (.iconst 0, 1) := by decide +kernel
theorem dX11_set_13 : decode cX11_set 13 = .ok (.iconst 1, 1) := by decide +kernel
theorem dX11_set_14 : decode cX11_set 14 = .ok (.invokestatic 92, 3) := by decide +kernel
theorem dX11_set_17 : decode cX11_set 17 = .ok (.ifCond .ne 5, 3) := by decide +kernel
theorem dX11_set_20 : decode cX11_set 20 = .ok (.iconst (-1), 1) := by decide +kernel
theorem dX11_set_21 : decode cX11_set 21 = .ok (.ireturn, 1) := by decide +kernel
theorem dX11_set_22 : decode cX11_set 22 = .ok (.iload_n 3, 1) := by decide +kernel
theorem dX11_set_23 : decode cX11_set 23 = .ok (.iconst 0, 1) := by decide +kernel
theorem dX11_set_24 : decode cX11_set 24 = .ok (.iload_n 2, 1) := by decide +kernel
theorem dX11_set_25 : decode cX11_set 25 = .ok (.ifCond .ne 18, 3) := by decide +kernel
theorem dX11_set_28 : decode cX11_set 28 = .ok (.aload_n 0, 1) := by decide +kernel
theorem dX11_set_29 : decode cX11_set 29 = .ok (.getfield 54, 3) := by decide +kernel
theorem dX11_set_32 : decode cX11_set 32 = .ok (.getfield 139, 3) := by decide +kernel
theorem dX11_set_35 : decode cX11_set 35 = .ok (.getfield 143, 3) := by decide +kernel
theorem dX11_set_38 : decode cX11_set 38 = .ok (.iconst 1, 1) := by decide +kernel
theorem dX11_set_39 : decode cX11_set 39 = .ok (.isub, 1) := by decide +kernel
theorem dX11_set_40 : decode cX11_set 40 = .ok (.goto 5, 3) := by decide +kernel
theorem dX11_set_43 : decode cX11_set 43 = .ok (.bipush 9, 2) := by decide +kernel
theorem dX11_set_45 : decode cX11_set 45 = .ok (.invokestatic 92, 3) := by decide +kernel
theorem dX11_set_48 : decode cX11_set 48 = .ok (.ifCond .ne 6, 3) := by decide +kernel
theorem dX11_set_51 : decode cX11_set 51 = .ok (.bipush (-2), 2) := by decide +kernel
theorem dX11_set_53 : decode cX11_set 53 = .ok (.ireturn, 1) := by decide +kernel
theorem dX11_set_54 : decode cX11_set 54 = .ok (.iload_n 2, 1) := by decide +kernel
theorem dX11_set_55 : decode cX11_set 55 = .ok (.ifCond .ne 26, 3) := by decide +kernel
theorem dX11_set_58 : decode cX11_set 58 = .ok (.aload_n 0, 1) := by decide +kernel
theorem dX11_set_59 : decode cX11_set 59 = .ok (.getfield 54, 3) := by decide +kernel
theorem dX11_set_62 : decode cX11_set 62 = .ok (.getfield 118, 3) := by decide +kernel
theorem dX11_set_65 : decode cX11_set 65 = .ok (.iload_n 1, 1) := by decide +kernel
theorem dX11_set_66 : decode cX11_set 66 = .ok (.iaload, 1) := by decide +kernel
theorem dX11_set_67 : decode cX11_set 67 = .ok (.istore 4, 2) := by decide +kernel
theorem dX11_set_69 : decode cX11_set 69 = .ok (.aload_n 0, 1) := by decide +kernel
theorem dX11_set_70 : decode cX11_set 70 = .ok (.getfield 54, 3) := by decide +kernel
theorem dX11_set_73 : decode cX11_set 73 = .ok (.iload_n 1, 1) := by decide +kernel
theorem dX11_set_74 : decode cX11_set 74 = .ok (.iload_n 3, 1) := by decide +kernel
theorem dX11_set_75 : decode cX11_set 75 = .ok (.invokevirtual 146, 3) := by decide +kernel
theorem dX11_set_78 : decode cX11_set 78 = .ok (.iload 4, 2) := by decide +kernel
theorem dX11_set_80 : decode cX11_set 80 = .ok (.ireturn, 1) := by decide +kernel
theorem dX11_set_81 : decode cX11_set 81 = .ok (.aload_n 0, 1) := by decide +kernel
theorem dX11_set_82 : decode cX11_set 82 = .ok (.getfield 54, 3) := by decide +kernel
theorem dX11_set_85 : decode cX11_set 85 = .ok (.getfield 121, 3) := by decide +kernel
theorem dX11_set_88 : decode cX11_set 88 = .ok (.iload_n 1, 1) := by decide +kernel
theorem dX11_set_89 : decode cX11_set 89 = .ok (.iaload, 1) := by decide +kernel
theorem dX11_set_90 : decode cX11_set 90 = .ok (.istore 4, 2) := by decide +kernel
theorem dX11_set_92 : decode cX11_set 92 = .ok (.aload_n 0, 1) := by decide +kernel
theorem dX11_set_93 : decode cX11_set 93 = .ok (.getfield 54, 3) := by decide +kernel
theorem dX11_set_96 : decode cX11_set 96 = .ok (.getfield 121, 3) := by decide +kernel
theorem dX11_set_99 : decode cX11_set 99 = .ok (.iload_n 1, 1) := by decide +kernel
theorem dX11_set_100 : decode cX11_set 100 = .ok (.iload_n 3, 1) := by decide +kernel
theorem dX11_set_101 : decode cX11_set 101 = .ok (.iastore, 1) := by decide +kernel
theorem dX11_set_102 : decode cX11_set 102 = .ok (.iload 4, 2) := by decide +kernel
theorem dX11_set_104 : decode cX11_set 104 = .ok (.ireturn, 1) := by decide +kernel
theorem dX11_row_0 : decode cX11_row 0 = .ok (.aload_n 0, 1) := by decide +kernel
theorem dX11_row_1 : decode cX11_row 1 = .ok (.getfield 54, 3) := by decide +kernel
theorem dX11_row_4 : decode cX11_row 4 = .ok (.iload_n 1, 1) := by decide +kernel
theorem dX11_row_5 : decode cX11_row 5 = .ok (.invokevirtual 104, 3) := by decide +kernel
theorem dX11_row_8 : decode cX11_row 8 = .ok (.ifCond .eq 12, 3) := by decide +kernel
theorem dX11_row_11 : decode cX11_row 11 = .ok (.iload_n 2, 1) := by decide +kernel
theorem dX11_row_12 : decode cX11_row 12 = .ok (.iconst 0, 1) := by decide +kernel
theorem dX11_row_13 : decode cX11_row 13 = .ok (.iconst 3, 1) := by decide +kernel
theorem dX11_row_14 : decode cX11_row 14 = .ok (.invokestatic 92, 3) := by decide +kernel
theorem dX11_row_17 : decode cX11_row 17 = .ok (.ifCond .ne 5, 3) := by decide +kernel
theorem dX11_row_20 : decode cX11_row 20 = .ok (.iconst (-1), 1) := by decide +kernel
theorem dX11_row_21 : decode cX11_row 21 = .ok (.ireturn, 1) := by decide +kernel
theorem dX11_row_22 : decode cX11_row 22 = .ok (.iload_n 3, 1) := by decide +kernel
theorem dX11_row_23 : decode cX11_row 23 = .ok (.iconst 0, 1) := by decide +kernel
theorem dX11_row_24 : decode cX11_row 24 = .ok (.bipush 9, 2) := by decide +kernel
theorem dX11_row_26 : decode cX11_row 26 = .ok (.invokestatic 92, 3) := by decide +kernel
theorem dX11_row_29 : decode cX11_row 29 = .ok (.ifCond .ne 6, 3) := by decide +kernel
theorem dX11_row_32 : decode cX11_row 32 = .ok (.bipush (-2), 2) := by decide +kernel
theorem dX11_row_34 : decode cX11_row 34 = .ok (.ireturn, 1) := by decide +kernel
theorem dX11_row_35 : decode cX11_row 35 = .ok (.aload_n 0, 1) := by decide +kernel
theorem dX11_row_36 : decode cX11_row 36 = .ok (.getfield 54, 3) := by decide +kernel
theorem dX11_row_39 : decode cX11_row 39 = .ok (.getfield 112, 3) := by decide +kernel
theorem dX11_row_42 : decode cX11_row 42 = .ok (.iload_n 1, 1) := by decide +kernel
theorem dX11_row_43 : decode cX11_row 43 = .ok (.iaload, 1) := by decide +kernel
theorem dX11_row_44 : decode cX11_row 44 = .ok (.bipush 6, 2) := by decide +kernel
theorem dX11_row_46 : decode cX11_row 46 = .ok (.if_icmp .eq 6, 3) := by decide +kernel
theorem dX11_row_49 : decode cX11_row 49 = .ok (.bipush (-3), 2) := by decide +kernel
theorem dX11_row_51 : decode cX11_row 51 = .ok (.ireturn, 1) := by decide +kernel
theorem dX11_row_52 : decode cX11_row 52 = .ok (.aload_n 0, 1) := by decide +kernel
theorem dX11_row_53 : decode cX11_row 53 = .ok (.getfield 54, 3) := by decide +kernel
theorem dX11_row_56 : decode cX11_row 56 = .ok (.getfield 150, 3) := by decide +kernel
theorem dX11_row_59 : decode cX11_row 59 = .ok (.iload_n 1, 1) := by decide +kernel
theorem dX11_row_60 : decode cX11_row 60 = .ok (.iconst 4, 1) := by decide +kernel
theorem dX11_row_61 : decode cX11_row 61 = .ok (.imul, 1) := by decide +kernel
theorem dX11_row_62 : decode cX11_row 62 = .ok (.iload_n 2, 1) := by decide +kernel
theorem dX11_row_63 : decode cX11_row 63 = .ok (.iadd, 1) := by decide +kernel
theorem dX11_row_64 : decode cX11_row 64 = .ok (.iaload, 1) := by decide +kernel
theorem dX11_row_65 : decode cX11_row 65 = .ok (.istore 4, 2) := by decide +kernel
theorem dX11_row_67 : decode cX11_row 67 = .ok (.aload_n 0, 1) := by decide +kernel
theorem dX11_row_68 : decode cX11_row 68 = .ok (.getfield 54, 3) := by decide +kernel
theorem dX11_row_71 : decode cX11_row 71 = .ok (.getfield 150, 3) := by decide +kernel
theorem dX11_row_74 : decode cX11_row 74 = .ok (.iload_n 1, 1) := by decide +kernel
theorem dX11_row_75 : decode cX11_row 75 = .ok (.iconst 4, 1) := by decide +kernel
theorem dX11_row_76 : decode cX11_row 76 = .ok (.imul, 1) := by decide +kernel
theorem dX11_row_77 : decode cX11_row 77 = .ok (.iload_n 2, 1) := by decide +kernel
theorem dX11_row_78 : decode cX11_row 78 = .ok (.iadd, 1) := by decide +kernel
theorem dX11_row_79 : decode cX11_row 79 = .ok (.iload_n 3, 1) := by decide +kernel
theorem dX11_row_80 : decode cX11_row 80 = .ok (.iastore, 1) := by decide +kernel
theorem dX11_row_81 : decode cX11_row 81 = .ok (.iload 4, 2) := by decide +kernel
theorem dX11_row_83 : decode cX11_row 83 = .ok (.ireturn, 1) := by decide +kernel
theorem dX11_counts_0 : decode cX11_counts 0 = .ok (.iload_n 1, 1) := by decide +kernel
theorem dX11_counts_1 : decode cX11_counts 1 = .ok (.iconst 0, 1) := by decide +kernel
theorem dX11_counts_2 : decode cX11_counts 2 = .ok (.iconst 3, 1) := by decide +kernel
theorem dX11_counts_3 : decode cX11_counts 3 = .ok (.invokestatic 92, 3) := by decide +kernel
theorem dX11_counts_6 : decode cX11_counts 6 = .ok (.ifCond .ne 5, 3) := by decide +kernel
theorem dX11_counts_9 : decode cX11_counts 9 = .ok (.iconst (-1), 1) := by decide +kernel
theorem dX11_counts_10 : decode cX11_counts 10 = .ok (.ireturn, 1) := by decide +kernel
theorem dX11_counts_11 : decode cX11_counts 11 = .ok (.iload_n 2, 1) := by decide +kernel
theorem dX11_counts_12 : decode cX11_counts 12 = .ok (.iconst 1, 1) := by decide +kernel
theorem dX11_counts_13 : decode cX11_counts 13 = .ok (.bipush 9, 2) := by decide +kernel
theorem dX11_counts_15 : decode cX11_counts 15 = .ok (.invokestatic 92, 3) := by decide +kernel
theorem dX11_counts_18 : decode cX11_counts 18 = .ok (.ifCond .ne 6, 3) := by decide +kernel
theorem dX11_counts_21 : decode cX11_counts 21 = .ok (.bipush (-2), 2) := by decide +kernel
theorem dX11_counts_23 : decode cX11_counts 23 = .ok (.ireturn, 1) := by decide +kernel
theorem dX11_counts_24 : decode cX11_counts 24 = .ok (.aload_n 0, 1) := by decide +kernel
theorem dX11_counts_25 : decode cX11_counts 25 = .ok (.getfield 54, 3) := by decide +kernel
theorem dX11_counts_28 : decode cX11_counts 28 = .ok (.getfield 153, 3) := by decide +kernel
theorem dX11_counts_31 : decode cX11_counts 31 = .ok (.iload_n 1, 1) := by decide +kernel
theorem dX11_counts_32 : decode cX11_counts 32 = .ok (.iaload, 1) := by decide +kernel
theorem dX11_counts_33 : decode cX11_counts 33 = .ok (.istore_n 3, 1) := by decide +kernel
theorem dX11_counts_34 : decode cX11_counts 34 = .ok (.aload_n 0, 1) := by decide +kernel
theorem dX11_counts_35 : decode cX11_counts 35 = .ok (.getfield 54, 3) := by decide +kernel
theorem dX11_counts_38 : decode cX11_counts 38 = .ok (.getfield 153, 3) := by decide +kernel
theorem dX11_counts_41 : decode cX11_counts 41 = .ok (.iload_n 1, 1) := by decide +kernel
theorem dX11_counts_42 : decode cX11_counts 42 = .ok (.iload_n 2, 1) := by decide +kernel
theorem dX11_counts_43 : decode cX11_counts 43 = .ok (.iastore, 1) := by decide +kernel
theorem dX11_counts_44 : decode cX11_counts 44 = .ok (.iload_n 3, 1) := by decide +kernel
theorem dX11_counts_45 : decode cX11_counts 45 = .ok (.ireturn, 1) := by decide +kernel
theorem dX11_feed_0 : decode cX11_feed 0 = .ok (.iload_n 1, 1) := by decide +kernel
theorem dX11_feed_1 : decode cX11_feed 1 = .ok (.iconst 0, 1) := by decide +kernel
theorem dX11_feed_2 : decode cX11_feed 2 = .ok (.bipush 127, 2) := by decide +kernel
theorem dX11_feed_4 : decode cX11_feed 4 = .ok (.invokestatic 92, 3) := by decide +kernel
theorem dX11_feed_7 : decode cX11_feed 7 = .ok (.ifCond .ne 6, 3) := by decide +kernel
theorem dX11_feed_10 : decode cX11_feed 10 = .ok (.bipush (-2), 2) := by decide +kernel
theorem dX11_feed_12 : decode cX11_feed 12 = .ok (.ireturn, 1) := by decide +kernel
theorem dX11_feed_13 : decode cX11_feed 13 = .ok (.aload_n 0, 1) := by decide +kernel
theorem dX11_feed_14 : decode cX11_feed 14 = .ok (.getfield 156, 3) := by decide +kernel
theorem dX11_feed_17 : decode cX11_feed 17 = .ok (.bipush 100, 2) := by decide +kernel
theorem dX11_feed_19 : decode cX11_feed 19 = .ok (.if_icmp .lt 6, 3) := by decide +kernel
theorem dX11_feed_22 : decode cX11_feed 22 = .ok (.bipush (-4), 2) := by decide +kernel
theorem dX11_feed_24 : decode cX11_feed 24 = .ok (.ireturn, 1) := by decide +kernel
theorem dX11_feed_25 : decode cX11_feed 25 = .ok (.aload_n 0, 1) := by decide +kernel
theorem dX11_feed_26 : decode cX11_feed 26 = .ok (.getfield 36, 3) := by decide +kernel
theorem dX11_feed_29 : decode cX11_feed 29 = .ok (.aload_n 0, 1) := by decide +kernel
theorem dX11_feed_30 : decode cX11_feed 30 = .ok (.getfield 156, 3) := by decide +kernel
theorem dX11_feed_33 : decode cX11_feed 33 = .ok (.iload_n 1, 1) := by decide +kernel
theorem dX11_feed_34 : decode cX11_feed 34 = .ok (.i2b, 1) := by decide +kernel
theorem dX11_feed_35 : decode cX11_feed 35 = .ok (.bastore, 1) := by decide +kernel
theorem dX11_feed_36 : decode cX11_feed 36 = .ok (.aload_n 0, 1) := by decide +kernel
theorem dX11_feed_37 : decode cX11_feed 37 = .ok (.dup, 1) := by decide +kernel
theorem dX11_feed_38 : decode cX11_feed 38 = .ok (.getfield 156, 3) := by decide +kernel
theorem dX11_feed_41 : decode cX11_feed 41 = .ok (.iconst 1, 1) := by decide +kernel
theorem dX11_feed_42 : decode cX11_feed 42 = .ok (.iadd, 1) := by decide +kernel
theorem dX11_feed_43 : decode cX11_feed 43 = .ok (.putfield 156, 3) := by decide +kernel
theorem dX11_feed_46 : decode cX11_feed 46 = .ok (.aload_n 0, 1) := by decide +kernel
theorem dX11_feed_47 : decode cX11_feed 47 = .ok (.getfield 156, 3) := by decide +kernel
theorem dX11_feed_50 : decode cX11_feed 50 = .ok (.ireturn, 1) := by decide +kernel
theorem dX11_yard_0 : decode cX11_yard 0 = .ok (.aload_n 0, 1) := by decide +kernel
theorem dX11_yard_1 : decode cX11_yard 1 = .ok (.getfield 159, 3) := by decide +kernel
theorem dX11_yard_4 : decode cX11_yard 4 = .ok (.bipush 6, 2) := by decide +kernel
theorem dX11_yard_6 : decode cX11_yard 6 = .ok (.if_icmp .lt 6, 3) := by decide +kernel
theorem dX11_yard_9 : decode cX11_yard 9 = .ok (.bipush (-4), 2) := by decide +kernel
theorem dX11_yard_11 : decode cX11_yard 11 = .ok (.ireturn, 1) := by decide +kernel
theorem dX11_yard_12 : decode cX11_yard 12 = .ok (.aload_n 0, 1) := by decide +kernel
theorem dX11_yard_13 : decode cX11_yard 13 = .ok (.getfield 42, 3) := by decide +kernel
theorem dX11_yard_16 : decode cX11_yard 16 = .ok (.aload_n 0, 1) := by decide +kernel
theorem dX11_yard_17 : decode cX11_yard 17 = .ok (.getfield 159, 3) := by decide +kernel
theorem dX11_yard_20 : decode cX11_yard 20 = .ok (.iconst 1, 1) := by decide +kernel
theorem dX11_yard_21 : decode cX11_yard 21 = .ok (.iadd, 1) := by decide +kernel
theorem dX11_yard_22 : decode cX11_yard 22 = .ok (.aaload, 1) := by decide +kernel
theorem dX11_yard_23 : decode cX11_yard 23 = .ok (.astore_n 1, 1) := by decide +kernel
theorem dX11_yard_24 : decode cX11_yard 24 = .ok (.aload_n 1, 1) := by decide +kernel
theorem dX11_yard_25 : decode cX11_yard 25 = .ok (.aload_n 0, 1) := by decide +kernel
theorem dX11_yard_26 : decode cX11_yard 26 = .ok (.getfield 156, 3) := by decide +kernel
theorem dX11_yard_29 : decode cX11_yard 29 = .ok (.invokevirtual 162, 3) := by decide +kernel
theorem dX11_yard_32 : decode cX11_yard 32 = .ok (.istore_n 2, 1) := by decide +kernel
theorem dX11_yard_33 : decode cX11_yard 33 = .ok (.aload_n 0, 1) := by decide +kernel
theorem dX11_yard_34 : decode cX11_yard 34 = .ok (.iconst 0, 1) := by decide +kernel
theorem dX11_yard_35 : decode cX11_yard 35 = .ok (.putfield 156, 3) := by decide +kernel
theorem dX11_yard_38 : decode cX11_yard 38 = .ok (.iload_n 2, 1) := by decide +kernel
theorem dX11_yard_39 : decode cX11_yard 39 = .ok (.iconst (-1), 1) := by decide +kernel
theorem dX11_yard_40 : decode cX11_yard 40 = .ok (.if_icmp .eq 8, 3) := by decide +kernel
theorem dX11_yard_43 : decode cX11_yard 43 = .ok (.bipush (-10), 2) := by decide +kernel
theorem dX11_yard_45 : decode cX11_yard 45 = .ok (.iload_n 2, 1) := by decide +kernel
theorem dX11_yard_46 : decode cX11_yard 46 = .ok (.isub, 1) := by decide +kernel
theorem dX11_yard_47 : decode cX11_yard 47 = .ok (.ireturn, 1) := by decide +kernel
theorem dX11_yard_48 : decode cX11_yard 48 = .ok (.aload_n 0, 1) := by decide +kernel
theorem dX11_yard_49 : decode cX11_yard 49 = .ok (.getfield 54, 3) := by decide +kernel
theorem dX11_yard_52 : decode cX11_yard 52 = .ok (.aload_n 1, 1) := by decide +kernel
theorem dX11_yard_53 : decode cX11_yard 53 = .ok (.putfield 139, 3) := by decide +kernel
theorem dX11_yard_56 : decode cX11_yard 56 = .ok (.aload_n 0, 1) := by decide +kernel
theorem dX11_yard_57 : decode cX11_yard 57 = .ok (.dup, 1) := by decide +kernel
theorem dX11_yard_58 : decode cX11_yard 58 = .ok (.getfield 159, 3) := by decide +kernel
theorem dX11_yard_61 : decode cX11_yard 61 = .ok (.iconst 1, 1) := by decide +kernel
theorem dX11_yard_62 : decode cX11_yard 62 = .ok (.iadd, 1) := by decide +kernel
theorem dX11_yard_63 : decode cX11_yard 63 = .ok (.putfield 159, 3) := by decide +kernel
theorem dX11_yard_66 : decode cX11_yard 66 = .ok (.aload_n 0, 1) := by decide +kernel
theorem dX11_yard_67 : decode cX11_yard 67 = .ok (.getfield 159, 3) := by decide +kernel
theorem dX11_yard_70 : decode cX11_yard 70 = .ok (.iconst 1, 1) := by decide +kernel
theorem dX11_yard_71 : decode cX11_yard 71 = .ok (.isub, 1) := by decide +kernel
theorem dX11_yard_72 : decode cX11_yard 72 = .ok (.ireturn, 1) := by decide +kernel
theorem dX11_told_0 : decode cX11_told 0 = .ok (.iload_n 1, 1) := by decide +kernel
theorem dX11_told_1 : decode cX11_told 1 = .ok (.tableswitch 84 0 4 #[35, 43, 54, 65, 76], 35) := by decide +kernel
theorem dX11_told_36 : decode cX11_told 36 = .ok (.aload_n 0, 1) := by decide +kernel
theorem dX11_told_37 : decode cX11_told 37 = .ok (.getfield 54, 3) := by decide +kernel
theorem dX11_told_40 : decode cX11_told 40 = .ok (.getfield 166, 3) := by decide +kernel
theorem dX11_told_43 : decode cX11_told 43 = .ok (.ireturn, 1) := by decide +kernel
theorem dX11_told_44 : decode cX11_told 44 = .ok (.aload_n 0, 1) := by decide +kernel
theorem dX11_told_45 : decode cX11_told 45 = .ok (.getfield 54, 3) := by decide +kernel
theorem dX11_told_48 : decode cX11_told 48 = .ok (.getfield 139, 3) := by decide +kernel
theorem dX11_told_51 : decode cX11_told 51 = .ok (.getfield 143, 3) := by decide +kernel
theorem dX11_told_54 : decode cX11_told 54 = .ok (.ireturn, 1) := by decide +kernel
theorem dX11_told_55 : decode cX11_told 55 = .ok (.aload_n 0, 1) := by decide +kernel
theorem dX11_told_56 : decode cX11_told 56 = .ok (.getfield 54, 3) := by decide +kernel
theorem dX11_told_59 : decode cX11_told 59 = .ok (.getfield 139, 3) := by decide +kernel
theorem dX11_told_62 : decode cX11_told 62 = .ok (.getfield 169, 3) := by decide +kernel
theorem dX11_told_65 : decode cX11_told 65 = .ok (.ireturn, 1) := by decide +kernel
theorem dX11_told_66 : decode cX11_told 66 = .ok (.aload_n 0, 1) := by decide +kernel
theorem dX11_told_67 : decode cX11_told 67 = .ok (.getfield 54, 3) := by decide +kernel
theorem dX11_told_70 : decode cX11_told 70 = .ok (.getfield 139, 3) := by decide +kernel
theorem dX11_told_73 : decode cX11_told 73 = .ok (.getfield 172, 3) := by decide +kernel
theorem dX11_told_76 : decode cX11_told 76 = .ok (.ireturn, 1) := by decide +kernel
theorem dX11_told_77 : decode cX11_told 77 = .ok (.aload_n 0, 1) := by decide +kernel
theorem dX11_told_78 : decode cX11_told 78 = .ok (.getfield 54, 3) := by decide +kernel
theorem dX11_told_81 : decode cX11_told 81 = .ok (.getfield 175, 3) := by decide +kernel
theorem dX11_told_84 : decode cX11_told 84 = .ok (.ireturn, 1) := by decide +kernel
theorem dX11_told_85 : decode cX11_told 85 = .ok (.iload_n 1, 1) := by decide +kernel
theorem dX11_told_86 : decode cX11_told 86 = .ok (.bipush 10, 2) := by decide +kernel
theorem dX11_told_88 : decode cX11_told 88 = .ok (.bipush 13, 2) := by decide +kernel
theorem dX11_told_90 : decode cX11_told 90 = .ok (.invokestatic 92, 3) := by decide +kernel
theorem dX11_told_93 : decode cX11_told 93 = .ok (.ifCond .ne 5, 3) := by decide +kernel
theorem dX11_told_96 : decode cX11_told 96 = .ok (.iconst (-1), 1) := by decide +kernel
theorem dX11_told_97 : decode cX11_told 97 = .ok (.ireturn, 1) := by decide +kernel
theorem dX11_told_98 : decode cX11_told 98 = .ok (.aload_n 0, 1) := by decide +kernel
theorem dX11_told_99 : decode cX11_told 99 = .ok (.getfield 54, 3) := by decide +kernel
theorem dX11_told_102 : decode cX11_told 102 = .ok (.getfield 153, 3) := by decide +kernel
theorem dX11_told_105 : decode cX11_told 105 = .ok (.iload_n 1, 1) := by decide +kernel
theorem dX11_told_106 : decode cX11_told 106 = .ok (.bipush 10, 2) := by decide +kernel
theorem dX11_told_108 : decode cX11_told 108 = .ok (.isub, 1) := by decide +kernel
theorem dX11_told_109 : decode cX11_told 109 = .ok (.iaload, 1) := by decide +kernel
theorem dX11_told_110 : decode cX11_told 110 = .ok (.ireturn, 1) := by decide +kernel
theorem dX11_turn_0 : decode cX11_turn 0 = .ok (.aload_n 0, 1) := by decide +kernel
theorem dX11_turn_1 : decode cX11_turn 1 = .ok (.getfield 54, 3) := by decide +kernel
theorem dX11_turn_4 : decode cX11_turn 4 = .ok (.getfield 166, 3) := by decide +kernel
theorem dX11_turn_7 : decode cX11_turn 7 = .ok (.sipush 9999, 3) := by decide +kernel
theorem dX11_turn_10 : decode cX11_turn 10 = .ok (.if_icmp .lt 6, 3) := by decide +kernel
theorem dX11_turn_13 : decode cX11_turn 13 = .ok (.bipush (-3), 2) := by decide +kernel
theorem dX11_turn_15 : decode cX11_turn 15 = .ok (.ireturn, 1) := by decide +kernel
theorem dX11_turn_16 : decode cX11_turn 16 = .ok (.aload_n 0, 1) := by decide +kernel
theorem dX11_turn_17 : decode cX11_turn 17 = .ok (.getfield 69, 3) := by decide +kernel
theorem dX11_turn_20 : decode cX11_turn 20 = .ok (.aload_n 0, 1) := by decide +kernel
theorem dX11_turn_21 : decode cX11_turn 21 = .ok (.getfield 54, 3) := by decide +kernel
theorem dX11_turn_24 : decode cX11_turn 24 = .ok (.iconst 1, 1) := by decide +kernel
theorem dX11_turn_25 : decode cX11_turn 25 = .ok (.invokevirtual 178, 3) := by decide +kernel
theorem dX11_turn_28 : decode cX11_turn 28 = .ok (.ireturn, 1) := by decide +kernel
theorem dX11_on_0 : decode cX11_on 0 = .ok (.iload_n 2, 1) := by decide +kernel
theorem dX11_on_1 : decode cX11_on 1 = .ok (.bipush 10, 2) := by decide +kernel
theorem dX11_on_3 : decode cX11_on 3 = .ok (.bipush 16, 2) := by decide +kernel
theorem dX11_on_5 : decode cX11_on 5 = .ok (.invokestatic 92, 3) := by decide +kernel
theorem dX11_on_8 : decode cX11_on 8 = .ok (.ifCond .eq 21, 3) := by decide +kernel
theorem dX11_on_11 : decode cX11_on 11 = .ok (.aload_n 0, 1) := by decide +kernel
theorem dX11_on_12 : decode cX11_on 12 = .ok (.getfield 54, 3) := by decide +kernel
theorem dX11_on_15 : decode cX11_on 15 = .ok (.iload_n 2, 1) := by decide +kernel
theorem dX11_on_16 : decode cX11_on 16 = .ok (.bipush 10, 2) := by decide +kernel
theorem dX11_on_18 : decode cX11_on 18 = .ok (.isub, 1) := by decide +kernel
theorem dX11_on_19 : decode cX11_on 19 = .ok (.invokevirtual 104, 3) := by decide +kernel
theorem dX11_on_22 : decode cX11_on 22 = .ok (.ifCond .eq 7, 3) := by decide +kernel
theorem dX11_on_25 : decode cX11_on 25 = .ok (.iconst 1, 1) := by decide +kernel
theorem dX11_on_26 : decode cX11_on 26 = .ok (.goto 4, 3) := by decide +kernel
theorem dX11_on_29 : decode cX11_on 29 = .ok (.iconst 0, 1) := by decide +kernel
theorem dX11_on_30 : decode cX11_on 30 = .ok (.istore_n 3, 1) := by decide +kernel
theorem dX11_on_31 : decode cX11_on 31 = .ok (.iload_n 3, 1) := by decide +kernel
theorem dX11_on_32 : decode cX11_on 32 = .ok (.ifCond .ne 14, 3) := by decide +kernel
theorem dX11_on_35 : decode cX11_on 35 = .ok (.iload_n 2, 1) := by decide +kernel
theorem dX11_on_36 : decode cX11_on 36 = .ok (.iconst 0, 1) := by decide +kernel
theorem dX11_on_37 : decode cX11_on 37 = .ok (.iconst 1, 1) := by decide +kernel
theorem dX11_on_38 : decode cX11_on 38 = .ok (.invokestatic 92, 3) := by decide +kernel
theorem dX11_on_41 : decode cX11_on 41 = .ok (.ifCond .ne 5, 3) := by decide +kernel
theorem dX11_on_44 : decode cX11_on 44 = .ok (.iconst (-1), 1) := by decide +kernel
theorem dX11_on_45 : decode cX11_on 45 = .ok (.ireturn, 1) := by decide +kernel
theorem dX11_on_46 : decode cX11_on 46 = .ok (.iload_n 1, 1) := by decide +kernel
theorem dX11_on_47 : decode cX11_on 47 = .ok (.iconst 0, 1) := by decide +kernel
theorem dX11_on_48 : decode cX11_on 48 = .ok (.bipush 40, 2) := by decide +kernel
theorem dX11_on_50 : decode cX11_on 50 = .ok (.invokestatic 92, 3) := by decide +kernel
theorem dX11_on_53 : decode cX11_on 53 = .ok (.ifCond .ne 6, 3) := by decide +kernel
theorem dX11_on_56 : decode cX11_on 56 = .ok (.bipush (-2), 2) := by decide +kernel
theorem dX11_on_58 : decode cX11_on 58 = .ok (.ireturn, 1) := by decide +kernel
theorem dX11_on_59 : decode cX11_on 59 = .ok (.aload_n 0, 1) := by decide +kernel
theorem dX11_on_60 : decode cX11_on 60 = .ok (.getfield 58, 3) := by decide +kernel
theorem dX11_on_63 : decode cX11_on 63 = .ok (.aload_n 0, 1) := by decide +kernel
theorem dX11_on_64 : decode cX11_on 64 = .ok (.getfield 54, 3) := by decide +kernel
theorem dX11_on_67 : decode cX11_on 67 = .ok (.invokevirtual 182, 3) := by decide +kernel
theorem dX11_on_70 : decode cX11_on 70 = .ok (.aload_n 0, 1) := by decide +kernel
theorem dX11_on_71 : decode cX11_on 71 = .ok (.getfield 69, 3) := by decide +kernel
theorem dX11_on_74 : decode cX11_on 74 = .ok (.aload_n 0, 1) := by decide +kernel
theorem dX11_on_75 : decode cX11_on 75 = .ok (.getfield 58, 3) := by decide +kernel
theorem dX11_on_78 : decode cX11_on 78 = .ok (.iload_n 1, 1) := by decide +kernel
theorem dX11_on_79 : decode cX11_on 79 = .ok (.invokevirtual 178, 3) := by decide +kernel
theorem dX11_on_82 : decode cX11_on 82 = .ok (.istore 4, 2) := by decide +kernel
theorem dX11_on_84 : decode cX11_on 84 = .ok (.iload_n 3, 1) := by decide +kernel
theorem dX11_on_85 : decode cX11_on 85 = .ok (.ifCond .eq 16, 3) := by decide +kernel
theorem dX11_on_88 : decode cX11_on 88 = .ok (.aload_n 0, 1) := by decide +kernel
theorem dX11_on_89 : decode cX11_on 89 = .ok (.getfield 58, 3) := by decide +kernel
theorem dX11_on_92 : decode cX11_on 92 = .ok (.getfield 118, 3) := by decide +kernel
theorem dX11_on_95 : decode cX11_on 95 = .ok (.iload_n 2, 1) := by decide +kernel
theorem dX11_on_96 : decode cX11_on 96 = .ok (.bipush 10, 2) := by decide +kernel
theorem dX11_on_98 : decode cX11_on 98 = .ok (.isub, 1) := by decide +kernel
theorem dX11_on_99 : decode cX11_on 99 = .ok (.iaload, 1) := by decide +kernel
theorem dX11_on_100 : decode cX11_on 100 = .ok (.ireturn, 1) := by decide +kernel
theorem dX11_on_101 : decode cX11_on 101 = .ok (.iload_n 2, 1) := by decide +kernel
theorem dX11_on_102 : decode cX11_on 102 = .ok (.ifCond .ne 16, 3) := by decide +kernel
theorem dX11_on_105 : decode cX11_on 105 = .ok (.aload_n 0, 1) := by decide +kernel
theorem dX11_on_106 : decode cX11_on 106 = .ok (.getfield 58, 3) := by decide +kernel
theorem dX11_on_109 : decode cX11_on 109 = .ok (.getfield 175, 3) := by decide +kernel
theorem dX11_on_112 : decode cX11_on 112 = .ok (.invokestatic 185, 3) := by decide +kernel
theorem dX11_on_115 : decode cX11_on 115 = .ok (.goto 5, 3) := by decide +kernel
theorem dX11_on_118 : decode cX11_on 118 = .ok (.iload 4, 2) := by decide +kernel
theorem dX11_on_120 : decode cX11_on 120 = .ok (.ireturn, 1) := by decide +kernel
theorem dX11_touches_0 : decode cX11_touches 0 = .ok (.aload_n 0, 1) := by decide +kernel
theorem dX11_touches_1 : decode cX11_touches 1 = .ok (.getfield 54, 3) := by decide +kernel
theorem dX11_touches_4 : decode cX11_touches 4 = .ok (.iload_n 1, 1) := by decide +kernel
theorem dX11_touches_5 : decode cX11_touches 5 = .ok (.invokevirtual 104, 3) := by decide +kernel
theorem dX11_touches_8 : decode cX11_touches 8 = .ok (.ifCond .ne 5, 3) := by decide +kernel
theorem dX11_touches_11 : decode cX11_touches 11 = .ok (.iconst (-1), 1) := by decide +kernel
theorem dX11_touches_12 : decode cX11_touches 12 = .ok (.ireturn, 1) := by decide +kernel
theorem dX11_touches_13 : decode cX11_touches 13 = .ok (.aload_n 0, 1) := by decide +kernel
theorem dX11_touches_14 : decode cX11_touches 14 = .ok (.getfield 58, 3) := by decide +kernel
theorem dX11_touches_17 : decode cX11_touches 17 = .ok (.aload_n 0, 1) := by decide +kernel
theorem dX11_touches_18 : decode cX11_touches 18 = .ok (.getfield 54, 3) := by decide +kernel
theorem dX11_touches_21 : decode cX11_touches 21 = .ok (.invokevirtual 182, 3) := by decide +kernel
theorem dX11_touches_24 : decode cX11_touches 24 = .ok (.aload_n 0, 1) := by decide +kernel
theorem dX11_touches_25 : decode cX11_touches 25 = .ok (.getfield 69, 3) := by decide +kernel
theorem dX11_touches_28 : decode cX11_touches 28 = .ok (.aload_n 0, 1) := by decide +kernel
theorem dX11_touches_29 : decode cX11_touches 29 = .ok (.getfield 58, 3) := by decide +kernel
theorem dX11_touches_32 : decode cX11_touches 32 = .ok (.iconst 1, 1) := by decide +kernel
theorem dX11_touches_33 : decode cX11_touches 33 = .ok (.iload_n 1, 1) := by decide +kernel
theorem dX11_touches_34 : decode cX11_touches 34 = .ok (.ishl, 1) := by decide +kernel
theorem dX11_touches_35 : decode cX11_touches 35 = .ok (.invokevirtual 190, 3) := by decide +kernel
theorem dX11_touches_38 : decode cX11_touches 38 = .ok (.ireturn, 1) := by decide +kernel
theorem dX11_first_0 : decode cX11_first 0 = .ok (.aload_n 0, 1) := by decide +kernel
theorem dX11_first_1 : decode cX11_first 1 = .ok (.getfield 54, 3) := by decide +kernel
theorem dX11_first_4 : decode cX11_first 4 = .ok (.invokevirtual 193, 3) := by decide +kernel
theorem dX11_first_7 : decode cX11_first 7 = .ok (.aload_n 0, 1) := by decide +kernel
theorem dX11_first_8 : decode cX11_first 8 = .ok (.getfield 54, 3) := by decide +kernel
theorem dX11_first_11 : decode cX11_first 11 = .ok (.getfield 175, 3) := by decide +kernel
theorem dX11_first_14 : decode cX11_first 14 = .ok (.iconst (-1), 1) := by decide +kernel
theorem dX11_first_15 : decode cX11_first 15 = .ok (.ixor, 1) := by decide +kernel
theorem dX11_first_16 : decode cX11_first 16 = .ok (.iand, 1) := by decide +kernel
theorem dX11_first_17 : decode cX11_first 17 = .ok (.istore_n 1, 1) := by decide +kernel
theorem dX11_first_18 : decode cX11_first 18 = .ok (.aload_n 0, 1) := by decide +kernel
theorem dX11_first_19 : decode cX11_first 19 = .ok (.getfield 58, 3) := by decide +kernel
theorem dX11_first_22 : decode cX11_first 22 = .ok (.aload_n 0, 1) := by decide +kernel
theorem dX11_first_23 : decode cX11_first 23 = .ok (.getfield 54, 3) := by decide +kernel
theorem dX11_first_26 : decode cX11_first 26 = .ok (.invokevirtual 182, 3) := by decide +kernel
theorem dX11_first_29 : decode cX11_first 29 = .ok (.iload_n 1, 1) := by decide +kernel
theorem dX11_first_30 : decode cX11_first 30 = .ok (.ifCond .eq 20, 3) := by decide +kernel
theorem dX11_first_33 : decode cX11_first 33 = .ok (.aload_n 0, 1) := by decide +kernel
theorem dX11_first_34 : decode cX11_first 34 = .ok (.getfield 69, 3) := by decide +kernel
theorem dX11_first_37 : decode cX11_first 37 = .ok (.aload_n 0, 1) := by decide +kernel
theorem dX11_first_38 : decode cX11_first 38 = .ok (.getfield 58, 3) := by decide +kernel
theorem dX11_first_41 : decode cX11_first 41 = .ok (.iload_n 1, 1) := by decide +kernel
theorem dX11_first_42 : decode cX11_first 42 = .ok (.invokevirtual 190, 3) := by decide +kernel
theorem dX11_first_45 : decode cX11_first 45 = .ok (.bipush (-5), 2) := by decide +kernel
theorem dX11_first_47 : decode cX11_first 47 = .ok (.if_icmp .ne 6, 3) := by decide +kernel
theorem dX11_first_50 : decode cX11_first 50 = .ok (.bipush (-5), 2) := by decide +kernel
theorem dX11_first_52 : decode cX11_first 52 = .ok (.ireturn, 1) := by decide +kernel
theorem dX11_first_53 : decode cX11_first 53 = .ok (.iconst 0, 1) := by decide +kernel
theorem dX11_first_54 : decode cX11_first 54 = .ok (.istore_n 2, 1) := by decide +kernel
theorem dX11_first_55 : decode cX11_first 55 = .ok (.iload_n 2, 1) := by decide +kernel
theorem dX11_first_56 : decode cX11_first 56 = .ok (.aload_n 0, 1) := by decide +kernel
theorem dX11_first_57 : decode cX11_first 57 = .ok (.getfield 58, 3) := by decide +kernel
theorem dX11_first_60 : decode cX11_first 60 = .ok (.getfield 96, 3) := by decide +kernel
theorem dX11_first_63 : decode cX11_first 63 = .ok (.iconst 1, 1) := by decide +kernel
theorem dX11_first_64 : decode cX11_first 64 = .ok (.isub, 1) := by decide +kernel
theorem dX11_first_65 : decode cX11_first 65 = .ok (.if_icmp .ge 25, 3) := by decide +kernel
theorem dX11_first_68 : decode cX11_first 68 = .ok (.aload_n 0, 1) := by decide +kernel
theorem dX11_first_69 : decode cX11_first 69 = .ok (.getfield 58, 3) := by decide +kernel
theorem dX11_first_72 : decode cX11_first 72 = .ok (.getfield 175, 3) := by decide +kernel
theorem dX11_first_75 : decode cX11_first 75 = .ok (.iload_n 1, 1) := by decide +kernel
theorem dX11_first_76 : decode cX11_first 76 = .ok (.iand, 1) := by decide +kernel
theorem dX11_first_77 : decode cX11_first 77 = .ok (.iconst 1, 1) := by decide +kernel
theorem dX11_first_78 : decode cX11_first 78 = .ok (.iload_n 2, 1) := by decide +kernel
theorem dX11_first_79 : decode cX11_first 79 = .ok (.ishl, 1) := by decide +kernel
theorem dX11_first_80 : decode cX11_first 80 = .ok (.iand, 1) := by decide +kernel
theorem dX11_first_81 : decode cX11_first 81 = .ok (.ifCond .ne 9, 3) := by decide +kernel
theorem dX11_first_84 : decode cX11_first 84 = .ok (.iinc 2 1, 3) := by decide +kernel
theorem dX11_first_87 : decode cX11_first 87 = .ok (.goto (-32), 3) := by decide +kernel
theorem dX11_first_90 : decode cX11_first 90 = .ok (.iload_n 2, 1) := by decide +kernel
theorem dX11_first_91 : decode cX11_first 91 = .ok (.ireturn, 1) := by decide +kernel
theorem dX11_risks_0 : decode cX11_risks 0 = .ok (.aload_n 0, 1) := by decide +kernel
theorem dX11_risks_1 : decode cX11_risks 1 = .ok (.getfield 69, 3) := by decide +kernel
theorem dX11_risks_4 : decode cX11_risks 4 = .ok (.aload_n 0, 1) := by decide +kernel
theorem dX11_risks_5 : decode cX11_risks 5 = .ok (.getfield 54, 3) := by decide +kernel
theorem dX11_risks_8 : decode cX11_risks 8 = .ok (.invokevirtual 108, 3) := by decide +kernel
theorem dX11_risks_11 : decode cX11_risks 11 = .ok (.iconst 0, 1) := by decide +kernel
theorem dX11_risks_12 : decode cX11_risks 12 = .ok (.istore_n 1, 1) := by decide +kernel
theorem dX11_risks_13 : decode cX11_risks 13 = .ok (.iconst 0, 1) := by decide +kernel
theorem dX11_risks_14 : decode cX11_risks 14 = .ok (.istore_n 2, 1) := by decide +kernel
theorem dX11_risks_15 : decode cX11_risks 15 = .ok (.iload_n 2, 1) := by decide +kernel
theorem dX11_risks_16 : decode cX11_risks 16 = .ok (.aload_n 0, 1) := by decide +kernel
theorem dX11_risks_17 : decode cX11_risks 17 = .ok (.getfield 54, 3) := by decide +kernel
theorem dX11_risks_20 : decode cX11_risks 20 = .ok (.getfield 96, 3) := by decide +kernel
theorem dX11_risks_23 : decode cX11_risks 23 = .ok (.if_icmp .ge 48, 3) := by decide +kernel
theorem dX11_risks_26 : decode cX11_risks 26 = .ok (.aload_n 0, 1) := by decide +kernel
theorem dX11_risks_27 : decode cX11_risks 27 = .ok (.getfield 54, 3) := by decide +kernel
theorem dX11_risks_30 : decode cX11_risks 30 = .ok (.iload_n 2, 1) := by decide +kernel
theorem dX11_risks_31 : decode cX11_risks 31 = .ok (.invokevirtual 127, 3) := by decide +kernel
theorem dX11_risks_34 : decode cX11_risks 34 = .ok (.ifCond .ne 31, 3) := by decide +kernel
theorem dX11_risks_37 : decode cX11_risks 37 = .ok (.aload_n 0, 1) := by decide +kernel
theorem dX11_risks_38 : decode cX11_risks 38 = .ok (.getfield 69, 3) := by decide +kernel
theorem dX11_risks_41 : decode cX11_risks 41 = .ok (.getfield 136, 3) := by decide +kernel
theorem dX11_risks_44 : decode cX11_risks 44 = .ok (.iload_n 2, 1) := by decide +kernel
theorem dX11_risks_45 : decode cX11_risks 45 = .ok (.iaload, 1) := by decide +kernel
theorem dX11_risks_46 : decode cX11_risks 46 = .ok (.aload_n 0, 1) := by decide +kernel
theorem dX11_risks_47 : decode cX11_risks 47 = .ok (.getfield 54, 3) := by decide +kernel
theorem dX11_risks_50 : decode cX11_risks 50 = .ok (.getfield 139, 3) := by decide +kernel
theorem dX11_risks_53 : decode cX11_risks 53 = .ok (.getfield 169, 3) := by decide +kernel
theorem dX11_risks_56 : decode cX11_risks 56 = .ok (.if_icmp .le 9, 3) := by decide +kernel
theorem dX11_risks_59 : decode cX11_risks 59 = .ok (.iload_n 1, 1) := by decide +kernel
theorem dX11_risks_60 : decode cX11_risks 60 = .ok (.iconst 1, 1) := by decide +kernel
theorem dX11_risks_61 : decode cX11_risks 61 = .ok (.iload_n 2, 1) := by decide +kernel
theorem dX11_risks_62 : decode cX11_risks 62 = .ok (.ishl, 1) := by decide +kernel
theorem dX11_risks_63 : decode cX11_risks 63 = .ok (.ior, 1) := by decide +kernel
theorem dX11_risks_64 : decode cX11_risks 64 = .ok (.istore_n 1, 1) := by decide +kernel
theorem dX11_risks_65 : decode cX11_risks 65 = .ok (.iinc 2 1, 3) := by decide +kernel
theorem dX11_risks_68 : decode cX11_risks 68 = .ok (.goto (-53), 3) := by decide +kernel
theorem dX11_risks_71 : decode cX11_risks 71 = .ok (.iload_n 1, 1) := by decide +kernel
theorem dX11_risks_72 : decode cX11_risks 72 = .ok (.ireturn, 1) := by decide +kernel
theorem dX11_stands_0 : decode cX11_stands 0 = .ok (.aload_n 0, 1) := by decide +kernel
theorem dX11_stands_1 : decode cX11_stands 1 = .ok (.getfield 54, 3) := by decide +kernel
theorem dX11_stands_4 : decode cX11_stands 4 = .ok (.iload_n 1, 1) := by decide +kernel
theorem dX11_stands_5 : decode cX11_stands 5 = .ok (.invokevirtual 104, 3) := by decide +kernel
theorem dX11_stands_8 : decode cX11_stands 8 = .ok (.ifCond .ne 5, 3) := by decide +kernel
theorem dX11_stands_11 : decode cX11_stands 11 = .ok (.iconst (-1), 1) := by decide +kernel
theorem dX11_stands_12 : decode cX11_stands 12 = .ok (.ireturn, 1) := by decide +kernel
theorem dX11_stands_13 : decode cX11_stands 13 = .ok (.bipush (-5), 2) := by decide +kernel
theorem dX11_stands_15 : decode cX11_stands 15 = .ok (.istore_n 2, 1) := by decide +kernel
theorem dX11_stands_16 : decode cX11_stands 16 = .ok (.bipush 60, 2) := by decide +kernel
theorem dX11_stands_18 : decode cX11_stands 18 = .ok (.istore_n 3, 1) := by decide +kernel
theorem dX11_stands_19 : decode cX11_stands 19 = .ok (.iconst 0, 1) := by decide +kernel
theorem dX11_stands_20 : decode cX11_stands 20 = .ok (.istore 4, 2) := by decide +kernel
theorem dX11_stands_22 : decode cX11_stands 22 = .ok (.iload 4, 2) := by decide +kernel
theorem dX11_stands_24 : decode cX11_stands 24 = .ok (.bipush 9, 2) := by decide +kernel
theorem dX11_stands_26 : decode cX11_stands 26 = .ok (.if_icmp .gt 66, 3) := by decide +kernel
theorem dX11_stands_29 : decode cX11_stands 29 = .ok (.aload_n 0, 1) := by decide +kernel
theorem dX11_stands_30 : decode cX11_stands 30 = .ok (.getfield 58, 3) := by decide +kernel
theorem dX11_stands_33 : decode cX11_stands 33 = .ok (.aload_n 0, 1) := by decide +kernel
theorem dX11_stands_34 : decode cX11_stands 34 = .ok (.getfield 54, 3) := by decide +kernel
theorem dX11_stands_37 : decode cX11_stands 37 = .ok (.invokevirtual 182, 3) := by decide +kernel
theorem dX11_stands_40 : decode cX11_stands 40 = .ok (.aload_n 0, 1) := by decide +kernel
theorem dX11_stands_41 : decode cX11_stands 41 = .ok (.getfield 58, 3) := by decide +kernel
theorem dX11_stands_44 : decode cX11_stands 44 = .ok (.getfield 121, 3) := by decide +kernel
theorem dX11_stands_47 : decode cX11_stands 47 = .ok (.iload_n 1, 1) := by decide +kernel
theorem dX11_stands_48 : decode cX11_stands 48 = .ok (.iload 4, 2) := by decide +kernel
theorem dX11_stands_50 : decode cX11_stands 50 = .ok (.iastore, 1) := by decide +kernel
theorem dX11_stands_51 : decode cX11_stands 51 = .ok (.aload_n 0, 1) := by decide +kernel
theorem dX11_stands_52 : decode cX11_stands 52 = .ok (.getfield 69, 3) := by decide +kernel
theorem dX11_stands_55 : decode cX11_stands 55 = .ok (.aload_n 0, 1) := by decide +kernel
theorem dX11_stands_56 : decode cX11_stands 56 = .ok (.getfield 58, 3) := by decide +kernel
theorem dX11_stands_59 : decode cX11_stands 59 = .ok (.iconst 1, 1) := by decide +kernel
theorem dX11_stands_60 : decode cX11_stands 60 = .ok (.iload_n 1, 1) := by decide +kernel
theorem dX11_stands_61 : decode cX11_stands 61 = .ok (.ishl, 1) := by decide +kernel
theorem dX11_stands_62 : decode cX11_stands 62 = .ok (.invokevirtual 190, 3) := by decide +kernel
theorem dX11_stands_65 : decode cX11_stands 65 = .ok (.istore 5, 2) := by decide +kernel
theorem dX11_stands_67 : decode cX11_stands 67 = .ok (.iload 5, 2) := by decide +kernel
theorem dX11_stands_69 : decode cX11_stands 69 = .ok (.bipush (-5), 2) := by decide +kernel
theorem dX11_stands_71 : decode cX11_stands 71 = .ok (.if_icmp .eq 15, 3) := by decide +kernel
theorem dX11_stands_74 : decode cX11_stands 74 = .ok (.iload 5, 2) := by decide +kernel
theorem dX11_stands_76 : decode cX11_stands 76 = .ok (.iload_n 3, 1) := by decide +kernel
theorem dX11_stands_77 : decode cX11_stands 77 = .ok (.if_icmp .gt 9, 3) := by decide +kernel
theorem dX11_stands_80 : decode cX11_stands 80 = .ok (.iload 5, 2) := by decide +kernel
theorem dX11_stands_82 : decode cX11_stands 82 = .ok (.istore_n 3, 1) := by decide +kernel
theorem dX11_stands_83 : decode cX11_stands 83 = .ok (.iload 4, 2) := by decide +kernel
theorem dX11_stands_85 : decode cX11_stands 85 = .ok (.istore_n 2, 1) := by decide +kernel
theorem dX11_stands_86 : decode cX11_stands 86 = .ok (.iinc 4 1, 3) := by decide +kernel
theorem dX11_stands_89 : decode cX11_stands 89 = .ok (.goto (-67), 3) := by decide +kernel
theorem dX11_stands_92 : decode cX11_stands 92 = .ok (.iload_n 2, 1) := by decide +kernel
theorem dX11_stands_93 : decode cX11_stands 93 = .ok (.ireturn, 1) := by decide +kernel
theorem dX11_slow_0 : decode cX11_slow 0 = .ok (.iload_n 2, 1) := by decide +kernel
theorem dX11_slow_1 : decode cX11_slow 1 = .ok (.iconst 0, 1) := by decide +kernel
theorem dX11_slow_2 : decode cX11_slow 2 = .ok (.iconst 1, 1) := by decide +kernel
theorem dX11_slow_3 : decode cX11_slow 3 = .ok (.invokestatic 92, 3) := by decide +kernel
theorem dX11_slow_6 : decode cX11_slow 6 = .ok (.ifCond .ne 5, 3) := by decide +kernel
theorem dX11_slow_9 : decode cX11_slow 9 = .ok (.iconst (-1), 1) := by decide +kernel
theorem dX11_slow_10 : decode cX11_slow 10 = .ok (.ireturn, 1) := by decide +kernel
theorem dX11_slow_11 : decode cX11_slow 11 = .ok (.iload_n 1, 1) := by decide +kernel
theorem dX11_slow_12 : decode cX11_slow 12 = .ok (.iconst 1, 1) := by decide +kernel
theorem dX11_slow_13 : decode cX11_slow 13 = .ok (.bipush 20, 2) := by decide +kernel
theorem dX11_slow_15 : decode cX11_slow 15 = .ok (.invokestatic 92, 3) := by decide +kernel
theorem dX11_slow_18 : decode cX11_slow 18 = .ok (.ifCond .ne 6, 3) := by decide +kernel
theorem dX11_slow_21 : decode cX11_slow 21 = .ok (.bipush (-2), 2) := by decide +kernel
theorem dX11_slow_23 : decode cX11_slow 23 = .ok (.ireturn, 1) := by decide +kernel
theorem dX11_slow_24 : decode cX11_slow 24 = .ok (.iconst 0, 1) := by decide +kernel
theorem dX11_slow_25 : decode cX11_slow 25 = .ok (.istore_n 3, 1) := by decide +kernel
theorem dX11_slow_26 : decode cX11_slow 26 = .ok (.bipush 7, 2) := by decide +kernel
theorem dX11_slow_28 : decode cX11_slow 28 = .ok (.istore 4, 2) := by decide +kernel
theorem dX11_slow_30 : decode cX11_slow 30 = .ok (.iconst 1, 1) := by decide +kernel
theorem dX11_slow_31 : decode cX11_slow 31 = .ok (.istore 5, 2) := by decide +kernel
theorem dX11_slow_33 : decode cX11_slow 33 = .ok (.iload 5, 2) := by decide +kernel
theorem dX11_slow_35 : decode cX11_slow 35 = .ok (.bipush 9, 2) := by decide +kernel
theorem dX11_slow_37 : decode cX11_slow 37 = .ok (.if_icmp .gt 86, 3) := by decide +kernel
theorem dX11_slow_40 : decode cX11_slow 40 = .ok (.aload_n 0, 1) := by decide +kernel
theorem dX11_slow_41 : decode cX11_slow 41 = .ok (.getfield 58, 3) := by decide +kernel
theorem dX11_slow_44 : decode cX11_slow 44 = .ok (.aload_n 0, 1) := by decide +kernel
theorem dX11_slow_45 : decode cX11_slow 45 = .ok (.getfield 54, 3) := by decide +kernel
theorem dX11_slow_48 : decode cX11_slow 48 = .ok (.invokevirtual 182, 3) := by decide +kernel
theorem dX11_slow_51 : decode cX11_slow 51 = .ok (.iconst 0, 1) := by decide +kernel
theorem dX11_slow_52 : decode cX11_slow 52 = .ok (.istore 6, 2) := by decide +kernel
theorem dX11_slow_54 : decode cX11_slow 54 = .ok (.iload 6, 2) := by decide +kernel
theorem dX11_slow_56 : decode cX11_slow 56 = .ok (.iconst 4, 1) := by decide +kernel
theorem dX11_slow_57 : decode cX11_slow 57 = .ok (.if_icmp .ge 21, 3) := by decide +kernel
theorem dX11_slow_60 : decode cX11_slow 60 = .ok (.aload_n 0, 1) := by decide +kernel
theorem dX11_slow_61 : decode cX11_slow 61 = .ok (.getfield 58, 3) := by decide +kernel
theorem dX11_slow_64 : decode cX11_slow 64 = .ok (.getfield 153, 3) := by decide +kernel
theorem dX11_slow_67 : decode cX11_slow 67 = .ok (.iload 6, 2) := by decide +kernel
theorem dX11_slow_69 : decode cX11_slow 69 = .ok (.iload 5, 2) := by decide +kernel
theorem dX11_slow_71 : decode cX11_slow 71 = .ok (.iastore, 1) := by decide +kernel
theorem dX11_slow_72 : decode cX11_slow 72 = .ok (.iinc 6 1, 3) := by decide +kernel
theorem dX11_slow_75 : decode cX11_slow 75 = .ok (.goto (-21), 3) := by decide +kernel
theorem dX11_slow_78 : decode cX11_slow 78 = .ok (.aload_n 0, 1) := by decide +kernel
theorem dX11_slow_79 : decode cX11_slow 79 = .ok (.getfield 69, 3) := by decide +kernel
theorem dX11_slow_82 : decode cX11_slow 82 = .ok (.aload_n 0, 1) := by decide +kernel
theorem dX11_slow_83 : decode cX11_slow 83 = .ok (.getfield 58, 3) := by decide +kernel
theorem dX11_slow_86 : decode cX11_slow 86 = .ok (.iload_n 1, 1) := by decide +kernel
theorem dX11_slow_87 : decode cX11_slow 87 = .ok (.invokevirtual 178, 3) := by decide +kernel
theorem dX11_slow_90 : decode cX11_slow 90 = .ok (.pop, 1) := by decide +kernel
theorem dX11_slow_91 : decode cX11_slow 91 = .ok (.aload_n 0, 1) := by decide +kernel
theorem dX11_slow_92 : decode cX11_slow 92 = .ok (.getfield 58, 3) := by decide +kernel
theorem dX11_slow_95 : decode cX11_slow 95 = .ok (.getfield 175, 3) := by decide +kernel
theorem dX11_slow_98 : decode cX11_slow 98 = .ok (.invokestatic 185, 3) := by decide +kernel
theorem dX11_slow_101 : decode cX11_slow 101 = .ok (.istore 6, 2) := by decide +kernel
theorem dX11_slow_103 : decode cX11_slow 103 = .ok (.iload 6, 2) := by decide +kernel
theorem dX11_slow_105 : decode cX11_slow 105 = .ok (.iload 4, 2) := by decide +kernel
theorem dX11_slow_107 : decode cX11_slow 107 = .ok (.if_icmp .gt 10, 3) := by decide +kernel
theorem dX11_slow_110 : decode cX11_slow 110 = .ok (.iload 6, 2) := by decide +kernel
theorem dX11_slow_112 : decode cX11_slow 112 = .ok (.istore 4, 2) := by decide +kernel
theorem dX11_slow_114 : decode cX11_slow 114 = .ok (.iload 5, 2) := by decide +kernel
theorem dX11_slow_116 : decode cX11_slow 116 = .ok (.istore_n 3, 1) := by decide +kernel
theorem dX11_slow_117 : decode cX11_slow 117 = .ok (.iinc 5 1, 3) := by decide +kernel
theorem dX11_slow_120 : decode cX11_slow 120 = .ok (.goto (-87), 3) := by decide +kernel
theorem dX11_slow_123 : decode cX11_slow 123 = .ok (.iload_n 2, 1) := by decide +kernel
theorem dX11_slow_124 : decode cX11_slow 124 = .ok (.ifCond .ne 7, 3) := by decide +kernel
theorem dX11_slow_127 : decode cX11_slow 127 = .ok (.iload_n 3, 1) := by decide +kernel
theorem dX11_slow_128 : decode cX11_slow 128 = .ok (.goto 5, 3) := by decide +kernel
theorem dX11_slow_131 : decode cX11_slow 131 = .ok (.iload 4, 2) := by decide +kernel
theorem dX11_slow_133 : decode cX11_slow 133 = .ok (.ireturn, 1) := by decide +kernel
theorem dX11_order_0 : decode cX11_order 0 = .ok (.iload_n 2, 1) := by decide +kernel
theorem dX11_order_1 : decode cX11_order 1 = .ok (.iconst (-1), 1) := by decide +kernel
theorem dX11_order_2 : decode cX11_order 2 = .ok (.iconst 3, 1) := by decide +kernel
theorem dX11_order_3 : decode cX11_order 3 = .ok (.invokestatic 92, 3) := by decide +kernel
theorem dX11_order_6 : decode cX11_order 6 = .ok (.ifCond .ne 5, 3) := by decide +kernel
theorem dX11_order_9 : decode cX11_order 9 = .ok (.iconst (-1), 1) := by decide +kernel
theorem dX11_order_10 : decode cX11_order 10 = .ok (.ireturn, 1) := by decide +kernel
theorem dX11_order_11 : decode cX11_order 11 = .ok (.iload_n 1, 1) := by decide +kernel
theorem dX11_order_12 : decode cX11_order 12 = .ok (.iconst 1, 1) := by decide +kernel
theorem dX11_order_13 : decode cX11_order 13 = .ok (.bipush 20, 2) := by decide +kernel
theorem dX11_order_15 : decode cX11_order 15 = .ok (.invokestatic 92, 3) := by decide +kernel
theorem dX11_order_18 : decode cX11_order 18 = .ok (.ifCond .ne 6, 3) := by decide +kernel
theorem dX11_order_21 : decode cX11_order 21 = .ok (.bipush (-2), 2) := by decide +kernel
theorem dX11_order_23 : decode cX11_order 23 = .ok (.ireturn, 1) := by decide +kernel
theorem dX11_order_24 : decode cX11_order 24 = .ok (.iconst 0, 1) := by decide +kernel
theorem dX11_order_25 : decode cX11_order 25 = .ok (.istore_n 3, 1) := by decide +kernel
theorem dX11_order_26 : decode cX11_order 26 = .ok (.bipush 8, 2) := by decide +kernel
theorem dX11_order_28 : decode cX11_order 28 = .ok (.istore 4, 2) := by decide +kernel
theorem dX11_order_30 : decode cX11_order 30 = .ok (.iconst 0, 1) := by decide +kernel
theorem dX11_order_31 : decode cX11_order 31 = .ok (.istore 5, 2) := by decide +kernel
theorem dX11_order_33 : decode cX11_order 33 = .ok (.iload 5, 2) := by decide +kernel
theorem dX11_order_35 : decode cX11_order 35 = .ok (.sipush 256, 3) := by decide +kernel
theorem dX11_order_38 : decode cX11_order 38 = .ok (.if_icmp .ge 110, 3) := by decide +kernel
theorem dX11_order_41 : decode cX11_order 41 = .ok (.iload 5, 2) := by decide +kernel
theorem dX11_order_43 : decode cX11_order 43 = .ok (.invokestatic 197, 3) := by decide +kernel
theorem dX11_order_46 : decode cX11_order 46 = .ok (.ifCond .ne 6, 3) := by decide +kernel
theorem dX11_order_49 : decode cX11_order 49 = .ok (.goto 93, 3) := by decide +kernel
theorem dX11_order_52 : decode cX11_order 52 = .ok (.aload_n 0, 1) := by decide +kernel
theorem dX11_order_53 : decode cX11_order 53 = .ok (.getfield 58, 3) := by decide +kernel
theorem dX11_order_56 : decode cX11_order 56 = .ok (.aload_n 0, 1) := by decide +kernel
theorem dX11_order_57 : decode cX11_order 57 = .ok (.getfield 54, 3) := by decide +kernel
theorem dX11_order_60 : decode cX11_order 60 = .ok (.invokevirtual 182, 3) := by decide +kernel
theorem dX11_order_63 : decode cX11_order 63 = .ok (.iconst 0, 1) := by decide +kernel
theorem dX11_order_64 : decode cX11_order 64 = .ok (.istore 6, 2) := by decide +kernel
theorem dX11_order_66 : decode cX11_order 66 = .ok (.iload 6, 2) := by decide +kernel
theorem dX11_order_68 : decode cX11_order 68 = .ok (.iconst 4, 1) := by decide +kernel
theorem dX11_order_69 : decode cX11_order 69 = .ok (.if_icmp .ge 34, 3) := by decide +kernel
theorem dX11_order_72 : decode cX11_order 72 = .ok (.aload_n 0, 1) := by decide +kernel
theorem dX11_order_73 : decode cX11_order 73 = .ok (.getfield 58, 3) := by decide +kernel
theorem dX11_order_76 : decode cX11_order 76 = .ok (.getfield 153, 3) := by decide +kernel
theorem dX11_order_79 : decode cX11_order 79 = .ok (.iload 6, 2) := by decide +kernel
theorem dX11_order_81 : decode cX11_order 81 = .ok (.aload_n 0, 1) := by decide +kernel
theorem dX11_order_82 : decode cX11_order 82 = .ok (.getfield 54, 3) := by decide +kernel
theorem dX11_order_85 : decode cX11_order 85 = .ok (.getfield 153, 3) := by decide +kernel
theorem dX11_order_88 : decode cX11_order 88 = .ok (.iload 5, 2) := by decide +kernel
theorem dX11_order_90 : decode cX11_order 90 = .ok (.iload 6, 2) := by decide +kernel
theorem dX11_order_92 : decode cX11_order 92 = .ok (.invokestatic 200, 3) := by decide +kernel
theorem dX11_order_95 : decode cX11_order 95 = .ok (.iaload, 1) := by decide +kernel
theorem dX11_order_96 : decode cX11_order 96 = .ok (.iastore, 1) := by decide +kernel
theorem dX11_order_97 : decode cX11_order 97 = .ok (.iinc 6 1, 3) := by decide +kernel
theorem dX11_order_100 : decode cX11_order 100 = .ok (.goto (-34), 3) := by decide +kernel
theorem dX11_order_103 : decode cX11_order 103 = .ok (.aload_n 0, 1) := by decide +kernel
theorem dX11_order_104 : decode cX11_order 104 = .ok (.getfield 69, 3) := by decide +kernel
theorem dX11_order_107 : decode cX11_order 107 = .ok (.aload_n 0, 1) := by decide +kernel
theorem dX11_order_108 : decode cX11_order 108 = .ok (.getfield 58, 3) := by decide +kernel
theorem dX11_order_111 : decode cX11_order 111 = .ok (.iload_n 1, 1) := by decide +kernel
theorem dX11_order_112 : decode cX11_order 112 = .ok (.invokevirtual 178, 3) := by decide +kernel
theorem dX11_order_115 : decode cX11_order 115 = .ok (.pop, 1) := by decide +kernel
theorem dX11_order_116 : decode cX11_order 116 = .ok (.aload_n 0, 1) := by decide +kernel
theorem dX11_order_117 : decode cX11_order 117 = .ok (.getfield 58, 3) := by decide +kernel
theorem dX11_order_120 : decode cX11_order 120 = .ok (.getfield 175, 3) := by decide +kernel
theorem dX11_order_123 : decode cX11_order 123 = .ok (.invokestatic 185, 3) := by decide +kernel
theorem dX11_order_126 : decode cX11_order 126 = .ok (.istore 6, 2) := by decide +kernel
theorem dX11_order_128 : decode cX11_order 128 = .ok (.iload 6, 2) := by decide +kernel
theorem dX11_order_130 : decode cX11_order 130 = .ok (.iload 4, 2) := by decide +kernel
theorem dX11_order_132 : decode cX11_order 132 = .ok (.if_icmp .ge 10, 3) := by decide +kernel
theorem dX11_order_135 : decode cX11_order 135 = .ok (.iload 6, 2) := by decide +kernel
theorem dX11_order_137 : decode cX11_order 137 = .ok (.istore 4, 2) := by decide +kernel
theorem dX11_order_139 : decode cX11_order 139 = .ok (.iload 5, 2) := by decide +kernel
theorem dX11_order_141 : decode cX11_order 141 = .ok (.istore_n 3, 1) := by decide +kernel
theorem dX11_order_142 : decode cX11_order 142 = .ok (.iinc 5 1, 3) := by decide +kernel
theorem dX11_order_145 : decode cX11_order 145 = .ok (.goto (-112), 3) := by decide +kernel
theorem dX11_order_148 : decode cX11_order 148 = .ok (.iload_n 2, 1) := by decide +kernel
theorem dX11_order_149 : decode cX11_order 149 = .ok (.ifCond .ge 8, 3) := by decide +kernel
theorem dX11_order_152 : decode cX11_order 152 = .ok (.iload 4, 2) := by decide +kernel
theorem dX11_order_154 : decode cX11_order 154 = .ok (.goto 16, 3) := by decide +kernel
theorem dX11_order_157 : decode cX11_order 157 = .ok (.aload_n 0, 1) := by decide +kernel
theorem dX11_order_158 : decode cX11_order 158 = .ok (.getfield 54, 3) := by decide +kernel
theorem dX11_order_161 : decode cX11_order 161 = .ok (.getfield 153, 3) := by decide +kernel
theorem dX11_order_164 : decode cX11_order 164 = .ok (.iload_n 3, 1) := by decide +kernel
theorem dX11_order_165 : decode cX11_order 165 = .ok (.iload_n 2, 1) := by decide +kernel
theorem dX11_order_166 : decode cX11_order 166 = .ok (.invokestatic 200, 3) := by decide +kernel
theorem dX11_order_169 : decode cX11_order 169 = .ok (.iaload, 1) := by decide +kernel
theorem dX11_order_170 : decode cX11_order 170 = .ok (.ireturn, 1) := by decide +kernel
theorem dX11_look_0 : decode cX11_look 0 = .ok (.iload_n 1, 1) := by decide +kernel
theorem dX11_look_1 : decode cX11_look 1 = .ok (.iconst 1, 1) := by decide +kernel
theorem dX11_look_2 : decode cX11_look 2 = .ok (.bipush 20, 2) := by decide +kernel
theorem dX11_look_4 : decode cX11_look 4 = .ok (.invokestatic 92, 3) := by decide +kernel
theorem dX11_look_7 : decode cX11_look 7 = .ok (.ifCond .ne 6, 3) := by decide +kernel
theorem dX11_look_10 : decode cX11_look 10 = .ok (.bipush (-2), 2) := by decide +kernel
theorem dX11_look_12 : decode cX11_look 12 = .ok (.ireturn, 1) := by decide +kernel
theorem dX11_look_13 : decode cX11_look 13 = .ok (.iconst 0, 1) := by decide +kernel
theorem dX11_look_14 : decode cX11_look 14 = .ok (.istore_n 2, 1) := by decide +kernel
theorem dX11_look_15 : decode cX11_look 15 = .ok (.iload_n 2, 1) := by decide +kernel
theorem dX11_look_16 : decode cX11_look 16 = .ok (.bipush 9, 2) := by decide +kernel
theorem dX11_look_18 : decode cX11_look 18 = .ok (.if_icmp .gt 66, 3) := by decide +kernel
theorem dX11_look_21 : decode cX11_look 21 = .ok (.aload_n 0, 1) := by decide +kernel
theorem dX11_look_22 : decode cX11_look 22 = .ok (.getfield 58, 3) := by decide +kernel
theorem dX11_look_25 : decode cX11_look 25 = .ok (.aload_n 0, 1) := by decide +kernel
theorem dX11_look_26 : decode cX11_look 26 = .ok (.getfield 54, 3) := by decide +kernel
theorem dX11_look_29 : decode cX11_look 29 = .ok (.invokevirtual 182, 3) := by decide +kernel
theorem dX11_look_32 : decode cX11_look 32 = .ok (.iconst 0, 1) := by decide +kernel
theorem dX11_look_33 : decode cX11_look 33 = .ok (.istore_n 3, 1) := by decide +kernel
theorem dX11_look_34 : decode cX11_look 34 = .ok (.iload_n 3, 1) := by decide +kernel
theorem dX11_look_35 : decode cX11_look 35 = .ok (.iload_n 1, 1) := by decide +kernel
theorem dX11_look_36 : decode cX11_look 36 = .ok (.if_icmp .ge 23, 3) := by decide +kernel
theorem dX11_look_39 : decode cX11_look 39 = .ok (.aload_n 0, 1) := by decide +kernel
theorem dX11_look_40 : decode cX11_look 40 = .ok (.getfield 69, 3) := by decide +kernel
theorem dX11_look_43 : decode cX11_look 43 = .ok (.aload_n 0, 1) := by decide +kernel
theorem dX11_look_44 : decode cX11_look 44 = .ok (.getfield 58, 3) := by decide +kernel
theorem dX11_look_47 : decode cX11_look 47 = .ok (.iload_n 2, 1) := by decide +kernel
theorem dX11_look_48 : decode cX11_look 48 = .ok (.iconst (-1), 1) := by decide +kernel
theorem dX11_look_49 : decode cX11_look 49 = .ok (.invokevirtual 203, 3) := by decide +kernel
theorem dX11_look_52 : decode cX11_look 52 = .ok (.pop, 1) := by decide +kernel
theorem dX11_look_53 : decode cX11_look 53 = .ok (.iinc 3 1, 3) := by decide +kernel
theorem dX11_look_56 : decode cX11_look 56 = .ok (.goto (-22), 3) := by decide +kernel
theorem dX11_look_59 : decode cX11_look 59 = .ok (.aload_n 0, 1) := by decide +kernel
theorem dX11_look_60 : decode cX11_look 60 = .ok (.getfield 58, 3) := by decide +kernel
theorem dX11_look_63 : decode cX11_look 63 = .ok (.getfield 175, 3) := by decide +kernel
theorem dX11_look_66 : decode cX11_look 66 = .ok (.aload_n 0, 1) := by decide +kernel
theorem dX11_look_67 : decode cX11_look 67 = .ok (.getfield 54, 3) := by decide +kernel
theorem dX11_look_70 : decode cX11_look 70 = .ok (.getfield 175, 3) := by decide +kernel
theorem dX11_look_73 : decode cX11_look 73 = .ok (.if_icmp .ne 5, 3) := by decide +kernel
theorem dX11_look_76 : decode cX11_look 76 = .ok (.iload_n 2, 1) := by decide +kernel
theorem dX11_look_77 : decode cX11_look 77 = .ok (.ireturn, 1) := by decide +kernel
theorem dX11_look_78 : decode cX11_look 78 = .ok (.iinc 2 1, 3) := by decide +kernel
theorem dX11_look_81 : decode cX11_look 81 = .ok (.goto (-66), 3) := by decide +kernel
theorem dX11_look_84 : decode cX11_look 84 = .ok (.bipush (-5), 2) := by decide +kernel
theorem dX11_look_86 : decode cX11_look 86 = .ok (.ireturn, 1) := by decide +kernel
theorem dX11_needs_0 : decode cX11_needs 0 = .ok (.aload_n 0, 1) := by decide +kernel
theorem dX11_needs_1 : decode cX11_needs 1 = .ok (.getfield 54, 3) := by decide +kernel
theorem dX11_needs_4 : decode cX11_needs 4 = .ok (.iload_n 1, 1) := by decide +kernel
theorem dX11_needs_5 : decode cX11_needs 5 = .ok (.invokevirtual 104, 3) := by decide +kernel
theorem dX11_needs_8 : decode cX11_needs 8 = .ok (.ifCond .ne 5, 3) := by decide +kernel
theorem dX11_needs_11 : decode cX11_needs 11 = .ok (.iconst (-1), 1) := by decide +kernel
theorem dX11_needs_12 : decode cX11_needs 12 = .ok (.ireturn, 1) := by decide +kernel
theorem dX11_needs_13 : decode cX11_needs 13 = .ok (.iload_n 2, 1) := by decide +kernel
theorem dX11_needs_14 : decode cX11_needs 14 = .ok (.iconst 1, 1) := by decide +kernel
theorem dX11_needs_15 : decode cX11_needs 15 = .ok (.bipush 8, 2) := by decide +kernel
theorem dX11_needs_17 : decode cX11_needs 17 = .ok (.invokestatic 92, 3) := by decide +kernel
theorem dX11_needs_20 : decode cX11_needs 20 = .ok (.ifCond .ne 6, 3) := by decide +kernel
theorem dX11_needs_23 : decode cX11_needs 23 = .ok (.bipush (-2), 2) := by decide +kernel
theorem dX11_needs_25 : decode cX11_needs 25 = .ok (.ireturn, 1) := by decide +kernel
theorem dX11_needs_26 : decode cX11_needs 26 = .ok (.iconst 0, 1) := by decide +kernel
theorem dX11_needs_27 : decode cX11_needs 27 = .ok (.istore_n 3, 1) := by decide +kernel
theorem dX11_needs_28 : decode cX11_needs 28 = .ok (.iload_n 3, 1) := by decide +kernel
theorem dX11_needs_29 : decode cX11_needs 29 = .ok (.aload_n 0, 1) := by decide +kernel
theorem dX11_needs_30 : decode cX11_needs 30 = .ok (.getfield 54, 3) := by decide +kernel
theorem dX11_needs_33 : decode cX11_needs 33 = .ok (.getfield 139, 3) := by decide +kernel
theorem dX11_needs_36 : decode cX11_needs 36 = .ok (.getfield 143, 3) := by decide +kernel
theorem dX11_needs_39 : decode cX11_needs 39 = .ok (.if_icmp .ge 55, 3) := by decide +kernel
theorem dX11_needs_42 : decode cX11_needs 42 = .ok (.aload_n 0, 1) := by decide +kernel
theorem dX11_needs_43 : decode cX11_needs 43 = .ok (.getfield 58, 3) := by decide +kernel
theorem dX11_needs_46 : decode cX11_needs 46 = .ok (.aload_n 0, 1) := by decide +kernel
theorem dX11_needs_47 : decode cX11_needs 47 = .ok (.getfield 54, 3) := by decide +kernel
theorem dX11_needs_50 : decode cX11_needs 50 = .ok (.invokevirtual 182, 3) := by decide +kernel
theorem dX11_needs_53 : decode cX11_needs 53 = .ok (.aload_n 0, 1) := by decide +kernel
theorem dX11_needs_54 : decode cX11_needs 54 = .ok (.getfield 58, 3) := by decide +kernel
theorem dX11_needs_57 : decode cX11_needs 57 = .ok (.iload_n 1, 1) := by decide +kernel
theorem dX11_needs_58 : decode cX11_needs 58 = .ok (.iload_n 3, 1) := by decide +kernel
theorem dX11_needs_59 : decode cX11_needs 59 = .ok (.invokevirtual 146, 3) := by decide +kernel
theorem dX11_needs_62 : decode cX11_needs 62 = .ok (.aload_n 0, 1) := by decide +kernel
theorem dX11_needs_63 : decode cX11_needs 63 = .ok (.getfield 69, 3) := by decide +kernel
theorem dX11_needs_66 : decode cX11_needs 66 = .ok (.aload_n 0, 1) := by decide +kernel
theorem dX11_needs_67 : decode cX11_needs 67 = .ok (.getfield 58, 3) := by decide +kernel
theorem dX11_needs_70 : decode cX11_needs 70 = .ok (.iload_n 2, 1) := by decide +kernel
theorem dX11_needs_71 : decode cX11_needs 71 = .ok (.invokevirtual 178, 3) := by decide +kernel
theorem dX11_needs_74 : decode cX11_needs 74 = .ok (.pop, 1) := by decide +kernel
theorem dX11_needs_75 : decode cX11_needs 75 = .ok (.aload_n 0, 1) := by decide +kernel
theorem dX11_needs_76 : decode cX11_needs 76 = .ok (.getfield 58, 3) := by decide +kernel
theorem dX11_needs_79 : decode cX11_needs 79 = .ok (.iload_n 1, 1) := by decide +kernel
theorem dX11_needs_80 : decode cX11_needs 80 = .ok (.invokevirtual 127, 3) := by decide +kernel
theorem dX11_needs_83 : decode cX11_needs 83 = .ok (.ifCond .eq 5, 3) := by decide +kernel
theorem dX11_needs_86 : decode cX11_needs 86 = .ok (.iload_n 3, 1) := by decide +kernel
theorem dX11_needs_87 : decode cX11_needs 87 = .ok (.ireturn, 1) := by decide +kernel
theorem dX11_needs_88 : decode cX11_needs 88 = .ok (.iinc 3 1, 3) := by decide +kernel
theorem dX11_needs_91 : decode cX11_needs 91 = .ok (.goto (-63), 3) := by decide +kernel
theorem dX11_needs_94 : decode cX11_needs 94 = .ok (.bipush (-5), 2) := by decide +kernel
theorem dX11_needs_96 : decode cX11_needs 96 = .ok (.ireturn, 1) := by decide +kernel
theorem dX11_held_0 : decode cX11_held 0 = .ok (.aload_n 0, 1) := by decide +kernel
theorem dX11_held_1 : decode cX11_held 1 = .ok (.getfield 54, 3) := by decide +kernel
theorem dX11_held_4 : decode cX11_held 4 = .ok (.iload_n 1, 1) := by decide +kernel
theorem dX11_held_5 : decode cX11_held 5 = .ok (.invokevirtual 104, 3) := by decide +kernel
theorem dX11_held_8 : decode cX11_held 8 = .ok (.ifCond .ne 5, 3) := by decide +kernel
theorem dX11_held_11 : decode cX11_held 11 = .ok (.iconst (-1), 1) := by decide +kernel
theorem dX11_held_12 : decode cX11_held 12 = .ok (.ireturn, 1) := by decide +kernel
theorem dX11_held_13 : decode cX11_held 13 = .ok (.iload_n 2, 1) := by decide +kernel
theorem dX11_held_14 : decode cX11_held 14 = .ok (.iconst 1, 1) := by decide +kernel
theorem dX11_held_15 : decode cX11_held 15 = .ok (.bipush 20, 2) := by decide +kernel
theorem dX11_held_17 : decode cX11_held 17 = .ok (.invokestatic 92, 3) := by decide +kernel
theorem dX11_held_20 : decode cX11_held 20 = .ok (.ifCond .ne 6, 3) := by decide +kernel
theorem dX11_held_23 : decode cX11_held 23 = .ok (.bipush (-2), 2) := by decide +kernel
theorem dX11_held_25 : decode cX11_held 25 = .ok (.ireturn, 1) := by decide +kernel
theorem dX11_held_26 : decode cX11_held 26 = .ok (.iconst 0, 1) := by decide +kernel
theorem dX11_held_27 : decode cX11_held 27 = .ok (.istore_n 3, 1) := by decide +kernel
theorem dX11_held_28 : decode cX11_held 28 = .ok (.iconst (-1), 1) := by decide +kernel
theorem dX11_held_29 : decode cX11_held 29 = .ok (.istore 4, 2) := by decide +kernel
theorem dX11_held_31 : decode cX11_held 31 = .ok (.iconst 0, 1) := by decide +kernel
theorem dX11_held_32 : decode cX11_held 32 = .ok (.istore 5, 2) := by decide +kernel
theorem dX11_held_34 : decode cX11_held 34 = .ok (.iload 5, 2) := by decide +kernel
theorem dX11_held_36 : decode cX11_held 36 = .ok (.iload_n 2, 1) := by decide +kernel
theorem dX11_held_37 : decode cX11_held 37 = .ok (.if_icmp .gt 97, 3) := by decide +kernel
theorem dX11_held_40 : decode cX11_held 40 = .ok (.aload_n 0, 1) := by decide +kernel
theorem dX11_held_41 : decode cX11_held 41 = .ok (.getfield 58, 3) := by decide +kernel
theorem dX11_held_44 : decode cX11_held 44 = .ok (.aload_n 0, 1) := by decide +kernel
theorem dX11_held_45 : decode cX11_held 45 = .ok (.getfield 54, 3) := by decide +kernel
theorem dX11_held_48 : decode cX11_held 48 = .ok (.invokevirtual 182, 3) := by decide +kernel
theorem dX11_held_51 : decode cX11_held 51 = .ok (.iconst 0, 1) := by decide +kernel
theorem dX11_held_52 : decode cX11_held 52 = .ok (.istore 6, 2) := by decide +kernel
theorem dX11_held_54 : decode cX11_held 54 = .ok (.iload 6, 2) := by decide +kernel
theorem dX11_held_56 : decode cX11_held 56 = .ok (.iload_n 2, 1) := by decide +kernel
theorem dX11_held_57 : decode cX11_held 57 = .ok (.if_icmp .ge 43, 3) := by decide +kernel
theorem dX11_held_60 : decode cX11_held 60 = .ok (.aload_n 0, 1) := by decide +kernel
theorem dX11_held_61 : decode cX11_held 61 = .ok (.getfield 69, 3) := by decide +kernel
theorem dX11_held_64 : decode cX11_held 64 = .ok (.aload_n 0, 1) := by decide +kernel
theorem dX11_held_65 : decode cX11_held 65 = .ok (.getfield 58, 3) := by decide +kernel
theorem dX11_held_68 : decode cX11_held 68 = .ok (.aload_n 0, 1) := by decide +kernel
theorem dX11_held_69 : decode cX11_held 69 = .ok (.getfield 58, 3) := by decide +kernel
theorem dX11_held_72 : decode cX11_held 72 = .ok (.getfield 139, 3) := by decide +kernel
theorem dX11_held_75 : decode cX11_held 75 = .ok (.getfield 172, 3) := by decide +kernel
theorem dX11_held_78 : decode cX11_held 78 = .ok (.iload 6, 2) := by decide +kernel
theorem dX11_held_80 : decode cX11_held 80 = .ok (.iload 5, 2) := by decide +kernel
theorem dX11_held_82 : decode cX11_held 82 = .ok (.if_icmp .ge 7, 3) := by decide +kernel
theorem dX11_held_85 : decode cX11_held 85 = .ok (.iload_n 1, 1) := by decide +kernel
theorem dX11_held_86 : decode cX11_held 86 = .ok (.goto 4, 3) := by decide +kernel
theorem dX11_held_89 : decode cX11_held 89 = .ok (.iconst (-1), 1) := by decide +kernel
theorem dX11_held_90 : decode cX11_held 90 = .ok (.invokevirtual 203, 3) := by decide +kernel
theorem dX11_held_93 : decode cX11_held 93 = .ok (.pop, 1) := by decide +kernel
theorem dX11_held_94 : decode cX11_held 94 = .ok (.iinc 6 1, 3) := by decide +kernel
theorem dX11_held_97 : decode cX11_held 97 = .ok (.goto (-43), 3) := by decide +kernel
theorem dX11_held_100 : decode cX11_held 100 = .ok (.aload_n 0, 1) := by decide +kernel
theorem dX11_held_101 : decode cX11_held 101 = .ok (.getfield 58, 3) := by decide +kernel
theorem dX11_held_104 : decode cX11_held 104 = .ok (.getfield 118, 3) := by decide +kernel
theorem dX11_held_107 : decode cX11_held 107 = .ok (.iload_n 1, 1) := by decide +kernel
theorem dX11_held_108 : decode cX11_held 108 = .ok (.iaload, 1) := by decide +kernel
theorem dX11_held_109 : decode cX11_held 109 = .ok (.iload 4, 2) := by decide +kernel
theorem dX11_held_111 : decode cX11_held 111 = .ok (.if_icmp .le 17, 3) := by decide +kernel
theorem dX11_held_114 : decode cX11_held 114 = .ok (.aload_n 0, 1) := by decide +kernel
theorem dX11_held_115 : decode cX11_held 115 = .ok (.getfield 58, 3) := by decide +kernel
theorem dX11_held_118 : decode cX11_held 118 = .ok (.getfield 118, 3) := by decide +kernel
theorem dX11_held_121 : decode cX11_held 121 = .ok (.iload_n 1, 1) := by decide +kernel
theorem dX11_held_122 : decode cX11_held 122 = .ok (.iaload, 1) := by decide +kernel
theorem dX11_held_123 : decode cX11_held 123 = .ok (.istore 4, 2) := by decide +kernel
theorem dX11_held_125 : decode cX11_held 125 = .ok (.iload 5, 2) := by decide +kernel
theorem dX11_held_127 : decode cX11_held 127 = .ok (.istore_n 3, 1) := by decide +kernel
theorem dX11_held_128 : decode cX11_held 128 = .ok (.iinc 5 1, 3) := by decide +kernel
theorem dX11_held_131 : decode cX11_held 131 = .ok (.goto (-97), 3) := by decide +kernel
theorem dX11_held_134 : decode cX11_held 134 = .ok (.iload_n 3, 1) := by decide +kernel
theorem dX11_held_135 : decode cX11_held 135 = .ok (.ireturn, 1) := by decide +kernel
theorem dX11_shield_0 : decode cX11_shield 0 = .ok (.aload_n 0, 1) := by decide +kernel
theorem dX11_shield_1 : decode cX11_shield 1 = .ok (.getfield 54, 3) := by decide +kernel
theorem dX11_shield_4 : decode cX11_shield 4 = .ok (.iload_n 1, 1) := by decide +kernel
theorem dX11_shield_5 : decode cX11_shield 5 = .ok (.invokevirtual 104, 3) := by decide +kernel
theorem dX11_shield_8 : decode cX11_shield 8 = .ok (.ifCond .eq 14, 3) := by decide +kernel
theorem dX11_shield_11 : decode cX11_shield 11 = .ok (.aload_n 0, 1) := by decide +kernel
theorem dX11_shield_12 : decode cX11_shield 12 = .ok (.getfield 54, 3) := by decide +kernel
theorem dX11_shield_15 : decode cX11_shield 15 = .ok (.iload_n 2, 1) := by decide +kernel
theorem dX11_shield_16 : decode cX11_shield 16 = .ok (.invokevirtual 104, 3) := by decide +kernel
theorem dX11_shield_19 : decode cX11_shield 19 = .ok (.ifCond .ne 7, 3) := by decide +kernel
theorem dX11_shield_22 : decode cX11_shield 22 = .ok (.sipush (-1001), 3) := by decide +kernel
theorem dX11_shield_25 : decode cX11_shield 25 = .ok (.ireturn, 1) := by decide +kernel
theorem dX11_shield_26 : decode cX11_shield 26 = .ok (.iload_n 1, 1) := by decide +kernel
theorem dX11_shield_27 : decode cX11_shield 27 = .ok (.iload_n 2, 1) := by decide +kernel
theorem dX11_shield_28 : decode cX11_shield 28 = .ok (.if_icmp .eq 13, 3) := by decide +kernel
theorem dX11_shield_31 : decode cX11_shield 31 = .ok (.iload_n 3, 1) := by decide +kernel
theorem dX11_shield_32 : decode cX11_shield 32 = .ok (.iconst 1, 1) := by decide +kernel
theorem dX11_shield_33 : decode cX11_shield 33 = .ok (.bipush 20, 2) := by decide +kernel
theorem dX11_shield_35 : decode cX11_shield 35 = .ok (.invokestatic 92, 3) := by decide +kernel
theorem dX11_shield_38 : decode cX11_shield 38 = .ok (.ifCond .ne 7, 3) := by decide +kernel
theorem dX11_shield_41 : decode cX11_shield 41 = .ok (.sipush (-1002), 3) := by decide +kernel
theorem dX11_shield_44 : decode cX11_shield 44 = .ok (.ireturn, 1) := by decide +kernel
theorem dX11_shield_45 : decode cX11_shield 45 = .ok (.aload_n 0, 1) := by decide +kernel
theorem dX11_shield_46 : decode cX11_shield 46 = .ok (.getfield 58, 3) := by decide +kernel
theorem dX11_shield_49 : decode cX11_shield 49 = .ok (.aload_n 0, 1) := by decide +kernel
theorem dX11_shield_50 : decode cX11_shield 50 = .ok (.getfield 54, 3) := by decide +kernel
theorem dX11_shield_53 : decode cX11_shield 53 = .ok (.invokevirtual 182, 3) := by decide +kernel
theorem dX11_shield_56 : decode cX11_shield 56 = .ok (.aload_n 0, 1) := by decide +kernel
theorem dX11_shield_57 : decode cX11_shield 57 = .ok (.getfield 69, 3) := by decide +kernel
theorem dX11_shield_60 : decode cX11_shield 60 = .ok (.aload_n 0, 1) := by decide +kernel
theorem dX11_shield_61 : decode cX11_shield 61 = .ok (.getfield 58, 3) := by decide +kernel
theorem dX11_shield_64 : decode cX11_shield 64 = .ok (.iload_n 3, 1) := by decide +kernel
theorem dX11_shield_65 : decode cX11_shield 65 = .ok (.invokevirtual 178, 3) := by decide +kernel
theorem dX11_shield_68 : decode cX11_shield 68 = .ok (.pop, 1) := by decide +kernel
theorem dX11_shield_69 : decode cX11_shield 69 = .ok (.aload_n 0, 1) := by decide +kernel
theorem dX11_shield_70 : decode cX11_shield 70 = .ok (.getfield 58, 3) := by decide +kernel
theorem dX11_shield_73 : decode cX11_shield 73 = .ok (.getfield 118, 3) := by decide +kernel
theorem dX11_shield_76 : decode cX11_shield 76 = .ok (.iload_n 1, 1) := by decide +kernel
theorem dX11_shield_77 : decode cX11_shield 77 = .ok (.iaload, 1) := by decide +kernel
theorem dX11_shield_78 : decode cX11_shield 78 = .ok (.istore 4, 2) := by decide +kernel
theorem dX11_shield_80 : decode cX11_shield 80 = .ok (.aload_n 0, 1) := by decide +kernel
theorem dX11_shield_81 : decode cX11_shield 81 = .ok (.getfield 58, 3) := by decide +kernel
theorem dX11_shield_84 : decode cX11_shield 84 = .ok (.aload_n 0, 1) := by decide +kernel
theorem dX11_shield_85 : decode cX11_shield 85 = .ok (.getfield 54, 3) := by decide +kernel
theorem dX11_shield_88 : decode cX11_shield 88 = .ok (.invokevirtual 182, 3) := by decide +kernel
theorem dX11_shield_91 : decode cX11_shield 91 = .ok (.aload_n 0, 1) := by decide +kernel
theorem dX11_shield_92 : decode cX11_shield 92 = .ok (.getfield 58, 3) := by decide +kernel
theorem dX11_shield_95 : decode cX11_shield 95 = .ok (.dup, 1) := by decide +kernel
theorem dX11_shield_96 : decode cX11_shield 96 = .ok (.getfield 175, 3) := by decide +kernel
theorem dX11_shield_99 : decode cX11_shield 99 = .ok (.iconst 1, 1) := by decide +kernel
theorem dX11_shield_100 : decode cX11_shield 100 = .ok (.iload_n 2, 1) := by decide +kernel
theorem dX11_shield_101 : decode cX11_shield 101 = .ok (.ishl, 1) := by decide +kernel
theorem dX11_shield_102 : decode cX11_shield 102 = .ok (.ior, 1) := by decide +kernel
theorem dX11_shield_103 : decode cX11_shield 103 = .ok (.putfield 175, 3) := by decide +kernel
theorem dX11_shield_106 : decode cX11_shield 106 = .ok (.aload_n 0, 1) := by decide +kernel
theorem dX11_shield_107 : decode cX11_shield 107 = .ok (.getfield 69, 3) := by decide +kernel
theorem dX11_shield_110 : decode cX11_shield 110 = .ok (.aload_n 0, 1) := by decide +kernel
theorem dX11_shield_111 : decode cX11_shield 111 = .ok (.getfield 58, 3) := by decide +kernel
theorem dX11_shield_114 : decode cX11_shield 114 = .ok (.iload_n 3, 1) := by decide +kernel
theorem dX11_shield_115 : decode cX11_shield 115 = .ok (.invokevirtual 178, 3) := by decide +kernel
theorem dX11_shield_118 : decode cX11_shield 118 = .ok (.pop, 1) := by decide +kernel
theorem dX11_shield_119 : decode cX11_shield 119 = .ok (.iload 4, 2) := by decide +kernel
theorem dX11_shield_121 : decode cX11_shield 121 = .ok (.aload_n 0, 1) := by decide +kernel
theorem dX11_shield_122 : decode cX11_shield 122 = .ok (.getfield 58, 3) := by decide +kernel
theorem dX11_shield_125 : decode cX11_shield 125 = .ok (.getfield 118, 3) := by decide +kernel
theorem dX11_shield_128 : decode cX11_shield 128 = .ok (.iload_n 1, 1) := by decide +kernel
theorem dX11_shield_129 : decode cX11_shield 129 = .ok (.iaload, 1) := by decide +kernel
theorem dX11_shield_130 : decode cX11_shield 130 = .ok (.isub, 1) := by decide +kernel
theorem dX11_shield_131 : decode cX11_shield 131 = .ok (.ireturn, 1) := by decide +kernel
theorem dX11_see_0 : decode cX11_see 0 = .ok (.iload_n 1, 1) := by decide +kernel
theorem dX11_see_1 : decode cX11_see 1 = .ok (.iconst (-1), 1) := by decide +kernel
theorem dX11_see_2 : decode cX11_see 2 = .ok (.if_icmp .ne 13, 3) := by decide +kernel
theorem dX11_see_5 : decode cX11_see 5 = .ok (.aload_n 0, 1) := by decide +kernel
theorem dX11_see_6 : decode cX11_see 6 = .ok (.getfield 54, 3) := by decide +kernel
theorem dX11_see_9 : decode cX11_see 9 = .ok (.iconst 0, 1) := by decide +kernel
theorem dX11_see_10 : decode cX11_see 10 = .ok (.putfield 207, 3) := by decide +kernel
theorem dX11_see_13 : decode cX11_see 13 = .ok (.iconst 0, 1) := by decide +kernel
theorem dX11_see_14 : decode cX11_see 14 = .ok (.ireturn, 1) := by decide +kernel
theorem dX11_see_15 : decode cX11_see 15 = .ok (.aload_n 0, 1) := by decide +kernel
theorem dX11_see_16 : decode cX11_see 16 = .ok (.getfield 54, 3) := by decide +kernel
theorem dX11_see_19 : decode cX11_see 19 = .ok (.iload_n 1, 1) := by decide +kernel
theorem dX11_see_20 : decode cX11_see 20 = .ok (.invokevirtual 104, 3) := by decide +kernel
theorem dX11_see_23 : decode cX11_see 23 = .ok (.ifCond .ne 5, 3) := by decide +kernel
theorem dX11_see_26 : decode cX11_see 26 = .ok (.iconst (-1), 1) := by decide +kernel
theorem dX11_see_27 : decode cX11_see 27 = .ok (.ireturn, 1) := by decide +kernel
theorem dX11_see_28 : decode cX11_see 28 = .ok (.iload_n 2, 1) := by decide +kernel
theorem dX11_see_29 : decode cX11_see 29 = .ok (.iconst 0, 1) := by decide +kernel
theorem dX11_see_30 : decode cX11_see 30 = .ok (.bipush 20, 2) := by decide +kernel
theorem dX11_see_32 : decode cX11_see 32 = .ok (.invokestatic 92, 3) := by decide +kernel
theorem dX11_see_35 : decode cX11_see 35 = .ok (.ifCond .eq 13, 3) := by decide +kernel
theorem dX11_see_38 : decode cX11_see 38 = .ok (.iload_n 3, 1) := by decide +kernel
theorem dX11_see_39 : decode cX11_see 39 = .ok (.iconst 0, 1) := by decide +kernel
theorem dX11_see_40 : decode cX11_see 40 = .ok (.bipush 99, 2) := by decide +kernel
theorem dX11_see_42 : decode cX11_see 42 = .ok (.invokestatic 92, 3) := by decide +kernel
theorem dX11_see_45 : decode cX11_see 45 = .ok (.ifCond .ne 6, 3) := by decide +kernel
theorem dX11_see_48 : decode cX11_see 48 = .ok (.bipush (-2), 2) := by decide +kernel
theorem dX11_see_50 : decode cX11_see 50 = .ok (.ireturn, 1) := by decide +kernel
theorem dX11_see_51 : decode cX11_see 51 = .ok (.aload_n 0, 1) := by decide +kernel
theorem dX11_see_52 : decode cX11_see 52 = .ok (.getfield 54, 3) := by decide +kernel
theorem dX11_see_55 : decode cX11_see 55 = .ok (.getfield 207, 3) := by decide +kernel
theorem dX11_see_58 : decode cX11_see 58 = .ok (.iconst 4, 1) := by decide +kernel
theorem dX11_see_59 : decode cX11_see 59 = .ok (.if_icmp .lt 6, 3) := by decide +kernel
theorem dX11_see_62 : decode cX11_see 62 = .ok (.bipush (-4), 2) := by decide +kernel
theorem dX11_see_64 : decode cX11_see 64 = .ok (.ireturn, 1) := by decide +kernel
theorem dX11_see_65 : decode cX11_see 65 = .ok (.aload_n 0, 1) := by decide +kernel
theorem dX11_see_66 : decode cX11_see 66 = .ok (.getfield 54, 3) := by decide +kernel
theorem dX11_see_69 : decode cX11_see 69 = .ok (.iload_n 1, 1) := by decide +kernel
theorem dX11_see_70 : decode cX11_see 70 = .ok (.iload_n 2, 1) := by decide +kernel
theorem dX11_see_71 : decode cX11_see 71 = .ok (.iload_n 3, 1) := by decide +kernel
theorem dX11_see_72 : decode cX11_see 72 = .ok (.invokevirtual 210, 3) := by decide +kernel
theorem dX11_see_75 : decode cX11_see 75 = .ok (.ireturn, 1) := by decide +kernel
theorem dX11_since_0 : decode cX11_since 0 = .ok (.iconst 0, 1) := by decide +kernel
theorem dX11_since_1 : decode cX11_since 1 = .ok (.istore_n 1, 1) := by decide +kernel
theorem dX11_since_2 : decode cX11_since 2 = .ok (.iconst 0, 1) := by decide +kernel
theorem dX11_since_3 : decode cX11_since 3 = .ok (.istore_n 2, 1) := by decide +kernel
theorem dX11_since_4 : decode cX11_since 4 = .ok (.iload_n 2, 1) := by decide +kernel
theorem dX11_since_5 : decode cX11_since 5 = .ok (.iconst 4, 1) := by decide +kernel
theorem dX11_since_6 : decode cX11_since 6 = .ok (.if_icmp .ge 46, 3) := by decide +kernel
theorem dX11_since_9 : decode cX11_since 9 = .ok (.aload_n 0, 1) := by decide +kernel
theorem dX11_since_10 : decode cX11_since 10 = .ok (.getfield 58, 3) := by decide +kernel
theorem dX11_since_13 : decode cX11_since 13 = .ok (.aload_n 0, 1) := by decide +kernel
theorem dX11_since_14 : decode cX11_since 14 = .ok (.getfield 54, 3) := by decide +kernel
theorem dX11_since_17 : decode cX11_since 17 = .ok (.invokevirtual 182, 3) := by decide +kernel
theorem dX11_since_20 : decode cX11_since 20 = .ok (.aload_n 0, 1) := by decide +kernel
theorem dX11_since_21 : decode cX11_since 21 = .ok (.getfield 58, 3) := by decide +kernel
theorem dX11_since_24 : decode cX11_since 24 = .ok (.dup, 1) := by decide +kernel
theorem dX11_since_25 : decode cX11_since 25 = .ok (.getfield 166, 3) := by decide +kernel
theorem dX11_since_28 : decode cX11_since 28 = .ok (.iload_n 2, 1) := by decide +kernel
theorem dX11_since_29 : decode cX11_since 29 = .ok (.iadd, 1) := by decide +kernel
theorem dX11_since_30 : decode cX11_since 30 = .ok (.putfield 166, 3) := by decide +kernel
theorem dX11_since_33 : decode cX11_since 33 = .ok (.aload_n 0, 1) := by decide +kernel
theorem dX11_since_34 : decode cX11_since 34 = .ok (.invokevirtual 214, 3) := by decide +kernel
theorem dX11_since_37 : decode cX11_since 37 = .ok (.ifCond .eq 9, 3) := by decide +kernel
theorem dX11_since_40 : decode cX11_since 40 = .ok (.iload_n 1, 1) := by decide +kernel
theorem dX11_since_41 : decode cX11_since 41 = .ok (.iconst 1, 1) := by decide +kernel
theorem dX11_since_42 : decode cX11_since 42 = .ok (.iload_n 2, 1) := by decide +kernel
theorem dX11_since_43 : decode cX11_since 43 = .ok (.ishl, 1) := by decide +kernel
theorem dX11_since_44 : decode cX11_since 44 = .ok (.ior, 1) := by decide +kernel
theorem dX11_since_45 : decode cX11_since 45 = .ok (.istore_n 1, 1) := by decide +kernel
theorem dX11_since_46 : decode cX11_since 46 = .ok (.iinc 2 1, 3) := by decide +kernel
theorem dX11_since_49 : decode cX11_since 49 = .ok (.goto (-45), 3) := by decide +kernel
theorem dX11_since_52 : decode cX11_since 52 = .ok (.iload_n 1, 1) := by decide +kernel
theorem dX11_since_53 : decode cX11_since 53 = .ok (.ireturn, 1) := by decide +kernel
theorem dX11_who_0 : decode cX11_who 0 = .ok (.iload_n 1, 1) := by decide +kernel
theorem dX11_who_1 : decode cX11_who 1 = .ok (.iconst 0, 1) := by decide +kernel
theorem dX11_who_2 : decode cX11_who 2 = .ok (.bipush 20, 2) := by decide +kernel
theorem dX11_who_4 : decode cX11_who 4 = .ok (.invokestatic 92, 3) := by decide +kernel
theorem dX11_who_7 : decode cX11_who 7 = .ok (.ifCond .eq 13, 3) := by decide +kernel
theorem dX11_who_10 : decode cX11_who 10 = .ok (.iload_n 2, 1) := by decide +kernel
theorem dX11_who_11 : decode cX11_who 11 = .ok (.iconst 0, 1) := by decide +kernel
theorem dX11_who_12 : decode cX11_who 12 = .ok (.bipush 99, 2) := by decide +kernel
theorem dX11_who_14 : decode cX11_who 14 = .ok (.invokestatic 92, 3) := by decide +kernel
theorem dX11_who_17 : decode cX11_who 17 = .ok (.ifCond .ne 6, 3) := by decide +kernel
theorem dX11_who_20 : decode cX11_who 20 = .ok (.bipush (-2), 2) := by decide +kernel
theorem dX11_who_22 : decode cX11_who 22 = .ok (.ireturn, 1) := by decide +kernel
theorem dX11_who_23 : decode cX11_who 23 = .ok (.aload_n 0, 1) := by decide +kernel
theorem dX11_who_24 : decode cX11_who 24 = .ok (.getfield 58, 3) := by decide +kernel
theorem dX11_who_27 : decode cX11_who 27 = .ok (.aload_n 0, 1) := by decide +kernel
theorem dX11_who_28 : decode cX11_who 28 = .ok (.getfield 54, 3) := by decide +kernel
theorem dX11_who_31 : decode cX11_who 31 = .ok (.invokevirtual 182, 3) := by decide +kernel
theorem dX11_who_34 : decode cX11_who 34 = .ok (.aload_n 0, 1) := by decide +kernel
theorem dX11_who_35 : decode cX11_who 35 = .ok (.getfield 69, 3) := by decide +kernel
theorem dX11_who_38 : decode cX11_who 38 = .ok (.aload_n 0, 1) := by decide +kernel
theorem dX11_who_39 : decode cX11_who 39 = .ok (.getfield 58, 3) := by decide +kernel
theorem dX11_who_42 : decode cX11_who 42 = .ok (.iload_n 1, 1) := by decide +kernel
theorem dX11_who_43 : decode cX11_who 43 = .ok (.invokevirtual 178, 3) := by decide +kernel
theorem dX11_who_46 : decode cX11_who 46 = .ok (.pop, 1) := by decide +kernel
theorem dX11_who_47 : decode cX11_who 47 = .ok (.iconst 0, 1) := by decide +kernel
theorem dX11_who_48 : decode cX11_who 48 = .ok (.istore_n 3, 1) := by decide +kernel
theorem dX11_who_49 : decode cX11_who 49 = .ok (.iconst 0, 1) := by decide +kernel
theorem dX11_who_50 : decode cX11_who 50 = .ok (.istore 4, 2) := by decide +kernel
theorem dX11_who_52 : decode cX11_who 52 = .ok (.iload 4, 2) := by decide +kernel
theorem dX11_who_54 : decode cX11_who 54 = .ok (.aload_n 0, 1) := by decide +kernel
theorem dX11_who_55 : decode cX11_who 55 = .ok (.getfield 58, 3) := by decide +kernel
theorem dX11_who_58 : decode cX11_who 58 = .ok (.getfield 96, 3) := by decide +kernel
theorem dX11_who_61 : decode cX11_who 61 = .ok (.if_icmp .ge 30, 3) := by decide +kernel
theorem dX11_who_64 : decode cX11_who 64 = .ok (.aload_n 0, 1) := by decide +kernel
theorem dX11_who_65 : decode cX11_who 65 = .ok (.getfield 58, 3) := by decide +kernel
theorem dX11_who_68 : decode cX11_who 68 = .ok (.getfield 118, 3) := by decide +kernel
theorem dX11_who_71 : decode cX11_who 71 = .ok (.iload 4, 2) := by decide +kernel
theorem dX11_who_73 : decode cX11_who 73 = .ok (.iaload, 1) := by decide +kernel
theorem dX11_who_74 : decode cX11_who 74 = .ok (.iload_n 2, 1) := by decide +kernel
theorem dX11_who_75 : decode cX11_who 75 = .ok (.if_icmp .ne 10, 3) := by decide +kernel
theorem dX11_who_78 : decode cX11_who 78 = .ok (.iload_n 3, 1) := by decide +kernel
theorem dX11_who_79 : decode cX11_who 79 = .ok (.iconst 1, 1) := by decide +kernel
theorem dX11_who_80 : decode cX11_who 80 = .ok (.iload 4, 2) := by decide +kernel
theorem dX11_who_82 : decode cX11_who 82 = .ok (.ishl, 1) := by decide +kernel
theorem dX11_who_83 : decode cX11_who 83 = .ok (.ior, 1) := by decide +kernel
theorem dX11_who_84 : decode cX11_who 84 = .ok (.istore_n 3, 1) := by decide +kernel
theorem dX11_who_85 : decode cX11_who 85 = .ok (.iinc 4 1, 3) := by decide +kernel
theorem dX11_who_88 : decode cX11_who 88 = .ok (.goto (-36), 3) := by decide +kernel
theorem dX11_who_91 : decode cX11_who 91 = .ok (.iload_n 3, 1) := by decide +kernel
theorem dX11_who_92 : decode cX11_who 92 = .ok (.ireturn, 1) := by decide +kernel
theorem dX11_odds_0 : decode cX11_odds 0 = .ok (.iload_n 1, 1) := by decide +kernel
theorem dX11_odds_1 : decode cX11_odds 1 = .ok (.iconst 1, 1) := by decide +kernel
theorem dX11_odds_2 : decode cX11_odds 2 = .ok (.bipush 20, 2) := by decide +kernel
theorem dX11_odds_4 : decode cX11_odds 4 = .ok (.invokestatic 92, 3) := by decide +kernel
theorem dX11_odds_7 : decode cX11_odds 7 = .ok (.ifCond .eq 12, 3) := by decide +kernel
theorem dX11_odds_10 : decode cX11_odds 10 = .ok (.iload_n 2, 1) := by decide +kernel
theorem dX11_odds_11 : decode cX11_odds 11 = .ok (.iconst 0, 1) := by decide +kernel
theorem dX11_odds_12 : decode cX11_odds 12 = .ok (.iconst 1, 1) := by decide +kernel
theorem dX11_odds_13 : decode cX11_odds 13 = .ok (.invokestatic 92, 3) := by decide +kernel
theorem dX11_odds_16 : decode cX11_odds 16 = .ok (.ifCond .ne 7, 3) := by decide +kernel
theorem dX11_odds_19 : decode cX11_odds 19 = .ok (.ldc2_w 218, 3) := by decide +kernel
theorem dX11_odds_22 : decode cX11_odds 22 = .ok (.lreturn, 1) := by decide +kernel
theorem dX11_odds_23 : decode cX11_odds 23 = .ok (.iconst 0, 1) := by decide +kernel
theorem dX11_odds_24 : decode cX11_odds 24 = .ok (.istore_n 3, 1) := by decide +kernel
theorem dX11_odds_25 : decode cX11_odds 25 = .ok (.iconst 0, 1) := by decide +kernel
theorem dX11_odds_26 : decode cX11_odds 26 = .ok (.istore 4, 2) := by decide +kernel
theorem dX11_odds_28 : decode cX11_odds 28 = .ok (.iload 4, 2) := by decide +kernel
theorem dX11_odds_30 : decode cX11_odds 30 = .ok (.iconst 4, 1) := by decide +kernel
theorem dX11_odds_31 : decode cX11_odds 31 = .ok (.if_icmp .ge 52, 3) := by decide +kernel
theorem dX11_odds_34 : decode cX11_odds 34 = .ok (.aload_n 0, 1) := by decide +kernel
theorem dX11_odds_35 : decode cX11_odds 35 = .ok (.getfield 58, 3) := by decide +kernel
theorem dX11_odds_38 : decode cX11_odds 38 = .ok (.aload_n 0, 1) := by decide +kernel
theorem dX11_odds_39 : decode cX11_odds 39 = .ok (.getfield 54, 3) := by decide +kernel
theorem dX11_odds_42 : decode cX11_odds 42 = .ok (.invokevirtual 182, 3) := by decide +kernel
theorem dX11_odds_45 : decode cX11_odds 45 = .ok (.aload_n 0, 1) := by decide +kernel
theorem dX11_odds_46 : decode cX11_odds 46 = .ok (.getfield 58, 3) := by decide +kernel
theorem dX11_odds_49 : decode cX11_odds 49 = .ok (.dup, 1) := by decide +kernel
theorem dX11_odds_50 : decode cX11_odds 50 = .ok (.getfield 166, 3) := by decide +kernel
theorem dX11_odds_53 : decode cX11_odds 53 = .ok (.iload 4, 2) := by decide +kernel
theorem dX11_odds_55 : decode cX11_odds 55 = .ok (.iadd, 1) := by decide +kernel
theorem dX11_odds_56 : decode cX11_odds 56 = .ok (.putfield 166, 3) := by decide +kernel
theorem dX11_odds_59 : decode cX11_odds 59 = .ok (.aload_n 0, 1) := by decide +kernel
theorem dX11_odds_60 : decode cX11_odds 60 = .ok (.getfield 69, 3) := by decide +kernel
theorem dX11_odds_63 : decode cX11_odds 63 = .ok (.aload_n 0, 1) := by decide +kernel
theorem dX11_odds_64 : decode cX11_odds 64 = .ok (.getfield 58, 3) := by decide +kernel
theorem dX11_odds_67 : decode cX11_odds 67 = .ok (.iload_n 1, 1) := by decide +kernel
theorem dX11_odds_68 : decode cX11_odds 68 = .ok (.invokevirtual 178, 3) := by decide +kernel
theorem dX11_odds_71 : decode cX11_odds 71 = .ok (.ifCond .ne 6, 3) := by decide +kernel
theorem dX11_odds_74 : decode cX11_odds 74 = .ok (.iinc 3 1, 3) := by decide +kernel
theorem dX11_odds_77 : decode cX11_odds 77 = .ok (.iinc 4 1, 3) := by decide +kernel
theorem dX11_odds_80 : decode cX11_odds 80 = .ok (.goto (-52), 3) := by decide +kernel
theorem dX11_odds_83 : decode cX11_odds 83 = .ok (.iload_n 3, 1) := by decide +kernel
theorem dX11_odds_84 : decode cX11_odds 84 = .ok (.iconst 4, 1) := by decide +kernel
theorem dX11_odds_85 : decode cX11_odds 85 = .ok (.iload_n 2, 1) := by decide +kernel
theorem dX11_odds_86 : decode cX11_odds 86 = .ok (.invokestatic 220, 3) := by decide +kernel
theorem dX11_odds_89 : decode cX11_odds 89 = .ok (.lreturn, 1) := by decide +kernel
theorem dX11_mean_0 : decode cX11_mean 0 = .ok (.iload_n 1, 1) := by decide +kernel
theorem dX11_mean_1 : decode cX11_mean 1 = .ok (.iconst 0, 1) := by decide +kernel
theorem dX11_mean_2 : decode cX11_mean 2 = .ok (.bipush 40, 2) := by decide +kernel
theorem dX11_mean_4 : decode cX11_mean 4 = .ok (.invokestatic 92, 3) := by decide +kernel
theorem dX11_mean_7 : decode cX11_mean 7 = .ok (.ifCond .eq 22, 3) := by decide +kernel
theorem dX11_mean_10 : decode cX11_mean 10 = .ok (.iload_n 2, 1) := by decide +kernel
theorem dX11_mean_11 : decode cX11_mean 11 = .ok (.iconst 0, 1) := by decide +kernel
theorem dX11_mean_12 : decode cX11_mean 12 = .ok (.iconst 1, 1) := by decide +kernel
theorem dX11_mean_13 : decode cX11_mean 13 = .ok (.invokestatic 92, 3) := by decide +kernel
theorem dX11_mean_16 : decode cX11_mean 16 = .ok (.ifCond .eq 13, 3) := by decide +kernel
theorem dX11_mean_19 : decode cX11_mean 19 = .ok (.aload_n 0, 1) := by decide +kernel
theorem dX11_mean_20 : decode cX11_mean 20 = .ok (.getfield 54, 3) := by decide +kernel
theorem dX11_mean_23 : decode cX11_mean 23 = .ok (.getfield 96, 3) := by decide +kernel
theorem dX11_mean_26 : decode cX11_mean 26 = .ok (.ifCond .ne 7, 3) := by decide +kernel
theorem dX11_mean_29 : decode cX11_mean 29 = .ok (.ldc2_w 218, 3) := by decide +kernel
theorem dX11_mean_32 : decode cX11_mean 32 = .ok (.lreturn, 1) := by decide +kernel
theorem dX11_mean_33 : decode cX11_mean 33 = .ok (.aload_n 0, 1) := by decide +kernel
theorem dX11_mean_34 : decode cX11_mean 34 = .ok (.getfield 58, 3) := by decide +kernel
theorem dX11_mean_37 : decode cX11_mean 37 = .ok (.aload_n 0, 1) := by decide +kernel
theorem dX11_mean_38 : decode cX11_mean 38 = .ok (.getfield 54, 3) := by decide +kernel
theorem dX11_mean_41 : decode cX11_mean 41 = .ok (.invokevirtual 182, 3) := by decide +kernel
theorem dX11_mean_44 : decode cX11_mean 44 = .ok (.aload_n 0, 1) := by decide +kernel
theorem dX11_mean_45 : decode cX11_mean 45 = .ok (.getfield 69, 3) := by decide +kernel
theorem dX11_mean_48 : decode cX11_mean 48 = .ok (.aload_n 0, 1) := by decide +kernel
theorem dX11_mean_49 : decode cX11_mean 49 = .ok (.getfield 58, 3) := by decide +kernel
theorem dX11_mean_52 : decode cX11_mean 52 = .ok (.iload_n 1, 1) := by decide +kernel
theorem dX11_mean_53 : decode cX11_mean 53 = .ok (.invokevirtual 178, 3) := by decide +kernel
theorem dX11_mean_56 : decode cX11_mean 56 = .ok (.pop, 1) := by decide +kernel
theorem dX11_mean_57 : decode cX11_mean 57 = .ok (.iconst 0, 1) := by decide +kernel
theorem dX11_mean_58 : decode cX11_mean 58 = .ok (.istore_n 3, 1) := by decide +kernel
theorem dX11_mean_59 : decode cX11_mean 59 = .ok (.iconst 0, 1) := by decide +kernel
theorem dX11_mean_60 : decode cX11_mean 60 = .ok (.istore 4, 2) := by decide +kernel
theorem dX11_mean_62 : decode cX11_mean 62 = .ok (.iload 4, 2) := by decide +kernel
theorem dX11_mean_64 : decode cX11_mean 64 = .ok (.aload_n 0, 1) := by decide +kernel
theorem dX11_mean_65 : decode cX11_mean 65 = .ok (.getfield 58, 3) := by decide +kernel
theorem dX11_mean_68 : decode cX11_mean 68 = .ok (.getfield 96, 3) := by decide +kernel
theorem dX11_mean_71 : decode cX11_mean 71 = .ok (.if_icmp .ge 22, 3) := by decide +kernel
theorem dX11_mean_74 : decode cX11_mean 74 = .ok (.iload_n 3, 1) := by decide +kernel
theorem dX11_mean_75 : decode cX11_mean 75 = .ok (.aload_n 0, 1) := by decide +kernel
theorem dX11_mean_76 : decode cX11_mean 76 = .ok (.getfield 58, 3) := by decide +kernel
theorem dX11_mean_79 : decode cX11_mean 79 = .ok (.getfield 118, 3) := by decide +kernel
theorem dX11_mean_82 : decode cX11_mean 82 = .ok (.iload 4, 2) := by decide +kernel
theorem dX11_mean_84 : decode cX11_mean 84 = .ok (.iaload, 1) := by decide +kernel
theorem dX11_mean_85 : decode cX11_mean 85 = .ok (.iadd, 1) := by decide +kernel
theorem dX11_mean_86 : decode cX11_mean 86 = .ok (.istore_n 3, 1) := by decide +kernel
theorem dX11_mean_87 : decode cX11_mean 87 = .ok (.iinc 4 1, 3) := by decide +kernel
theorem dX11_mean_90 : decode cX11_mean 90 = .ok (.goto (-28), 3) := by decide +kernel
theorem dX11_mean_93 : decode cX11_mean 93 = .ok (.iload_n 3, 1) := by decide +kernel
theorem dX11_mean_94 : decode cX11_mean 94 = .ok (.aload_n 0, 1) := by decide +kernel
theorem dX11_mean_95 : decode cX11_mean 95 = .ok (.getfield 58, 3) := by decide +kernel
theorem dX11_mean_98 : decode cX11_mean 98 = .ok (.getfield 96, 3) := by decide +kernel
theorem dX11_mean_101 : decode cX11_mean 101 = .ok (.iload_n 2, 1) := by decide +kernel
theorem dX11_mean_102 : decode cX11_mean 102 = .ok (.invokestatic 220, 3) := by decide +kernel
theorem dX11_mean_105 : decode cX11_mean 105 = .ok (.lreturn, 1) := by decide +kernel
theorem dX11_book_0 : decode cX11_book 0 = .ok (.iload_n 1, 1) := by decide +kernel
theorem dX11_book_1 : decode cX11_book 1 = .ok (.iconst (-1), 1) := by decide +kernel
theorem dX11_book_2 : decode cX11_book 2 = .ok (.if_icmp .ne 13, 3) := by decide +kernel
theorem dX11_book_5 : decode cX11_book 5 = .ok (.aload_n 0, 1) := by decide +kernel
theorem dX11_book_6 : decode cX11_book 6 = .ok (.getfield 54, 3) := by decide +kernel
theorem dX11_book_9 : decode cX11_book 9 = .ok (.iconst 0, 1) := by decide +kernel
theorem dX11_book_10 : decode cX11_book 10 = .ok (.putfield 224, 3) := by decide +kernel
theorem dX11_book_13 : decode cX11_book 13 = .ok (.iconst 0, 1) := by decide +kernel
theorem dX11_book_14 : decode cX11_book 14 = .ok (.ireturn, 1) := by decide +kernel
theorem dX11_book_15 : decode cX11_book 15 = .ok (.aload_n 0, 1) := by decide +kernel
theorem dX11_book_16 : decode cX11_book 16 = .ok (.getfield 54, 3) := by decide +kernel
theorem dX11_book_19 : decode cX11_book 19 = .ok (.iload_n 1, 1) := by decide +kernel
theorem dX11_book_20 : decode cX11_book 20 = .ok (.invokevirtual 104, 3) := by decide +kernel
theorem dX11_book_23 : decode cX11_book 23 = .ok (.ifCond .ne 5, 3) := by decide +kernel
theorem dX11_book_26 : decode cX11_book 26 = .ok (.iconst (-1), 1) := by decide +kernel
theorem dX11_book_27 : decode cX11_book 27 = .ok (.ireturn, 1) := by decide +kernel
theorem dX11_book_28 : decode cX11_book 28 = .ok (.iload_n 2, 1) := by decide +kernel
theorem dX11_book_29 : decode cX11_book 29 = .ok (.iconst 0, 1) := by decide +kernel
theorem dX11_book_30 : decode cX11_book 30 = .ok (.bipush 99, 2) := by decide +kernel
theorem dX11_book_32 : decode cX11_book 32 = .ok (.invokestatic 92, 3) := by decide +kernel
theorem dX11_book_35 : decode cX11_book 35 = .ok (.ifCond .ne 6, 3) := by decide +kernel
theorem dX11_book_38 : decode cX11_book 38 = .ok (.bipush (-2), 2) := by decide +kernel
theorem dX11_book_40 : decode cX11_book 40 = .ok (.ireturn, 1) := by decide +kernel
theorem dX11_book_41 : decode cX11_book 41 = .ok (.aload_n 0, 1) := by decide +kernel
theorem dX11_book_42 : decode cX11_book 42 = .ok (.getfield 54, 3) := by decide +kernel
theorem dX11_book_45 : decode cX11_book 45 = .ok (.getfield 224, 3) := by decide +kernel
theorem dX11_book_48 : decode cX11_book 48 = .ok (.bipush 8, 2) := by decide +kernel
theorem dX11_book_50 : decode cX11_book 50 = .ok (.if_icmp .lt 6, 3) := by decide +kernel
theorem dX11_book_53 : decode cX11_book 53 = .ok (.bipush (-4), 2) := by decide +kernel
theorem dX11_book_55 : decode cX11_book 55 = .ok (.ireturn, 1) := by decide +kernel
theorem dX11_book_56 : decode cX11_book 56 = .ok (.aload_n 0, 1) := by decide +kernel
theorem dX11_book_57 : decode cX11_book 57 = .ok (.getfield 54, 3) := by decide +kernel
theorem dX11_book_60 : decode cX11_book 60 = .ok (.iload_n 1, 1) := by decide +kernel
theorem dX11_book_61 : decode cX11_book 61 = .ok (.iload_n 2, 1) := by decide +kernel
theorem dX11_book_62 : decode cX11_book 62 = .ok (.invokevirtual 227, 3) := by decide +kernel
theorem dX11_book_65 : decode cX11_book 65 = .ok (.ireturn, 1) := by decide +kernel
theorem dX11_looked_0 : decode cX11_looked 0 = .ok (.iconst 0, 1) := by decide +kernel
theorem dX11_looked_1 : decode cX11_looked 1 = .ok (.istore_n 1, 1) := by decide +kernel
theorem dX11_looked_2 : decode cX11_looked 2 = .ok (.iload_n 1, 1) := by decide +kernel
theorem dX11_looked_3 : decode cX11_looked 3 = .ok (.aload_n 0, 1) := by decide +kernel
theorem dX11_looked_4 : decode cX11_looked 4 = .ok (.getfield 54, 3) := by decide +kernel
theorem dX11_looked_7 : decode cX11_looked 7 = .ok (.getfield 224, 3) := by decide +kernel
theorem dX11_looked_10 : decode cX11_looked 10 = .ok (.if_icmp .ge 53, 3) := by decide +kernel
theorem dX11_looked_13 : decode cX11_looked 13 = .ok (.aload_n 0, 1) := by decide +kernel
theorem dX11_looked_14 : decode cX11_looked 14 = .ok (.getfield 54, 3) := by decide +kernel
theorem dX11_looked_17 : decode cX11_looked 17 = .ok (.getfield 230, 3) := by decide +kernel
theorem dX11_looked_20 : decode cX11_looked 20 = .ok (.iload_n 1, 1) := by decide +kernel
theorem dX11_looked_21 : decode cX11_looked 21 = .ok (.iaload, 1) := by decide +kernel
theorem dX11_looked_22 : decode cX11_looked 22 = .ok (.istore_n 2, 1) := by decide +kernel
theorem dX11_looked_23 : decode cX11_looked 23 = .ok (.aload_n 0, 1) := by decide +kernel
theorem dX11_looked_24 : decode cX11_looked 24 = .ok (.getfield 54, 3) := by decide +kernel
theorem dX11_looked_27 : decode cX11_looked 27 = .ok (.iload_n 2, 1) := by decide +kernel
theorem dX11_looked_28 : decode cX11_looked 28 = .ok (.invokevirtual 104, 3) := by decide +kernel
theorem dX11_looked_31 : decode cX11_looked 31 = .ok (.ifCond .eq 26, 3) := by decide +kernel
theorem dX11_looked_34 : decode cX11_looked 34 = .ok (.aload_n 0, 1) := by decide +kernel
theorem dX11_looked_35 : decode cX11_looked 35 = .ok (.getfield 54, 3) := by decide +kernel
theorem dX11_looked_38 : decode cX11_looked 38 = .ok (.getfield 118, 3) := by decide +kernel
theorem dX11_looked_41 : decode cX11_looked 41 = .ok (.iload_n 2, 1) := by decide +kernel
theorem dX11_looked_42 : decode cX11_looked 42 = .ok (.iaload, 1) := by decide +kernel
theorem dX11_looked_43 : decode cX11_looked 43 = .ok (.aload_n 0, 1) := by decide +kernel
theorem dX11_looked_44 : decode cX11_looked 44 = .ok (.getfield 54, 3) := by decide +kernel
theorem dX11_looked_47 : decode cX11_looked 47 = .ok (.getfield 233, 3) := by decide +kernel
theorem dX11_looked_50 : decode cX11_looked 50 = .ok (.iload_n 1, 1) := by decide +kernel
theorem dX11_looked_51 : decode cX11_looked 51 = .ok (.iaload, 1) := by decide +kernel
theorem dX11_looked_52 : decode cX11_looked 52 = .ok (.if_icmp .eq 5, 3) := by decide +kernel
theorem dX11_looked_55 : decode cX11_looked 55 = .ok (.iload_n 1, 1) := by decide +kernel
theorem dX11_looked_56 : decode cX11_looked 56 = .ok (.ireturn, 1) := by decide +kernel
theorem dX11_looked_57 : decode cX11_looked 57 = .ok (.iinc 1 1, 3) := by decide +kernel
theorem dX11_looked_60 : decode cX11_looked 60 = .ok (.goto (-58), 3) := by decide +kernel
theorem dX11_looked_63 : decode cX11_looked 63 = .ok (.bipush (-5), 2) := by decide +kernel
theorem dX11_looked_65 : decode cX11_looked 65 = .ok (.ireturn, 1) := by decide +kernel
theorem dX11_judge_0 : decode cX11_judge 0 = .ok (.iload_n 1, 1) := by decide +kernel
theorem dX11_judge_1 : decode cX11_judge 1 = .ok (.invokestatic 236, 3) := by decide +kernel
theorem dX11_judge_4 : decode cX11_judge 4 = .ok (.ifCond .ne 5, 3) := by decide +kernel
theorem dX11_judge_7 : decode cX11_judge 7 = .ok (.iconst (-1), 1) := by decide +kernel
theorem dX11_judge_8 : decode cX11_judge 8 = .ok (.ireturn, 1) := by decide +kernel
theorem dX11_judge_9 : decode cX11_judge 9 = .ok (.aload_n 0, 1) := by decide +kernel
theorem dX11_judge_10 : decode cX11_judge 10 = .ok (.getfield 85, 3) := by decide +kernel
theorem dX11_judge_13 : decode cX11_judge 13 = .ok (.iload_n 1, 1) := by decide +kernel
theorem dX11_judge_14 : decode cX11_judge 14 = .ok (.iaload, 1) := by decide +kernel
theorem dX11_judge_15 : decode cX11_judge 15 = .ok (.iconst 1, 1) := by decide +kernel
theorem dX11_judge_16 : decode cX11_judge 16 = .ok (.if_icmp .eq 16, 3) := by decide +kernel
theorem dX11_judge_19 : decode cX11_judge 19 = .ok (.aload_n 0, 1) := by decide +kernel
theorem dX11_judge_20 : decode cX11_judge 20 = .ok (.getfield 85, 3) := by decide +kernel
theorem dX11_judge_23 : decode cX11_judge 23 = .ok (.iload_n 1, 1) := by decide +kernel
theorem dX11_judge_24 : decode cX11_judge 24 = .ok (.iaload, 1) := by decide +kernel
theorem dX11_judge_25 : decode cX11_judge 25 = .ok (.iconst (-1), 1) := by decide +kernel
theorem dX11_judge_26 : decode cX11_judge 26 = .ok (.if_icmp .eq 6, 3) := by decide +kernel
theorem dX11_judge_29 : decode cX11_judge 29 = .ok (.bipush (-12), 2) := by decide +kernel
theorem dX11_judge_31 : decode cX11_judge 31 = .ok (.ireturn, 1) := by decide +kernel
theorem dX11_judge_32 : decode cX11_judge 32 = .ok (.iconst 0, 1) := by decide +kernel
theorem dX11_judge_33 : decode cX11_judge 33 = .ok (.istore_n 3, 1) := by decide +kernel
theorem dX11_judge_34 : decode cX11_judge 34 = .ok (.iload_n 3, 1) := by decide +kernel
theorem dX11_judge_35 : decode cX11_judge 35 = .ok (.aload_n 0, 1) := by decide +kernel
theorem dX11_judge_36 : decode cX11_judge 36 = .ok (.getfield 54, 3) := by decide +kernel
theorem dX11_judge_39 : decode cX11_judge 39 = .ok (.getfield 96, 3) := by decide +kernel
theorem dX11_judge_42 : decode cX11_judge 42 = .ok (.if_icmp .ge 56, 3) := by decide +kernel
theorem dX11_judge_45 : decode cX11_judge 45 = .ok (.iload_n 2, 1) := by decide +kernel
theorem dX11_judge_46 : decode cX11_judge 46 = .ok (.ifCond .lt 15, 3) := by decide +kernel
theorem dX11_judge_49 : decode cX11_judge 49 = .ok (.iload_n 2, 1) := by decide +kernel
theorem dX11_judge_50 : decode cX11_judge 50 = .ok (.aload_n 0, 1) := by decide +kernel
theorem dX11_judge_51 : decode cX11_judge 51 = .ok (.getfield 89, 3) := by decide +kernel
theorem dX11_judge_54 : decode cX11_judge 54 = .ok (.iload_n 1, 1) := by decide +kernel
theorem dX11_judge_55 : decode cX11_judge 55 = .ok (.iaload, 1) := by decide +kernel
theorem dX11_judge_56 : decode cX11_judge 56 = .ok (.iload_n 3, 1) := by decide +kernel
theorem dX11_judge_57 : decode cX11_judge 57 = .ok (.isub, 1) := by decide +kernel
theorem dX11_judge_58 : decode cX11_judge 58 = .ok (.if_icmp .lt 8, 3) := by decide +kernel
theorem dX11_judge_61 : decode cX11_judge 61 = .ok (.bipush 100, 2) := by decide +kernel
theorem dX11_judge_63 : decode cX11_judge 63 = .ok (.iload_n 3, 1) := by decide +kernel
theorem dX11_judge_64 : decode cX11_judge 64 = .ok (.iadd, 1) := by decide +kernel
theorem dX11_judge_65 : decode cX11_judge 65 = .ok (.ireturn, 1) := by decide +kernel
theorem dX11_judge_66 : decode cX11_judge 66 = .ok (.aload_n 0, 1) := by decide +kernel
theorem dX11_judge_67 : decode cX11_judge 67 = .ok (.getfield 82, 3) := by decide +kernel
theorem dX11_judge_70 : decode cX11_judge 70 = .ok (.iload_n 1, 1) := by decide +kernel
theorem dX11_judge_71 : decode cX11_judge 71 = .ok (.aaload, 1) := by decide +kernel
theorem dX11_judge_72 : decode cX11_judge 72 = .ok (.iload_n 2, 1) := by decide +kernel
theorem dX11_judge_73 : decode cX11_judge 73 = .ok (.iload_n 3, 1) := by decide +kernel
theorem dX11_judge_74 : decode cX11_judge 74 = .ok (.iadd, 1) := by decide +kernel
theorem dX11_judge_75 : decode cX11_judge 75 = .ok (.laload, 1) := by decide +kernel
theorem dX11_judge_76 : decode cX11_judge 76 = .ok (.aload_n 0, 1) := by decide +kernel
theorem dX11_judge_77 : decode cX11_judge 77 = .ok (.getfield 54, 3) := by decide +kernel
theorem dX11_judge_80 : decode cX11_judge 80 = .ok (.getfield 118, 3) := by decide +kernel
theorem dX11_judge_83 : decode cX11_judge 83 = .ok (.iload_n 3, 1) := by decide +kernel
theorem dX11_judge_84 : decode cX11_judge 84 = .ok (.iaload, 1) := by decide +kernel
theorem dX11_judge_85 : decode cX11_judge 85 = .ok (.i2l, 1) := by decide +kernel
theorem dX11_judge_86 : decode cX11_judge 86 = .ok (.lcmp, 1) := by decide +kernel
theorem dX11_judge_87 : decode cX11_judge 87 = .ok (.ifCond .eq 5, 3) := by decide +kernel
theorem dX11_judge_90 : decode cX11_judge 90 = .ok (.iload_n 3, 1) := by decide +kernel
theorem dX11_judge_91 : decode cX11_judge 91 = .ok (.ireturn, 1) := by decide +kernel
theorem dX11_judge_92 : decode cX11_judge 92 = .ok (.iinc 3 1, 3) := by decide +kernel
theorem dX11_judge_95 : decode cX11_judge 95 = .ok (.goto (-61), 3) := by decide +kernel
theorem dX11_judge_98 : decode cX11_judge 98 = .ok (.bipush (-5), 2) := by decide +kernel
theorem dX11_judge_100 : decode cX11_judge 100 = .ok (.ireturn, 1) := by decide +kernel
theorem dX11_image_0 : decode cX11_image 0 = .ok (.aload_n 0, 1) := by decide +kernel
theorem dX11_image_1 : decode cX11_image 1 = .ok (.getfield 61, 3) := by decide +kernel
theorem dX11_image_4 : decode cX11_image 4 = .ok (.aload_n 0, 1) := by decide +kernel
theorem dX11_image_5 : decode cX11_image 5 = .ok (.getfield 54, 3) := by decide +kernel
theorem dX11_image_8 : decode cX11_image 8 = .ok (.invokevirtual 182, 3) := by decide +kernel
theorem dX11_image_11 : decode cX11_image 11 = .ok (.aload_n 0, 1) := by decide +kernel
theorem dX11_image_12 : decode cX11_image 12 = .ok (.iconst 1, 1) := by decide +kernel
theorem dX11_image_13 : decode cX11_image 13 = .ok (.putfield 239, 3) := by decide +kernel
theorem dX11_image_16 : decode cX11_image 16 = .ok (.aload_n 0, 1) := by decide +kernel
theorem dX11_image_17 : decode cX11_image 17 = .ok (.getfield 61, 3) := by decide +kernel
theorem dX11_image_20 : decode cX11_image 20 = .ok (.getfield 96, 3) := by decide +kernel
theorem dX11_image_23 : decode cX11_image 23 = .ok (.ireturn, 1) := by decide +kernel
theorem dX11_undo_0 : decode cX11_undo 0 = .ok (.aload_n 0, 1) := by decide +kernel
theorem dX11_undo_1 : decode cX11_undo 1 = .ok (.getfield 239, 3) := by decide +kernel
theorem dX11_undo_4 : decode cX11_undo 4 = .ok (.ifCond .ne 6, 3) := by decide +kernel
theorem dX11_undo_7 : decode cX11_undo 7 = .ok (.bipush (-3), 2) := by decide +kernel
theorem dX11_undo_9 : decode cX11_undo 9 = .ok (.ireturn, 1) := by decide +kernel
theorem dX11_undo_10 : decode cX11_undo 10 = .ok (.aload_n 0, 1) := by decide +kernel
theorem dX11_undo_11 : decode cX11_undo 11 = .ok (.getfield 54, 3) := by decide +kernel
theorem dX11_undo_14 : decode cX11_undo 14 = .ok (.aload_n 0, 1) := by decide +kernel
theorem dX11_undo_15 : decode cX11_undo 15 = .ok (.getfield 61, 3) := by decide +kernel
theorem dX11_undo_18 : decode cX11_undo 18 = .ok (.invokevirtual 182, 3) := by decide +kernel
theorem dX11_undo_21 : decode cX11_undo 21 = .ok (.aload_n 0, 1) := by decide +kernel
theorem dX11_undo_22 : decode cX11_undo 22 = .ok (.getfield 54, 3) := by decide +kernel
theorem dX11_undo_25 : decode cX11_undo 25 = .ok (.getfield 96, 3) := by decide +kernel
theorem dX11_undo_28 : decode cX11_undo 28 = .ok (.ireturn, 1) := by decide +kernel
theorem dX11_act_0 : decode cX11_act 0 = .ok (.aload_n 0, 1) := by decide +kernel
theorem dX11_act_1 : decode cX11_act 1 = .ok (.getfield 76, 3) := by decide +kernel
theorem dX11_act_4 : decode cX11_act 4 = .ok (.iconst 0, 1) := by decide +kernel
theorem dX11_act_5 : decode cX11_act 5 = .ok (.putfield 243, 3) := by decide +kernel
theorem dX11_act_8 : decode cX11_act 8 = .ok (.aload_n 0, 1) := by decide +kernel
theorem dX11_act_9 : decode cX11_act 9 = .ok (.getfield 54, 3) := by decide +kernel
theorem dX11_act_12 : decode cX11_act 12 = .ok (.iload_n 1, 1) := by decide +kernel
theorem dX11_act_13 : decode cX11_act 13 = .ok (.invokevirtual 104, 3) := by decide +kernel
theorem dX11_act_16 : decode cX11_act 16 = .ok (.ifCond .ne 5, 3) := by decide +kernel
theorem dX11_act_19 : decode cX11_act 19 = .ok (.iconst 0, 1) := by decide +kernel
theorem dX11_act_20 : decode cX11_act 20 = .ok (.ireturn, 1) := by decide +kernel
theorem dX11_act_21 : decode cX11_act 21 = .ok (.aload_n 0, 1) := by decide +kernel
theorem dX11_act_22 : decode cX11_act 22 = .ok (.getfield 76, 3) := by decide +kernel
theorem dX11_act_25 : decode cX11_act 25 = .ok (.iload_n 1, 1) := by decide +kernel
theorem dX11_act_26 : decode cX11_act 26 = .ok (.putfield 246, 3) := by decide +kernel
theorem dX11_act_29 : decode cX11_act 29 = .ok (.aload_n 0, 1) := by decide +kernel
theorem dX11_act_30 : decode cX11_act 30 = .ok (.getfield 76, 3) := by decide +kernel
theorem dX11_act_33 : decode cX11_act 33 = .ok (.aload_n 0, 1) := by decide +kernel
theorem dX11_act_34 : decode cX11_act 34 = .ok (.getfield 54, 3) := by decide +kernel
theorem dX11_act_37 : decode cX11_act 37 = .ok (.getfield 115, 3) := by decide +kernel
theorem dX11_act_40 : decode cX11_act 40 = .ok (.iload_n 1, 1) := by decide +kernel
theorem dX11_act_41 : decode cX11_act 41 = .ok (.iaload, 1) := by decide +kernel
theorem dX11_act_42 : decode cX11_act 42 = .ok (.putfield 249, 3) := by decide +kernel
theorem dX11_act_45 : decode cX11_act 45 = .ok (.aload_n 0, 1) := by decide +kernel
theorem dX11_act_46 : decode cX11_act 46 = .ok (.getfield 30, 3) := by decide +kernel
theorem dX11_act_49 : decode cX11_act 49 = .ok (.aload_n 0, 1) := by decide +kernel
theorem dX11_act_50 : decode cX11_act 50 = .ok (.getfield 54, 3) := by decide +kernel
theorem dX11_act_53 : decode cX11_act 53 = .ok (.getfield 112, 3) := by decide +kernel
theorem dX11_act_56 : decode cX11_act 56 = .ok (.iload_n 1, 1) := by decide +kernel
theorem dX11_act_57 : decode cX11_act 57 = .ok (.iaload, 1) := by decide +kernel
theorem dX11_act_58 : decode cX11_act 58 = .ok (.aaload, 1) := by decide +kernel
theorem dX11_act_59 : decode cX11_act 59 = .ok (.astore 4, 2) := by decide +kernel
theorem dX11_act_61 : decode cX11_act 61 = .ok (.iload_n 2, 1) := by decide +kernel
theorem dX11_act_62 : decode cX11_act 62 = .ok (.tableswitch 59 0 2 #[26, 37, 48], 26) := by decide +kernel
theorem dX11_act_88 : decode cX11_act 88 = .ok (.aload 4, 2) := by decide +kernel
theorem dX11_act_90 : decode cX11_act 90 = .ok (.aload_n 0, 1) := by decide +kernel
theorem dX11_act_91 : decode cX11_act 91 = .ok (.getfield 76, 3) := by decide +kernel
theorem dX11_act_94 : decode cX11_act 94 = .ok (.iload_n 3, 1) := by decide +kernel
theorem dX11_act_95 : decode cX11_act 95 = .ok (.invokevirtual 251, 3) := by decide +kernel
theorem dX11_act_98 : decode cX11_act 98 = .ok (.ireturn, 1) := by decide +kernel
theorem dX11_act_99 : decode cX11_act 99 = .ok (.aload 4, 2) := by decide +kernel
theorem dX11_act_101 : decode cX11_act 101 = .ok (.aload_n 0, 1) := by decide +kernel
theorem dX11_act_102 : decode cX11_act 102 = .ok (.getfield 76, 3) := by decide +kernel
theorem dX11_act_105 : decode cX11_act 105 = .ok (.iload_n 3, 1) := by decide +kernel
theorem dX11_act_106 : decode cX11_act 106 = .ok (.invokevirtual 255, 3) := by decide +kernel
theorem dX11_act_109 : decode cX11_act 109 = .ok (.ireturn, 1) := by decide +kernel
theorem dX11_act_110 : decode cX11_act 110 = .ok (.aload 4, 2) := by decide +kernel
theorem dX11_act_112 : decode cX11_act 112 = .ok (.aload_n 0, 1) := by decide +kernel
theorem dX11_act_113 : decode cX11_act 113 = .ok (.getfield 76, 3) := by decide +kernel
theorem dX11_act_116 : decode cX11_act 116 = .ok (.iload_n 3, 1) := by decide +kernel
theorem dX11_act_117 : decode cX11_act 117 = .ok (.invokevirtual 258, 3) := by decide +kernel
theorem dX11_act_120 : decode cX11_act 120 = .ok (.ireturn, 1) := by decide +kernel
theorem dX11_act_121 : decode cX11_act 121 = .ok (.iconst 0, 1) := by decide +kernel
theorem dX11_act_122 : decode cX11_act 122 = .ok (.ireturn, 1) := by decide +kernel
theorem dX11_trace_0 : decode cX11_trace 0 = .ok (.iload_n 1, 1) := by decide +kernel
theorem dX11_trace_1 : decode cX11_trace 1 = .ok (.ifCond .lt 20, 3) := by decide +kernel
theorem dX11_trace_4 : decode cX11_trace 4 = .ok (.iload_n 1, 1) := by decide +kernel
theorem dX11_trace_5 : decode cX11_trace 5 = .ok (.aload_n 0, 1) := by decide +kernel
theorem dX11_trace_6 : decode cX11_trace 6 = .ok (.getfield 76, 3) := by decide +kernel
theorem dX11_trace_9 : decode cX11_trace 9 = .ok (.getfield 243, 3) := by decide +kernel
theorem dX11_trace_12 : decode cX11_trace 12 = .ok (.if_icmp .ge 9, 3) := by decide +kernel
theorem dX11_trace_15 : decode cX11_trace 15 = .ok (.iload_n 1, 1) := by decide +kernel
theorem dX11_trace_16 : decode cX11_trace 16 = .ok (.bipush 20, 2) := by decide +kernel
theorem dX11_trace_18 : decode cX11_trace 18 = .ok (.if_icmp .lt 5, 3) := by decide +kernel
theorem dX11_trace_21 : decode cX11_trace 21 = .ok (.iconst (-1), 1) := by decide +kernel
theorem dX11_trace_22 : decode cX11_trace 22 = .ok (.ireturn, 1) := by decide +kernel
theorem dX11_trace_23 : decode cX11_trace 23 = .ok (.aload_n 0, 1) := by decide +kernel
theorem dX11_trace_24 : decode cX11_trace 24 = .ok (.getfield 76, 3) := by decide +kernel
theorem dX11_trace_27 : decode cX11_trace 27 = .ok (.getfield 261, 3) := by decide +kernel
theorem dX11_trace_30 : decode cX11_trace 30 = .ok (.iload_n 1, 1) := by decide +kernel
theorem dX11_trace_31 : decode cX11_trace 31 = .ok (.iaload, 1) := by decide +kernel
theorem dX11_trace_32 : decode cX11_trace 32 = .ok (.ireturn, 1) := by decide +kernel
theorem dX11_taken_0 : decode cX11_taken 0 = .ok (.iload_n 2, 1) := by decide +kernel
theorem dX11_taken_1 : decode cX11_taken 1 = .ok (.iconst 0, 1) := by decide +kernel
theorem dX11_taken_2 : decode cX11_taken 2 = .ok (.bipush 6, 2) := by decide +kernel
theorem dX11_taken_4 : decode cX11_taken 4 = .ok (.invokestatic 92, 3) := by decide +kernel
theorem dX11_taken_7 : decode cX11_taken 7 = .ok (.ifCond .ne 6, 3) := by decide +kernel
theorem dX11_taken_10 : decode cX11_taken 10 = .ok (.bipush (-2), 2) := by decide +kernel
theorem dX11_taken_12 : decode cX11_taken 12 = .ok (.ireturn, 1) := by decide +kernel
theorem dX11_taken_13 : decode cX11_taken 13 = .ok (.aload_n 0, 1) := by decide +kernel
theorem dX11_taken_14 : decode cX11_taken 14 = .ok (.getfield 54, 3) := by decide +kernel
theorem dX11_taken_17 : decode cX11_taken 17 = .ok (.iload_n 1, 1) := by decide +kernel
theorem dX11_taken_18 : decode cX11_taken 18 = .ok (.invokevirtual 104, 3) := by decide +kernel
theorem dX11_taken_21 : decode cX11_taken 21 = .ok (.ifCond .ne 6, 3) := by decide +kernel
theorem dX11_taken_24 : decode cX11_taken 24 = .ok (.bipush (-11), 2) := by decide +kernel
theorem dX11_taken_26 : decode cX11_taken 26 = .ok (.ireturn, 1) := by decide +kernel
theorem dX11_taken_27 : decode cX11_taken 27 = .ok (.aload_n 0, 1) := by decide +kernel
theorem dX11_taken_28 : decode cX11_taken 28 = .ok (.getfield 54, 3) := by decide +kernel
theorem dX11_taken_31 : decode cX11_taken 31 = .ok (.getfield 112, 3) := by decide +kernel
theorem dX11_taken_34 : decode cX11_taken 34 = .ok (.iload_n 1, 1) := by decide +kernel
theorem dX11_taken_35 : decode cX11_taken 35 = .ok (.iaload, 1) := by decide +kernel
theorem dX11_taken_36 : decode cX11_taken 36 = .ok (.istore_n 3, 1) := by decide +kernel
theorem dX11_taken_37 : decode cX11_taken 37 = .ok (.iconst 0, 1) := by decide +kernel
theorem dX11_taken_38 : decode cX11_taken 38 = .ok (.istore 4, 2) := by decide +kernel
theorem dX11_taken_40 : decode cX11_taken 40 = .ok (.iload 4, 2) := by decide +kernel
theorem dX11_taken_42 : decode cX11_taken 42 = .ok (.bipush 7, 2) := by decide +kernel
theorem dX11_taken_44 : decode cX11_taken 44 = .ok (.if_icmp .ge 40, 3) := by decide +kernel
theorem dX11_taken_47 : decode cX11_taken 47 = .ok (.iload_n 3, 1) := by decide +kernel
theorem dX11_taken_48 : decode cX11_taken 48 = .ok (.iconst 0, 1) := by decide +kernel
theorem dX11_taken_49 : decode cX11_taken 49 = .ok (.bipush 6, 2) := by decide +kernel
theorem dX11_taken_51 : decode cX11_taken 51 = .ok (.invokestatic 92, 3) := by decide +kernel
theorem dX11_taken_54 : decode cX11_taken 54 = .ok (.ifCond .eq 30, 3) := by decide +kernel
theorem dX11_taken_57 : decode cX11_taken 57 = .ok (.iload_n 3, 1) := by decide +kernel
theorem dX11_taken_58 : decode cX11_taken 58 = .ok (.iload_n 2, 1) := by decide +kernel
theorem dX11_taken_59 : decode cX11_taken 59 = .ok (.if_icmp .ne 13, 3) := by decide +kernel
theorem dX11_taken_62 : decode cX11_taken 62 = .ok (.aload_n 0, 1) := by decide +kernel
theorem dX11_taken_63 : decode cX11_taken 63 = .ok (.getfield 54, 3) := by decide +kernel
theorem dX11_taken_66 : decode cX11_taken 66 = .ok (.getfield 112, 3) := by decide +kernel
theorem dX11_taken_69 : decode cX11_taken 69 = .ok (.iload_n 1, 1) := by decide +kernel
theorem dX11_taken_70 : decode cX11_taken 70 = .ok (.iaload, 1) := by decide +kernel
theorem dX11_taken_71 : decode cX11_taken 71 = .ok (.ireturn, 1) := by decide +kernel
theorem dX11_taken_72 : decode cX11_taken 72 = .ok (.getstatic 264, 3) := by decide +kernel
theorem dX11_taken_75 : decode cX11_taken 75 = .ok (.iload_n 3, 1) := by decide +kernel
theorem dX11_taken_76 : decode cX11_taken 76 = .ok (.iaload, 1) := by decide +kernel
theorem dX11_taken_77 : decode cX11_taken 77 = .ok (.istore_n 3, 1) := by decide +kernel
theorem dX11_taken_78 : decode cX11_taken 78 = .ok (.iinc 4 1, 3) := by decide +kernel
theorem dX11_taken_81 : decode cX11_taken 81 = .ok (.goto (-41), 3) := by decide +kernel
theorem dX11_taken_84 : decode cX11_taken 84 = .ok (.bipush (-12), 2) := by decide +kernel
theorem dX11_taken_86 : decode cX11_taken 86 = .ok (.ireturn, 1) := by decide +kernel
theorem dX11_count_0 : decode cX11_count 0 = .ok (.iload_n 1, 1) := by decide +kernel
theorem dX11_count_1 : decode cX11_count 1 = .ok (.tableswitch 81 0 5 #[39, 47, 52, 60, 68, 73], 39) := by decide +kernel
theorem dX11_count_40 : decode cX11_count 40 = .ok (.aload_n 0, 1) := by decide +kernel
theorem dX11_count_41 : decode cX11_count 41 = .ok (.getfield 54, 3) := by decide +kernel
theorem dX11_count_44 : decode cX11_count 44 = .ok (.getfield 96, 3) := by decide +kernel
theorem dX11_count_47 : decode cX11_count 47 = .ok (.ireturn, 1) := by decide +kernel
theorem dX11_count_48 : decode cX11_count 48 = .ok (.aload_n 0, 1) := by decide +kernel
theorem dX11_count_49 : decode cX11_count 49 = .ok (.getfield 159, 3) := by decide +kernel
theorem dX11_count_52 : decode cX11_count 52 = .ok (.ireturn, 1) := by decide +kernel
theorem dX11_count_53 : decode cX11_count 53 = .ok (.aload_n 0, 1) := by decide +kernel
theorem dX11_count_54 : decode cX11_count 54 = .ok (.getfield 54, 3) := by decide +kernel
theorem dX11_count_57 : decode cX11_count 57 = .ok (.getfield 207, 3) := by decide +kernel
theorem dX11_count_60 : decode cX11_count 60 = .ok (.ireturn, 1) := by decide +kernel
theorem dX11_count_61 : decode cX11_count 61 = .ok (.aload_n 0, 1) := by decide +kernel
theorem dX11_count_62 : decode cX11_count 62 = .ok (.getfield 54, 3) := by decide +kernel
theorem dX11_count_65 : decode cX11_count 65 = .ok (.getfield 224, 3) := by decide +kernel
theorem dX11_count_68 : decode cX11_count 68 = .ok (.ireturn, 1) := by decide +kernel
theorem dX11_count_69 : decode cX11_count 69 = .ok (.aload_n 0, 1) := by decide +kernel
theorem dX11_count_70 : decode cX11_count 70 = .ok (.getfield 156, 3) := by decide +kernel
theorem dX11_count_73 : decode cX11_count 73 = .ok (.ireturn, 1) := by decide +kernel
theorem dX11_count_74 : decode cX11_count 74 = .ok (.aload_n 0, 1) := by decide +kernel
theorem dX11_count_75 : decode cX11_count 75 = .ok (.getfield 76, 3) := by decide +kernel
theorem dX11_count_78 : decode cX11_count 78 = .ok (.getfield 243, 3) := by decide +kernel
theorem dX11_count_81 : decode cX11_count 81 = .ok (.ireturn, 1) := by decide +kernel
theorem dX11_count_82 : decode cX11_count 82 = .ok (.bipush (-2), 2) := by decide +kernel
theorem dX11_count_84 : decode cX11_count 84 = .ok (.ireturn, 1) := by decide +kernel
theorem dX11_tape_0 : decode cX11_tape 0 = .ok (.iload_n 1, 1) := by decide +kernel
theorem dX11_tape_1 : decode cX11_tape 1 = .ok (.invokestatic 236, 3) := by decide +kernel
theorem dX11_tape_4 : decode cX11_tape 4 = .ok (.ifCond .ne 5, 3) := by decide +kernel
theorem dX11_tape_7 : decode cX11_tape 7 = .ok (.iconst (-1), 1) := by decide +kernel
theorem dX11_tape_8 : decode cX11_tape 8 = .ok (.ireturn, 1) := by decide +kernel
theorem dX11_tape_9 : decode cX11_tape 9 = .ok (.iload_n 2, 1) := by decide +kernel
theorem dX11_tape_10 : decode cX11_tape 10 = .ok (.iconst (-1), 1) := by decide +kernel
theorem dX11_tape_11 : decode cX11_tape 11 = .ok (.if_icmp .ne 19, 3) := by decide +kernel
theorem dX11_tape_14 : decode cX11_tape 14 = .ok (.aload_n 0, 1) := by decide +kernel
theorem dX11_tape_15 : decode cX11_tape 15 = .ok (.getfield 85, 3) := by decide +kernel
theorem dX11_tape_18 : decode cX11_tape 18 = .ok (.iload_n 1, 1) := by decide +kernel
theorem dX11_tape_19 : decode cX11_tape 19 = .ok (.iconst (-1), 1) := by decide +kernel
theorem dX11_tape_20 : decode cX11_tape 20 = .ok (.iastore, 1) := by decide +kernel
theorem dX11_tape_21 : decode cX11_tape 21 = .ok (.aload_n 0, 1) := by decide +kernel
theorem dX11_tape_22 : decode cX11_tape 22 = .ok (.getfield 89, 3) := by decide +kernel
theorem dX11_tape_25 : decode cX11_tape 25 = .ok (.iload_n 1, 1) := by decide +kernel
theorem dX11_tape_26 : decode cX11_tape 26 = .ok (.iconst 0, 1) := by decide +kernel
theorem dX11_tape_27 : decode cX11_tape 27 = .ok (.iastore, 1) := by decide +kernel
theorem dX11_tape_28 : decode cX11_tape 28 = .ok (.iconst 1, 1) := by decide +kernel
theorem dX11_tape_29 : decode cX11_tape 29 = .ok (.ireturn, 1) := by decide +kernel
theorem dX11_tape_30 : decode cX11_tape 30 = .ok (.iload_n 2, 1) := by decide +kernel
theorem dX11_tape_31 : decode cX11_tape 31 = .ok (.iconst 0, 1) := by decide +kernel
theorem dX11_tape_32 : decode cX11_tape 32 = .ok (.iconst 4, 1) := by decide +kernel
theorem dX11_tape_33 : decode cX11_tape 33 = .ok (.invokestatic 92, 3) := by decide +kernel
theorem dX11_tape_36 : decode cX11_tape 36 = .ok (.ifCond .eq 9, 3) := by decide +kernel
theorem dX11_tape_39 : decode cX11_tape 39 = .ok (.iload_n 3, 1) := by decide +kernel
theorem dX11_tape_40 : decode cX11_tape 40 = .ok (.bipush 60, 2) := by decide +kernel
theorem dX11_tape_42 : decode cX11_tape 42 = .ok (.if_icmp .le 6, 3) := by decide +kernel
theorem dX11_tape_45 : decode cX11_tape 45 = .ok (.bipush (-2), 2) := by decide +kernel
theorem dX11_tape_47 : decode cX11_tape 47 = .ok (.ireturn, 1) := by decide +kernel
theorem dX11_tape_48 : decode cX11_tape 48 = .ok (.iload_n 3, 1) := by decide +kernel
theorem dX11_tape_49 : decode cX11_tape 49 = .ok (.ifCond .ge 6, 3) := by decide +kernel
theorem dX11_tape_52 : decode cX11_tape 52 = .ok (.bipush (-14), 2) := by decide +kernel
theorem dX11_tape_54 : decode cX11_tape 54 = .ok (.ireturn, 1) := by decide +kernel
theorem dX11_tape_55 : decode cX11_tape 55 = .ok (.aload_n 0, 1) := by decide +kernel
theorem dX11_tape_56 : decode cX11_tape 56 = .ok (.getfield 85, 3) := by decide +kernel
theorem dX11_tape_59 : decode cX11_tape 59 = .ok (.iload_n 1, 1) := by decide +kernel
theorem dX11_tape_60 : decode cX11_tape 60 = .ok (.iload_n 2, 1) := by decide +kernel
theorem dX11_tape_61 : decode cX11_tape 61 = .ok (.iastore, 1) := by decide +kernel
theorem dX11_tape_62 : decode cX11_tape 62 = .ok (.aload_n 0, 1) := by decide +kernel
theorem dX11_tape_63 : decode cX11_tape 63 = .ok (.getfield 89, 3) := by decide +kernel
theorem dX11_tape_66 : decode cX11_tape 66 = .ok (.iload_n 1, 1) := by decide +kernel
theorem dX11_tape_67 : decode cX11_tape 67 = .ok (.iload_n 3, 1) := by decide +kernel
theorem dX11_tape_68 : decode cX11_tape 68 = .ok (.iastore, 1) := by decide +kernel
theorem dX11_tape_69 : decode cX11_tape 69 = .ok (.iconst 0, 1) := by decide +kernel
theorem dX11_tape_70 : decode cX11_tape 70 = .ok (.istore 4, 2) := by decide +kernel
theorem dX11_tape_72 : decode cX11_tape 72 = .ok (.iload 4, 2) := by decide +kernel
theorem dX11_tape_74 : decode cX11_tape 74 = .ok (.iload_n 3, 1) := by decide +kernel
theorem dX11_tape_75 : decode cX11_tape 75 = .ok (.if_icmp .ge 19, 3) := by decide +kernel
theorem dX11_tape_78 : decode cX11_tape 78 = .ok (.aload_n 0, 1) := by decide +kernel
theorem dX11_tape_79 : decode cX11_tape 79 = .ok (.getfield 82, 3) := by decide +kernel
theorem dX11_tape_82 : decode cX11_tape 82 = .ok (.iload_n 1, 1) := by decide +kernel
theorem dX11_tape_83 : decode cX11_tape 83 = .ok (.aaload, 1) := by decide +kernel
theorem dX11_tape_84 : decode cX11_tape 84 = .ok (.iload 4, 2) := by decide +kernel
theorem dX11_tape_86 : decode cX11_tape 86 = .ok (.lconst 0, 1) := by decide +kernel
theorem dX11_tape_87 : decode cX11_tape 87 = .ok (.lastore, 1) := by decide +kernel
theorem dX11_tape_88 : decode cX11_tape 88 = .ok (.iinc 4 1, 3) := by decide +kernel
theorem dX11_tape_91 : decode cX11_tape 91 = .ok (.goto (-19), 3) := by decide +kernel
theorem dX11_tape_94 : decode cX11_tape 94 = .ok (.iconst 1, 1) := by decide +kernel
theorem dX11_tape_95 : decode cX11_tape 95 = .ok (.ireturn, 1) := by decide +kernel
theorem dX11_item_0 : decode cX11_item 0 = .ok (.iload_n 1, 1) := by decide +kernel
theorem dX11_item_1 : decode cX11_item 1 = .ok (.invokestatic 236, 3) := by decide +kernel
theorem dX11_item_4 : decode cX11_item 4 = .ok (.ifCond .ne 5, 3) := by decide +kernel
theorem dX11_item_7 : decode cX11_item 7 = .ok (.iconst (-1), 1) := by decide +kernel
theorem dX11_item_8 : decode cX11_item 8 = .ok (.ireturn, 1) := by decide +kernel
theorem dX11_item_9 : decode cX11_item 9 = .ok (.aload_n 0, 1) := by decide +kernel
theorem dX11_item_10 : decode cX11_item 10 = .ok (.getfield 85, 3) := by decide +kernel
theorem dX11_item_13 : decode cX11_item 13 = .ok (.iload_n 1, 1) := by decide +kernel
theorem dX11_item_14 : decode cX11_item 14 = .ok (.iaload, 1) := by decide +kernel
theorem dX11_item_15 : decode cX11_item 15 = .ok (.iconst (-1), 1) := by decide +kernel
theorem dX11_item_16 : decode cX11_item 16 = .ok (.if_icmp .ne 6, 3) := by decide +kernel
theorem dX11_item_19 : decode cX11_item 19 = .ok (.bipush (-11), 2) := by decide +kernel
theorem dX11_item_21 : decode cX11_item 21 = .ok (.ireturn, 1) := by decide +kernel
theorem dX11_item_22 : decode cX11_item 22 = .ok (.iload_n 2, 1) := by decide +kernel
theorem dX11_item_23 : decode cX11_item 23 = .ok (.ifCond .lt 13, 3) := by decide +kernel
theorem dX11_item_26 : decode cX11_item 26 = .ok (.iload_n 2, 1) := by decide +kernel
theorem dX11_item_27 : decode cX11_item 27 = .ok (.aload_n 0, 1) := by decide +kernel
theorem dX11_item_28 : decode cX11_item 28 = .ok (.getfield 89, 3) := by decide +kernel
theorem dX11_item_31 : decode cX11_item 31 = .ok (.iload_n 1, 1) := by decide +kernel
theorem dX11_item_32 : decode cX11_item 32 = .ok (.iaload, 1) := by decide +kernel
theorem dX11_item_33 : decode cX11_item 33 = .ok (.if_icmp .lt 6, 3) := by decide +kernel
theorem dX11_item_36 : decode cX11_item 36 = .ok (.bipush (-13), 2) := by decide +kernel
theorem dX11_item_38 : decode cX11_item 38 = .ok (.ireturn, 1) := by decide +kernel
theorem dX11_item_39 : decode cX11_item 39 = .ok (.aload_n 0, 1) := by decide +kernel
theorem dX11_item_40 : decode cX11_item 40 = .ok (.getfield 82, 3) := by decide +kernel
theorem dX11_item_43 : decode cX11_item 43 = .ok (.iload_n 1, 1) := by decide +kernel
theorem dX11_item_44 : decode cX11_item 44 = .ok (.aaload, 1) := by decide +kernel
theorem dX11_item_45 : decode cX11_item 45 = .ok (.iload_n 2, 1) := by decide +kernel
theorem dX11_item_46 : decode cX11_item 46 = .ok (.aload_n 0, 1) := by decide +kernel
theorem dX11_item_47 : decode cX11_item 47 = .ok (.getfield 85, 3) := by decide +kernel
theorem dX11_item_50 : decode cX11_item 50 = .ok (.iload_n 1, 1) := by decide +kernel
theorem dX11_item_51 : decode cX11_item 51 = .ok (.iaload, 1) := by decide +kernel
theorem dX11_item_52 : decode cX11_item 52 = .ok (.lload_n 3, 1) := by decide +kernel
theorem dX11_item_53 : decode cX11_item 53 = .ok (.invokestatic 267, 3) := by decide +kernel
theorem dX11_item_56 : decode cX11_item 56 = .ok (.lastore, 1) := by decide +kernel
theorem dX11_item_57 : decode cX11_item 57 = .ok (.iconst 1, 1) := by decide +kernel
theorem dX11_item_58 : decode cX11_item 58 = .ok (.ireturn, 1) := by decide +kernel
theorem dX11_read_0 : decode cX11_read 0 = .ok (.iload_n 1, 1) := by decide +kernel
theorem dX11_read_1 : decode cX11_read 1 = .ok (.invokestatic 236, 3) := by decide +kernel
theorem dX11_read_4 : decode cX11_read 4 = .ok (.ifCond .eq 17, 3) := by decide +kernel
theorem dX11_read_7 : decode cX11_read 7 = .ok (.iload_n 2, 1) := by decide +kernel
theorem dX11_read_8 : decode cX11_read 8 = .ok (.ifCond .lt 13, 3) := by decide +kernel
theorem dX11_read_11 : decode cX11_read 11 = .ok (.iload_n 2, 1) := by decide +kernel
theorem dX11_read_12 : decode cX11_read 12 = .ok (.aload_n 0, 1) := by decide +kernel
theorem dX11_read_13 : decode cX11_read 13 = .ok (.getfield 89, 3) := by decide +kernel
theorem dX11_read_16 : decode cX11_read 16 = .ok (.iload_n 1, 1) := by decide +kernel
theorem dX11_read_17 : decode cX11_read 17 = .ok (.iaload, 1) := by decide +kernel
theorem dX11_read_18 : decode cX11_read 18 = .ok (.if_icmp .lt 7, 3) := by decide +kernel
theorem dX11_read_21 : decode cX11_read 21 = .ok (.ldc2_w 218, 3) := by decide +kernel
theorem dX11_read_24 : decode cX11_read 24 = .ok (.lreturn, 1) := by decide +kernel
theorem dX11_read_25 : decode cX11_read 25 = .ok (.aload_n 0, 1) := by decide +kernel
theorem dX11_read_26 : decode cX11_read 26 = .ok (.getfield 82, 3) := by decide +kernel
theorem dX11_read_29 : decode cX11_read 29 = .ok (.iload_n 1, 1) := by decide +kernel
theorem dX11_read_30 : decode cX11_read 30 = .ok (.aaload, 1) := by decide +kernel
theorem dX11_read_31 : decode cX11_read 31 = .ok (.iload_n 2, 1) := by decide +kernel
theorem dX11_read_32 : decode cX11_read 32 = .ok (.laload, 1) := by decide +kernel
theorem dX11_read_33 : decode cX11_read 33 = .ok (.lreturn, 1) := by decide +kernel
theorem dX11_shift_0 : decode cX11_shift 0 = .ok (.iload_n 1, 1) := by decide +kernel
theorem dX11_shift_1 : decode cX11_shift 1 = .ok (.invokestatic 236, 3) := by decide +kernel
theorem dX11_shift_4 : decode cX11_shift 4 = .ok (.ifCond .eq 10, 3) := by decide +kernel
theorem dX11_shift_7 : decode cX11_shift 7 = .ok (.iload_n 3, 1) := by decide +kernel
theorem dX11_shift_8 : decode cX11_shift 8 = .ok (.invokestatic 236, 3) := by decide +kernel
theorem dX11_shift_11 : decode cX11_shift 11 = .ok (.ifCond .ne 5, 3) := by decide +kernel
theorem dX11_shift_14 : decode cX11_shift 14 = .ok (.iconst (-1), 1) := by decide +kernel
theorem dX11_shift_15 : decode cX11_shift 15 = .ok (.ireturn, 1) := by decide +kernel
theorem dX11_shift_16 : decode cX11_shift 16 = .ok (.aload_n 0, 1) := by decide +kernel
theorem dX11_shift_17 : decode cX11_shift 17 = .ok (.getfield 85, 3) := by decide +kernel
theorem dX11_shift_20 : decode cX11_shift 20 = .ok (.iload_n 1, 1) := by decide +kernel
theorem dX11_shift_21 : decode cX11_shift 21 = .ok (.iaload, 1) := by decide +kernel
theorem dX11_shift_22 : decode cX11_shift 22 = .ok (.iconst (-1), 1) := by decide +kernel
theorem dX11_shift_23 : decode cX11_shift 23 = .ok (.if_icmp .eq 13, 3) := by decide +kernel
theorem dX11_shift_26 : decode cX11_shift 26 = .ok (.aload_n 0, 1) := by decide +kernel
theorem dX11_shift_27 : decode cX11_shift 27 = .ok (.getfield 85, 3) := by decide +kernel
theorem dX11_shift_30 : decode cX11_shift 30 = .ok (.iload_n 3, 1) := by decide +kernel
theorem dX11_shift_31 : decode cX11_shift 31 = .ok (.iaload, 1) := by decide +kernel
theorem dX11_shift_32 : decode cX11_shift 32 = .ok (.iconst (-1), 1) := by decide +kernel
theorem dX11_shift_33 : decode cX11_shift 33 = .ok (.if_icmp .ne 6, 3) := by decide +kernel
theorem dX11_shift_36 : decode cX11_shift 36 = .ok (.bipush (-11), 2) := by decide +kernel
theorem dX11_shift_38 : decode cX11_shift 38 = .ok (.ireturn, 1) := by decide +kernel
theorem dX11_shift_39 : decode cX11_shift 39 = .ok (.aload_n 0, 1) := by decide +kernel
theorem dX11_shift_40 : decode cX11_shift 40 = .ok (.getfield 85, 3) := by decide +kernel
theorem dX11_shift_43 : decode cX11_shift 43 = .ok (.iload_n 1, 1) := by decide +kernel
theorem dX11_shift_44 : decode cX11_shift 44 = .ok (.iaload, 1) := by decide +kernel
theorem dX11_shift_45 : decode cX11_shift 45 = .ok (.aload_n 0, 1) := by decide +kernel
theorem dX11_shift_46 : decode cX11_shift 46 = .ok (.getfield 85, 3) := by decide +kernel
theorem dX11_shift_49 : decode cX11_shift 49 = .ok (.iload_n 3, 1) := by decide +kernel
theorem dX11_shift_50 : decode cX11_shift 50 = .ok (.iaload, 1) := by decide +kernel
theorem dX11_shift_51 : decode cX11_shift 51 = .ok (.if_icmp .eq 6, 3) := by decide +kernel
theorem dX11_shift_54 : decode cX11_shift 54 = .ok (.bipush (-12), 2) := by decide +kernel
theorem dX11_shift_56 : decode cX11_shift 56 = .ok (.ireturn, 1) := by decide +kernel
theorem dX11_shift_57 : decode cX11_shift 57 = .ok (.iload 5, 2) := by decide +kernel
theorem dX11_shift_59 : decode cX11_shift 59 = .ok (.ifCond .lt 39, 3) := by decide +kernel
theorem dX11_shift_62 : decode cX11_shift 62 = .ok (.iload_n 2, 1) := by decide +kernel
theorem dX11_shift_63 : decode cX11_shift 63 = .ok (.ifCond .lt 35, 3) := by decide +kernel
theorem dX11_shift_66 : decode cX11_shift 66 = .ok (.iload 4, 2) := by decide +kernel
theorem dX11_shift_68 : decode cX11_shift 68 = .ok (.ifCond .lt 30, 3) := by decide +kernel
theorem dX11_shift_71 : decode cX11_shift 71 = .ok (.iload 5, 2) := by decide +kernel
theorem dX11_shift_73 : decode cX11_shift 73 = .ok (.aload_n 0, 1) := by decide +kernel
theorem dX11_shift_74 : decode cX11_shift 74 = .ok (.getfield 89, 3) := by decide +kernel
theorem dX11_shift_77 : decode cX11_shift 77 = .ok (.iload_n 1, 1) := by decide +kernel
theorem dX11_shift_78 : decode cX11_shift 78 = .ok (.iaload, 1) := by decide +kernel
theorem dX11_shift_79 : decode cX11_shift 79 = .ok (.iload_n 2, 1) := by decide +kernel
theorem dX11_shift_80 : decode cX11_shift 80 = .ok (.isub, 1) := by decide +kernel
theorem dX11_shift_81 : decode cX11_shift 81 = .ok (.if_icmp .gt 17, 3) := by decide +kernel
theorem dX11_shift_84 : decode cX11_shift 84 = .ok (.iload 5, 2) := by decide +kernel
theorem dX11_shift_86 : decode cX11_shift 86 = .ok (.aload_n 0, 1) := by decide +kernel
theorem dX11_shift_87 : decode cX11_shift 87 = .ok (.getfield 89, 3) := by decide +kernel
theorem dX11_shift_90 : decode cX11_shift 90 = .ok (.iload_n 3, 1) := by decide +kernel
theorem dX11_shift_91 : decode cX11_shift 91 = .ok (.iaload, 1) := by decide +kernel
theorem dX11_shift_92 : decode cX11_shift 92 = .ok (.iload 4, 2) := by decide +kernel
theorem dX11_shift_94 : decode cX11_shift 94 = .ok (.isub, 1) := by decide +kernel
theorem dX11_shift_95 : decode cX11_shift 95 = .ok (.if_icmp .le 6, 3) := by decide +kernel
theorem dX11_shift_98 : decode cX11_shift 98 = .ok (.bipush (-13), 2) := by decide +kernel
theorem dX11_shift_100 : decode cX11_shift 100 = .ok (.ireturn, 1) := by decide +kernel
theorem dX11_shift_101 : decode cX11_shift 101 = .ok (.aload_n 0, 1) := by decide +kernel
theorem dX11_shift_102 : decode cX11_shift 102 = .ok (.getfield 82, 3) := by decide +kernel
theorem dX11_shift_105 : decode cX11_shift 105 = .ok (.iload_n 1, 1) := by decide +kernel
theorem dX11_shift_106 : decode cX11_shift 106 = .ok (.aaload, 1) := by decide +kernel
theorem dX11_shift_107 : decode cX11_shift 107 = .ok (.iload_n 2, 1) := by decide +kernel
theorem dX11_shift_108 : decode cX11_shift 108 = .ok (.aload_n 0, 1) := by decide +kernel
theorem dX11_shift_109 : decode cX11_shift 109 = .ok (.getfield 82, 3) := by decide +kernel
theorem dX11_shift_112 : decode cX11_shift 112 = .ok (.iload_n 3, 1) := by decide +kernel
theorem dX11_shift_113 : decode cX11_shift 113 = .ok (.aaload, 1) := by decide +kernel
theorem dX11_shift_114 : decode cX11_shift 114 = .ok (.iload 4, 2) := by decide +kernel
theorem dX11_shift_116 : decode cX11_shift 116 = .ok (.iload 5, 2) := by decide +kernel
theorem dX11_shift_118 : decode cX11_shift 118 = .ok (.invokestatic 271, 3) := by decide +kernel
theorem dX11_shift_121 : decode cX11_shift 121 = .ok (.iload 5, 2) := by decide +kernel
theorem dX11_shift_123 : decode cX11_shift 123 = .ok (.ireturn, 1) := by decide +kernel
theorem dX11_within_0 : decode cX11_within 0 = .ok (.iload_n 0, 1) := by decide +kernel
theorem dX11_within_1 : decode cX11_within 1 = .ok (.iload_n 1, 1) := by decide +kernel
theorem dX11_within_2 : decode cX11_within 2 = .ok (.if_icmp .lt 12, 3) := by decide +kernel
theorem dX11_within_5 : decode cX11_within 5 = .ok (.iload_n 0, 1) := by decide +kernel
theorem dX11_within_6 : decode cX11_within 6 = .ok (.iload_n 2, 1) := by decide +kernel
theorem dX11_within_7 : decode cX11_within 7 = .ok (.if_icmp .gt 7, 3) := by decide +kernel
theorem dX11_within_10 : decode cX11_within 10 = .ok (.iconst 1, 1) := by decide +kernel
theorem dX11_within_11 : decode cX11_within 11 = .ok (.goto 4, 3) := by decide +kernel
theorem dX11_within_14 : decode cX11_within 14 = .ok (.iconst 0, 1) := by decide +kernel
theorem dX11_within_15 : decode cX11_within 15 = .ok (.ireturn, 1) := by decide +kernel
theorem dX11_isTape_0 : decode cX11_isTape 0 = .ok (.iload_n 0, 1) := by decide +kernel
theorem dX11_isTape_1 : decode cX11_isTape 1 = .ok (.iconst 0, 1) := by decide +kernel
theorem dX11_isTape_2 : decode cX11_isTape 2 = .ok (.iconst 5, 1) := by decide +kernel
theorem dX11_isTape_3 : decode cX11_isTape 3 = .ok (.invokestatic 92, 3) := by decide +kernel
theorem dX11_isTape_6 : decode cX11_isTape 6 = .ok (.ireturn, 1) := by decide +kernel
theorem dX11_placeIn_0 : decode cX11_placeIn 0 = .ok (.iload_n 0, 1) := by decide +kernel
theorem dX11_placeIn_1 : decode cX11_placeIn 1 = .ok (.iconst 2, 1) := by decide +kernel
theorem dX11_placeIn_2 : decode cX11_placeIn 2 = .ok (.iconst 3, 1) := by decide +kernel
theorem dX11_placeIn_3 : decode cX11_placeIn 3 = .ok (.iload_n 1, 1) := by decide +kernel
theorem dX11_placeIn_4 : decode cX11_placeIn 4 = .ok (.isub, 1) := by decide +kernel
theorem dX11_placeIn_5 : decode cX11_placeIn 5 = .ok (.imul, 1) := by decide +kernel
theorem dX11_placeIn_6 : decode cX11_placeIn 6 = .ok (.ishr, 1) := by decide +kernel
theorem dX11_placeIn_7 : decode cX11_placeIn 7 = .ok (.iconst 3, 1) := by decide +kernel
theorem dX11_placeIn_8 : decode cX11_placeIn 8 = .ok (.iand, 1) := by decide +kernel
theorem dX11_placeIn_9 : decode cX11_placeIn 9 = .ok (.ireturn, 1) := by decide +kernel
theorem dX11_namesEachPlace_0 : decode cX11_namesEachPlace 0 = .ok (.iconst 0, 1) := by decide +kernel
theorem dX11_namesEachPlace_1 : decode cX11_namesEachPlace 1 = .ok (.istore_n 1, 1) := by decide +kernel
theorem dX11_namesEachPlace_2 : decode cX11_namesEachPlace 2 = .ok (.iconst 0, 1) := by decide +kernel
theorem dX11_namesEachPlace_3 : decode cX11_namesEachPlace 3 = .ok (.istore_n 2, 1) := by decide +kernel
theorem dX11_namesEachPlace_4 : decode cX11_namesEachPlace 4 = .ok (.iload_n 2, 1) := by decide +kernel
theorem dX11_namesEachPlace_5 : decode cX11_namesEachPlace 5 = .ok (.iconst 4, 1) := by decide +kernel
theorem dX11_namesEachPlace_6 : decode cX11_namesEachPlace 6 = .ok (.if_icmp .ge 19, 3) := by decide +kernel
theorem dX11_namesEachPlace_9 : decode cX11_namesEachPlace 9 = .ok (.iload_n 1, 1) := by decide +kernel
theorem dX11_namesEachPlace_10 : decode cX11_namesEachPlace 10 = .ok (.iconst 1, 1) := by decide +kernel
theorem dX11_namesEachPlace_11 : decode cX11_namesEachPlace 11 = .ok (.iload_n 0, 1) := by decide +kernel
theorem dX11_namesEachPlace_12 : decode cX11_namesEachPlace 12 = .ok (.iload_n 2, 1) := by decide +kernel
theorem dX11_namesEachPlace_13 : decode cX11_namesEachPlace 13 = .ok (.invokestatic 200, 3) := by decide +kernel
theorem dX11_namesEachPlace_16 : decode cX11_namesEachPlace 16 = .ok (.ishl, 1) := by decide +kernel
theorem dX11_namesEachPlace_17 : decode cX11_namesEachPlace 17 = .ok (.ior, 1) := by decide +kernel
theorem dX11_namesEachPlace_18 : decode cX11_namesEachPlace 18 = .ok (.istore_n 1, 1) := by decide +kernel
theorem dX11_namesEachPlace_19 : decode cX11_namesEachPlace 19 = .ok (.iinc 2 1, 3) := by decide +kernel
theorem dX11_namesEachPlace_22 : decode cX11_namesEachPlace 22 = .ok (.goto (-18), 3) := by decide +kernel
theorem dX11_namesEachPlace_25 : decode cX11_namesEachPlace 25 = .ok (.iload_n 1, 1) := by decide +kernel
theorem dX11_namesEachPlace_26 : decode cX11_namesEachPlace 26 = .ok (.bipush 15, 2) := by decide +kernel
theorem dX11_namesEachPlace_28 : decode cX11_namesEachPlace 28 = .ok (.if_icmp .ne 7, 3) := by decide +kernel
theorem dX11_namesEachPlace_31 : decode cX11_namesEachPlace 31 = .ok (.iconst 1, 1) := by decide +kernel
theorem dX11_namesEachPlace_32 : decode cX11_namesEachPlace 32 = .ok (.goto 4, 3) := by decide +kernel
theorem dX11_namesEachPlace_35 : decode cX11_namesEachPlace 35 = .ok (.iconst 0, 1) := by decide +kernel
theorem dX11_namesEachPlace_36 : decode cX11_namesEachPlace 36 = .ok (.ireturn, 1) := by decide +kernel
theorem dX11_allSeenIsSo_0 : decode cX11_allSeenIsSo 0 = .ok (.iconst 0, 1) := by decide +kernel
theorem dX11_allSeenIsSo_1 : decode cX11_allSeenIsSo 1 = .ok (.istore_n 1, 1) := by decide +kernel
theorem dX11_allSeenIsSo_2 : decode cX11_allSeenIsSo 2 = .ok (.iload_n 1, 1) := by decide +kernel
theorem dX11_allSeenIsSo_3 : decode cX11_allSeenIsSo 3 = .ok (.bipush 20, 2) := by decide +kernel
theorem dX11_allSeenIsSo_5 : decode cX11_allSeenIsSo 5 = .ok (.if_icmp .gt 108, 3) := by decide +kernel
theorem dX11_allSeenIsSo_8 : decode cX11_allSeenIsSo 8 = .ok (.iconst 0, 1) := by decide +kernel
theorem dX11_allSeenIsSo_9 : decode cX11_allSeenIsSo 9 = .ok (.istore_n 2, 1) := by decide +kernel
theorem dX11_allSeenIsSo_10 : decode cX11_allSeenIsSo 10 = .ok (.iload_n 2, 1) := by decide +kernel
theorem dX11_allSeenIsSo_11 : decode cX11_allSeenIsSo 11 = .ok (.aload_n 0, 1) := by decide +kernel
theorem dX11_allSeenIsSo_12 : decode cX11_allSeenIsSo 12 = .ok (.getfield 54, 3) := by decide +kernel
theorem dX11_allSeenIsSo_15 : decode cX11_allSeenIsSo 15 = .ok (.getfield 207, 3) := by decide +kernel
theorem dX11_allSeenIsSo_18 : decode cX11_allSeenIsSo 18 = .ok (.if_icmp .ge 66, 3) := by decide +kernel
theorem dX11_allSeenIsSo_21 : decode cX11_allSeenIsSo 21 = .ok (.aload_n 0, 1) := by decide +kernel
theorem dX11_allSeenIsSo_22 : decode cX11_allSeenIsSo 22 = .ok (.getfield 54, 3) := by decide +kernel
theorem dX11_allSeenIsSo_25 : decode cX11_allSeenIsSo 25 = .ok (.getfield 277, 3) := by decide +kernel
theorem dX11_allSeenIsSo_28 : decode cX11_allSeenIsSo 28 = .ok (.iload_n 2, 1) := by decide +kernel
theorem dX11_allSeenIsSo_29 : decode cX11_allSeenIsSo 29 = .ok (.iaload, 1) := by decide +kernel
theorem dX11_allSeenIsSo_30 : decode cX11_allSeenIsSo 30 = .ok (.istore_n 3, 1) := by decide +kernel
theorem dX11_allSeenIsSo_31 : decode cX11_allSeenIsSo 31 = .ok (.aload_n 0, 1) := by decide +kernel
theorem dX11_allSeenIsSo_32 : decode cX11_allSeenIsSo 32 = .ok (.getfield 54, 3) := by decide +kernel
theorem dX11_allSeenIsSo_35 : decode cX11_allSeenIsSo 35 = .ok (.getfield 280, 3) := by decide +kernel
theorem dX11_allSeenIsSo_38 : decode cX11_allSeenIsSo 38 = .ok (.iload_n 2, 1) := by decide +kernel
theorem dX11_allSeenIsSo_39 : decode cX11_allSeenIsSo 39 = .ok (.iaload, 1) := by decide +kernel
theorem dX11_allSeenIsSo_40 : decode cX11_allSeenIsSo 40 = .ok (.iload_n 1, 1) := by decide +kernel
theorem dX11_allSeenIsSo_41 : decode cX11_allSeenIsSo 41 = .ok (.if_icmp .ne 37, 3) := by decide +kernel
theorem dX11_allSeenIsSo_44 : decode cX11_allSeenIsSo 44 = .ok (.aload_n 0, 1) := by decide +kernel
theorem dX11_allSeenIsSo_45 : decode cX11_allSeenIsSo 45 = .ok (.getfield 54, 3) := by decide +kernel
theorem dX11_allSeenIsSo_48 : decode cX11_allSeenIsSo 48 = .ok (.iload_n 3, 1) := by decide +kernel
theorem dX11_allSeenIsSo_49 : decode cX11_allSeenIsSo 49 = .ok (.invokevirtual 104, 3) := by decide +kernel
theorem dX11_allSeenIsSo_52 : decode cX11_allSeenIsSo 52 = .ok (.ifCond .eq 26, 3) := by decide +kernel
theorem dX11_allSeenIsSo_55 : decode cX11_allSeenIsSo 55 = .ok (.aload_n 0, 1) := by decide +kernel
theorem dX11_allSeenIsSo_56 : decode cX11_allSeenIsSo 56 = .ok (.getfield 58, 3) := by decide +kernel
theorem dX11_allSeenIsSo_59 : decode cX11_allSeenIsSo 59 = .ok (.getfield 118, 3) := by decide +kernel
theorem dX11_allSeenIsSo_62 : decode cX11_allSeenIsSo 62 = .ok (.iload_n 3, 1) := by decide +kernel
theorem dX11_allSeenIsSo_63 : decode cX11_allSeenIsSo 63 = .ok (.iaload, 1) := by decide +kernel
theorem dX11_allSeenIsSo_64 : decode cX11_allSeenIsSo 64 = .ok (.aload_n 0, 1) := by decide +kernel
theorem dX11_allSeenIsSo_65 : decode cX11_allSeenIsSo 65 = .ok (.getfield 54, 3) := by decide +kernel
theorem dX11_allSeenIsSo_68 : decode cX11_allSeenIsSo 68 = .ok (.getfield 283, 3) := by decide +kernel
theorem dX11_allSeenIsSo_71 : decode cX11_allSeenIsSo 71 = .ok (.iload_n 2, 1) := by decide +kernel
theorem dX11_allSeenIsSo_72 : decode cX11_allSeenIsSo 72 = .ok (.iaload, 1) := by decide +kernel
theorem dX11_allSeenIsSo_73 : decode cX11_allSeenIsSo 73 = .ok (.if_icmp .eq 5, 3) := by decide +kernel
theorem dX11_allSeenIsSo_76 : decode cX11_allSeenIsSo 76 = .ok (.iconst 0, 1) := by decide +kernel
theorem dX11_allSeenIsSo_77 : decode cX11_allSeenIsSo 77 = .ok (.ireturn, 1) := by decide +kernel
theorem dX11_allSeenIsSo_78 : decode cX11_allSeenIsSo 78 = .ok (.iinc 2 1, 3) := by decide +kernel
theorem dX11_allSeenIsSo_81 : decode cX11_allSeenIsSo 81 = .ok (.goto (-71), 3) := by decide +kernel
theorem dX11_allSeenIsSo_84 : decode cX11_allSeenIsSo 84 = .ok (.aload_n 0, 1) := by decide +kernel
theorem dX11_allSeenIsSo_85 : decode cX11_allSeenIsSo 85 = .ok (.getfield 69, 3) := by decide +kernel
theorem dX11_allSeenIsSo_88 : decode cX11_allSeenIsSo 88 = .ok (.aload_n 0, 1) := by decide +kernel
theorem dX11_allSeenIsSo_89 : decode cX11_allSeenIsSo 89 = .ok (.getfield 58, 3) := by decide +kernel
theorem dX11_allSeenIsSo_92 : decode cX11_allSeenIsSo 92 = .ok (.aload_n 0, 1) := by decide +kernel
theorem dX11_allSeenIsSo_93 : decode cX11_allSeenIsSo 93 = .ok (.getfield 58, 3) := by decide +kernel
theorem dX11_allSeenIsSo_96 : decode cX11_allSeenIsSo 96 = .ok (.getfield 139, 3) := by decide +kernel
theorem dX11_allSeenIsSo_99 : decode cX11_allSeenIsSo 99 = .ok (.getfield 172, 3) := by decide +kernel
theorem dX11_allSeenIsSo_102 : decode cX11_allSeenIsSo 102 = .ok (.iconst (-1), 1) := by decide +kernel
theorem dX11_allSeenIsSo_103 : decode cX11_allSeenIsSo 103 = .ok (.invokevirtual 203, 3) := by decide +kernel
theorem dX11_allSeenIsSo_106 : decode cX11_allSeenIsSo 106 = .ok (.pop, 1) := by decide +kernel
theorem dX11_allSeenIsSo_107 : decode cX11_allSeenIsSo 107 = .ok (.iinc 1 1, 3) := by decide +kernel
theorem dX11_allSeenIsSo_110 : decode cX11_allSeenIsSo 110 = .ok (.goto (-108), 3) := by decide +kernel
theorem dX11_allSeenIsSo_113 : decode cX11_allSeenIsSo 113 = .ok (.iconst 1, 1) := by decide +kernel
theorem dX11_allSeenIsSo_114 : decode cX11_allSeenIsSo 114 = .ok (.ireturn, 1) := by decide +kernel
theorem dX11_partOfFraction_0 : decode cX11_partOfFraction 0 = .ok (.iconst 1, 1) := by decide +kernel
theorem dX11_partOfFraction_1 : decode cX11_partOfFraction 1 = .ok (.istore_n 3, 1) := by decide +kernel
theorem dX11_partOfFraction_2 : decode cX11_partOfFraction 2 = .ok (.iconst 2, 1) := by decide +kernel
theorem dX11_partOfFraction_3 : decode cX11_partOfFraction 3 = .ok (.istore 4, 2) := by decide +kernel
theorem dX11_partOfFraction_5 : decode cX11_partOfFraction 5 = .ok (.iload 4, 2) := by decide +kernel
theorem dX11_partOfFraction_7 : decode cX11_partOfFraction 7 = .ok (.iload_n 1, 1) := by decide +kernel
theorem dX11_partOfFraction_8 : decode cX11_partOfFraction 8 = .ok (.if_icmp .gt 26, 3) := by decide +kernel
theorem dX11_partOfFraction_11 : decode cX11_partOfFraction 11 = .ok (.iload_n 0, 1) := by decide +kernel
theorem dX11_partOfFraction_12 : decode cX11_partOfFraction 12 = .ok (.iload 4, 2) := by decide +kernel
theorem dX11_partOfFraction_14 : decode cX11_partOfFraction 14 = .ok (.irem, 1) := by decide +kernel
theorem dX11_partOfFraction_15 : decode cX11_partOfFraction 15 = .ok (.ifCond .ne 13, 3) := by decide +kernel
theorem dX11_partOfFraction_18 : decode cX11_partOfFraction 18 = .ok (.iload_n 1, 1) := by decide +kernel
theorem dX11_partOfFraction_19 : decode cX11_partOfFraction 19 = .ok (.iload 4, 2) := by decide +kernel
theorem dX11_partOfFraction_21 : decode cX11_partOfFraction 21 = .ok (.irem, 1) := by decide +kernel
theorem dX11_partOfFraction_22 : decode cX11_partOfFraction 22 = .ok (.ifCond .ne 6, 3) := by decide +kernel
theorem dX11_partOfFraction_25 : decode cX11_partOfFraction 25 = .ok (.iload 4, 2) := by decide +kernel
theorem dX11_partOfFraction_27 : decode cX11_partOfFraction 27 = .ok (.istore_n 3, 1) := by decide +kernel
theorem dX11_partOfFraction_28 : decode cX11_partOfFraction 28 = .ok (.iinc 4 1, 3) := by decide +kernel
theorem dX11_partOfFraction_31 : decode cX11_partOfFraction 31 = .ok (.goto (-26), 3) := by decide +kernel
theorem dX11_partOfFraction_34 : decode cX11_partOfFraction 34 = .ok (.iload_n 2, 1) := by decide +kernel
theorem dX11_partOfFraction_35 : decode cX11_partOfFraction 35 = .ok (.ifCond .ne 10, 3) := by decide +kernel
theorem dX11_partOfFraction_38 : decode cX11_partOfFraction 38 = .ok (.iload_n 0, 1) := by decide +kernel
theorem dX11_partOfFraction_39 : decode cX11_partOfFraction 39 = .ok (.iload_n 3, 1) := by decide +kernel
theorem dX11_partOfFraction_40 : decode cX11_partOfFraction 40 = .ok (.idiv, 1) := by decide +kernel
theorem dX11_partOfFraction_41 : decode cX11_partOfFraction 41 = .ok (.i2l, 1) := by decide +kernel
theorem dX11_partOfFraction_42 : decode cX11_partOfFraction 42 = .ok (.goto 7, 3) := by decide +kernel
theorem dX11_partOfFraction_45 : decode cX11_partOfFraction 45 = .ok (.iload_n 1, 1) := by decide +kernel
theorem dX11_partOfFraction_46 : decode cX11_partOfFraction 46 = .ok (.iload_n 3, 1) := by decide +kernel
theorem dX11_partOfFraction_47 : decode cX11_partOfFraction 47 = .ok (.idiv, 1) := by decide +kernel
theorem dX11_partOfFraction_48 : decode cX11_partOfFraction 48 = .ok (.i2l, 1) := by decide +kernel
theorem dX11_partOfFraction_49 : decode cX11_partOfFraction 49 = .ok (.lreturn, 1) := by decide +kernel
theorem dX11_asItem_0 : decode cX11_asItem 0 = .ok (.iload_n 0, 1) := by decide +kernel
theorem dX11_asItem_1 : decode cX11_asItem 1 = .ok (.tableswitch 47 0 3 #[31, 36, 41, 45], 31) := by decide +kernel
theorem dX11_asItem_32 : decode cX11_asItem 32 = .ok (.lload_n 1, 1) := by decide +kernel
theorem dX11_asItem_33 : decode cX11_asItem 33 = .ok (.l2i, 1) := by decide +kernel
theorem dX11_asItem_34 : decode cX11_asItem 34 = .ok (.i2b, 1) := by decide +kernel
theorem dX11_asItem_35 : decode cX11_asItem 35 = .ok (.i2l, 1) := by decide +kernel
theorem dX11_asItem_36 : decode cX11_asItem 36 = .ok (.lreturn, 1) := by decide +kernel
theorem dX11_asItem_37 : decode cX11_asItem 37 = .ok (.lload_n 1, 1) := by decide +kernel
theorem dX11_asItem_38 : decode cX11_asItem 38 = .ok (.l2i, 1) := by decide +kernel
theorem dX11_asItem_39 : decode cX11_asItem 39 = .ok (.i2s, 1) := by decide +kernel
theorem dX11_asItem_40 : decode cX11_asItem 40 = .ok (.i2l, 1) := by decide +kernel
theorem dX11_asItem_41 : decode cX11_asItem 41 = .ok (.lreturn, 1) := by decide +kernel
theorem dX11_asItem_42 : decode cX11_asItem 42 = .ok (.lload_n 1, 1) := by decide +kernel
theorem dX11_asItem_43 : decode cX11_asItem 43 = .ok (.l2i, 1) := by decide +kernel
theorem dX11_asItem_44 : decode cX11_asItem 44 = .ok (.i2l, 1) := by decide +kernel
theorem dX11_asItem_45 : decode cX11_asItem 45 = .ok (.lreturn, 1) := by decide +kernel
theorem dX11_asItem_46 : decode cX11_asItem 46 = .ok (.lload_n 1, 1) := by decide +kernel
theorem dX11_asItem_47 : decode cX11_asItem 47 = .ok (.lreturn, 1) := by decide +kernel
theorem dX11_asItem_48 : decode cX11_asItem 48 = .ok (.lload_n 1, 1) := by decide +kernel
theorem dX11_asItem_49 : decode cX11_asItem 49 = .ok (.lconst 0, 1) := by decide +kernel
theorem dX11_asItem_50 : decode cX11_asItem 50 = .ok (.lcmp, 1) := by decide +kernel
theorem dX11_asItem_51 : decode cX11_asItem 51 = .ok (.ifCond .eq 7, 3) := by decide +kernel
theorem dX11_asItem_54 : decode cX11_asItem 54 = .ok (.lconst 1, 1) := by decide +kernel
theorem dX11_asItem_55 : decode cX11_asItem 55 = .ok (.goto 4, 3) := by decide +kernel
theorem dX11_asItem_58 : decode cX11_asItem 58 = .ok (.lconst 0, 1) := by decide +kernel
theorem dX11_asItem_59 : decode cX11_asItem 59 = .ok (.lreturn, 1) := by decide +kernel
