theorem dX0_init_0 : decode cX0_init 0 = .ok (.aload_n 0, 1) := by decide +kernel
theorem dX0_init_1 : decode cX0_init 1 = .ok (.invokespecial 3, 3) := by decide +kernel
theorem dX0_init_4 : decode cX0_init 4 = .ok (.aload_n 0, 1) := by decide +kernel
theorem dX0_init_5 : decode cX0_init 5 = .ok (.bipush 12, 2) := by decide +kernel
theorem dX0_init_7 : decode cX0_init 7 = .ok (.newarray .int, 2) := by decide +kernel
theorem dX0_init_9 : decode cX0_init 9 = .ok (.putfield 9, 3) := by decide +kernel
theorem dX0_init_12 : decode cX0_init 12 = .ok (.return_, 1) := by decide +kernel
theorem dX0_append_0 : decode cX0_append 0 = .ok (.aload_n 0, 1) := by decide +kernel
theorem dX0_append_1 : decode cX0_append 1 = .ok (.getfield 15, 3) := by decide +kernel
theorem dX0_append_4 : decode cX0_append 4 = .ok (.bipush 12, 2) := by decide +kernel
theorem dX0_append_6 : decode cX0_append 6 = .ok (.if_icmp .lt 6, 3) := by decide +kernel
theorem dX0_append_9 : decode cX0_append 9 = .ok (.bipush (-3), 2) := by decide +kernel
theorem dX0_append_11 : decode cX0_append 11 = .ok (.ireturn, 1) := by decide +kernel
theorem dX0_append_12 : decode cX0_append 12 = .ok (.aload_n 0, 1) := by decide +kernel
theorem dX0_append_13 : decode cX0_append 13 = .ok (.getfield 9, 3) := by decide +kernel
theorem dX0_append_16 : decode cX0_append 16 = .ok (.aload_n 0, 1) := by decide +kernel
theorem dX0_append_17 : decode cX0_append 17 = .ok (.getfield 15, 3) := by decide +kernel
theorem dX0_append_20 : decode cX0_append 20 = .ok (.iload_n 1, 1) := by decide +kernel
theorem dX0_append_21 : decode cX0_append 21 = .ok (.iastore, 1) := by decide +kernel
theorem dX0_append_22 : decode cX0_append 22 = .ok (.aload_n 0, 1) := by decide +kernel
theorem dX0_append_23 : decode cX0_append 23 = .ok (.dup, 1) := by decide +kernel
theorem dX0_append_24 : decode cX0_append 24 = .ok (.getfield 15, 3) := by decide +kernel
theorem dX0_append_27 : decode cX0_append 27 = .ok (.iconst 1, 1) := by decide +kernel
theorem dX0_append_28 : decode cX0_append 28 = .ok (.iadd, 1) := by decide +kernel
theorem dX0_append_29 : decode cX0_append 29 = .ok (.putfield 15, 3) := by decide +kernel
theorem dX0_append_32 : decode cX0_append 32 = .ok (.aload_n 0, 1) := by decide +kernel
theorem dX0_append_33 : decode cX0_append 33 = .ok (.getfield 15, 3) := by decide +kernel
theorem dX0_append_36 : decode cX0_append 36 = .ok (.ireturn, 1) := by decide +kernel
theorem dX0_removeFirst_0 : decode cX0_removeFirst 0 = .ok (.aload_n 0, 1) := by decide +kernel
theorem dX0_removeFirst_1 : decode cX0_removeFirst 1 = .ok (.getfield 15, 3) := by decide +kernel
theorem dX0_removeFirst_4 : decode cX0_removeFirst 4 = .ok (.ifCond .ne 6, 3) := by decide +kernel
theorem dX0_removeFirst_7 : decode cX0_removeFirst 7 = .ok (.bipush (-4), 2) := by decide +kernel
theorem dX0_removeFirst_9 : decode cX0_removeFirst 9 = .ok (.ireturn, 1) := by decide +kernel
theorem dX0_removeFirst_10 : decode cX0_removeFirst 10 = .ok (.aload_n 0, 1) := by decide +kernel
theorem dX0_removeFirst_11 : decode cX0_removeFirst 11 = .ok (.getfield 9, 3) := by decide +kernel
theorem dX0_removeFirst_14 : decode cX0_removeFirst 14 = .ok (.iconst 0, 1) := by decide +kernel
theorem dX0_removeFirst_15 : decode cX0_removeFirst 15 = .ok (.iaload, 1) := by decide +kernel
theorem dX0_removeFirst_16 : decode cX0_removeFirst 16 = .ok (.istore_n 1, 1) := by decide +kernel
theorem dX0_removeFirst_17 : decode cX0_removeFirst 17 = .ok (.aload_n 0, 1) := by decide +kernel
theorem dX0_removeFirst_18 : decode cX0_removeFirst 18 = .ok (.dup, 1) := by decide +kernel
theorem dX0_removeFirst_19 : decode cX0_removeFirst 19 = .ok (.getfield 15, 3) := by decide +kernel
theorem dX0_removeFirst_22 : decode cX0_removeFirst 22 = .ok (.iconst 1, 1) := by decide +kernel
theorem dX0_removeFirst_23 : decode cX0_removeFirst 23 = .ok (.isub, 1) := by decide +kernel
theorem dX0_removeFirst_24 : decode cX0_removeFirst 24 = .ok (.putfield 15, 3) := by decide +kernel
theorem dX0_removeFirst_27 : decode cX0_removeFirst 27 = .ok (.iconst 0, 1) := by decide +kernel
theorem dX0_removeFirst_28 : decode cX0_removeFirst 28 = .ok (.istore_n 2, 1) := by decide +kernel
theorem dX0_removeFirst_29 : decode cX0_removeFirst 29 = .ok (.iload_n 2, 1) := by decide +kernel
theorem dX0_removeFirst_30 : decode cX0_removeFirst 30 = .ok (.aload_n 0, 1) := by decide +kernel
theorem dX0_removeFirst_31 : decode cX0_removeFirst 31 = .ok (.getfield 15, 3) := by decide +kernel
theorem dX0_removeFirst_34 : decode cX0_removeFirst 34 = .ok (.if_icmp .ge 23, 3) := by decide +kernel
theorem dX0_removeFirst_37 : decode cX0_removeFirst 37 = .ok (.aload_n 0, 1) := by decide +kernel
theorem dX0_removeFirst_38 : decode cX0_removeFirst 38 = .ok (.getfield 9, 3) := by decide +kernel
theorem dX0_removeFirst_41 : decode cX0_removeFirst 41 = .ok (.iload_n 2, 1) := by decide +kernel
theorem dX0_removeFirst_42 : decode cX0_removeFirst 42 = .ok (.aload_n 0, 1) := by decide +kernel
theorem dX0_removeFirst_43 : decode cX0_removeFirst 43 = .ok (.getfield 9, 3) := by decide +kernel
theorem dX0_removeFirst_46 : decode cX0_removeFirst 46 = .ok (.iload_n 2, 1) := by decide +kernel
theorem dX0_removeFirst_47 : decode cX0_removeFirst 47 = .ok (.iconst 1, 1) := by decide +kernel
theorem dX0_removeFirst_48 : decode cX0_removeFirst 48 = .ok (.iadd, 1) := by decide +kernel
theorem dX0_removeFirst_49 : decode cX0_removeFirst 49 = .ok (.iaload, 1) := by decide +kernel
theorem dX0_removeFirst_50 : decode cX0_removeFirst 50 = .ok (.iastore, 1) := by decide +kernel
theorem dX0_removeFirst_51 : decode cX0_removeFirst 51 = .ok (.iinc 2 1, 3) := by decide +kernel
theorem dX0_removeFirst_54 : decode cX0_removeFirst 54 = .ok (.goto (-25), 3) := by decide +kernel
theorem dX0_removeFirst_57 : decode cX0_removeFirst 57 = .ok (.iload_n 1, 1) := by decide +kernel
theorem dX0_removeFirst_58 : decode cX0_removeFirst 58 = .ok (.ireturn, 1) := by decide +kernel
theorem dX0_at_0 : decode cX0_at 0 = .ok (.iload_n 1, 1) := by decide +kernel
theorem dX0_at_1 : decode cX0_at 1 = .ok (.ifCond .lt 20, 3) := by decide +kernel
theorem dX0_at_4 : decode cX0_at 4 = .ok (.iload_n 1, 1) := by decide +kernel
theorem dX0_at_5 : decode cX0_at 5 = .ok (.aload_n 0, 1) := by decide +kernel
theorem dX0_at_6 : decode cX0_at 6 = .ok (.getfield 15, 3) := by decide +kernel
theorem dX0_at_9 : decode cX0_at 9 = .ok (.if_icmp .ge 12, 3) := by decide +kernel
theorem dX0_at_12 : decode cX0_at 12 = .ok (.aload_n 0, 1) := by decide +kernel
theorem dX0_at_13 : decode cX0_at 13 = .ok (.getfield 9, 3) := by decide +kernel
theorem dX0_at_16 : decode cX0_at 16 = .ok (.iload_n 1, 1) := by decide +kernel
theorem dX0_at_17 : decode cX0_at 17 = .ok (.iaload, 1) := by decide +kernel
theorem dX0_at_18 : decode cX0_at 18 = .ok (.goto 5, 3) := by decide +kernel
theorem dX0_at_21 : decode cX0_at 21 = .ok (.bipush (-4), 2) := by decide +kernel
theorem dX0_at_23 : decode cX0_at 23 = .ok (.ireturn, 1) := by decide +kernel
theorem dX0_empty_0 : decode cX0_empty 0 = .ok (.aload_n 0, 1) := by decide +kernel
theorem dX0_empty_1 : decode cX0_empty 1 = .ok (.iconst 0, 1) := by decide +kernel
theorem dX0_empty_2 : decode cX0_empty 2 = .ok (.putfield 15, 3) := by decide +kernel
theorem dX0_empty_5 : decode cX0_empty 5 = .ok (.return_, 1) := by decide +kernel
theorem dX1_init_0 : decode cX1_init 0 = .ok (.aload_n 0, 1) := by decide +kernel
theorem dX1_init_1 : decode cX1_init 1 = .ok (.invokespecial 3, 3) := by decide +kernel
theorem dX1_init_4 : decode cX1_init 4 = .ok (.aload_n 0, 1) := by decide +kernel
theorem dX1_init_5 : decode cX1_init 5 = .ok (.bipush 16, 2) := by decide +kernel
theorem dX1_init_7 : decode cX1_init 7 = .ok (.newarray .int, 2) := by decide +kernel
theorem dX1_init_9 : decode cX1_init 9 = .ok (.putfield 9, 3) := by decide +kernel
theorem dX1_init_12 : decode cX1_init 12 = .ok (.aload_n 0, 1) := by decide +kernel
theorem dX1_init_13 : decode cX1_init 13 = .ok (.bipush 16, 2) := by decide +kernel
theorem dX1_init_15 : decode cX1_init 15 = .ok (.newarray .int, 2) := by decide +kernel
theorem dX1_init_17 : decode cX1_init 17 = .ok (.putfield 15, 3) := by decide +kernel
theorem dX1_init_20 : decode cX1_init 20 = .ok (.aload_n 0, 1) := by decide +kernel
theorem dX1_init_21 : decode cX1_init 21 = .ok (.bipush 16, 2) := by decide +kernel
theorem dX1_init_23 : decode cX1_init 23 = .ok (.newarray .int, 2) := by decide +kernel
theorem dX1_init_25 : decode cX1_init 25 = .ok (.putfield 18, 3) := by decide +kernel
theorem dX1_init_28 : decode cX1_init 28 = .ok (.return_, 1) := by decide +kernel
theorem dX1_empty_0 : decode cX1_empty 0 = .ok (.aload_n 0, 1) := by decide +kernel
theorem dX1_empty_1 : decode cX1_empty 1 = .ok (.iconst 0, 1) := by decide +kernel
theorem dX1_empty_2 : decode cX1_empty 2 = .ok (.putfield 21, 3) := by decide +kernel
theorem dX1_empty_5 : decode cX1_empty 5 = .ok (.aload_n 0, 1) := by decide +kernel
theorem dX1_empty_6 : decode cX1_empty 6 = .ok (.iconst 0, 1) := by decide +kernel
theorem dX1_empty_7 : decode cX1_empty 7 = .ok (.putfield 25, 3) := by decide +kernel
theorem dX1_empty_10 : decode cX1_empty 10 = .ok (.return_, 1) := by decide +kernel
theorem dX1_keep_0 : decode cX1_keep 0 = .ok (.aload_n 0, 1) := by decide +kernel
theorem dX1_keep_1 : decode cX1_keep 1 = .ok (.getfield 9, 3) := by decide +kernel
theorem dX1_keep_4 : decode cX1_keep 4 = .ok (.aload_n 0, 1) := by decide +kernel
theorem dX1_keep_5 : decode cX1_keep 5 = .ok (.getfield 25, 3) := by decide +kernel
theorem dX1_keep_8 : decode cX1_keep 8 = .ok (.iload_n 1, 1) := by decide +kernel
theorem dX1_keep_9 : decode cX1_keep 9 = .ok (.iastore, 1) := by decide +kernel
theorem dX1_keep_10 : decode cX1_keep 10 = .ok (.aload_n 0, 1) := by decide +kernel
theorem dX1_keep_11 : decode cX1_keep 11 = .ok (.getfield 15, 3) := by decide +kernel
theorem dX1_keep_14 : decode cX1_keep 14 = .ok (.aload_n 0, 1) := by decide +kernel
theorem dX1_keep_15 : decode cX1_keep 15 = .ok (.getfield 25, 3) := by decide +kernel
theorem dX1_keep_18 : decode cX1_keep 18 = .ok (.iload_n 2, 1) := by decide +kernel
theorem dX1_keep_19 : decode cX1_keep 19 = .ok (.iastore, 1) := by decide +kernel
theorem dX1_keep_20 : decode cX1_keep 20 = .ok (.aload_n 0, 1) := by decide +kernel
theorem dX1_keep_21 : decode cX1_keep 21 = .ok (.getfield 18, 3) := by decide +kernel
theorem dX1_keep_24 : decode cX1_keep 24 = .ok (.aload_n 0, 1) := by decide +kernel
theorem dX1_keep_25 : decode cX1_keep 25 = .ok (.getfield 25, 3) := by decide +kernel
theorem dX1_keep_28 : decode cX1_keep 28 = .ok (.iload_n 3, 1) := by decide +kernel
theorem dX1_keep_29 : decode cX1_keep 29 = .ok (.iastore, 1) := by decide +kernel
theorem dX1_keep_30 : decode cX1_keep 30 = .ok (.aload_n 0, 1) := by decide +kernel
theorem dX1_keep_31 : decode cX1_keep 31 = .ok (.aload_n 0, 1) := by decide +kernel
theorem dX1_keep_32 : decode cX1_keep 32 = .ok (.getfield 25, 3) := by decide +kernel
theorem dX1_keep_35 : decode cX1_keep 35 = .ok (.iconst 1, 1) := by decide +kernel
theorem dX1_keep_36 : decode cX1_keep 36 = .ok (.iadd, 1) := by decide +kernel
theorem dX1_keep_37 : decode cX1_keep 37 = .ok (.bipush 16, 2) := by decide +kernel
theorem dX1_keep_39 : decode cX1_keep 39 = .ok (.irem, 1) := by decide +kernel
theorem dX1_keep_40 : decode cX1_keep 40 = .ok (.putfield 25, 3) := by decide +kernel
theorem dX1_keep_43 : decode cX1_keep 43 = .ok (.aload_n 0, 1) := by decide +kernel
theorem dX1_keep_44 : decode cX1_keep 44 = .ok (.aload_n 0, 1) := by decide +kernel
theorem dX1_keep_45 : decode cX1_keep 45 = .ok (.getfield 21, 3) := by decide +kernel
theorem dX1_keep_48 : decode cX1_keep 48 = .ok (.iconst 1, 1) := by decide +kernel
theorem dX1_keep_49 : decode cX1_keep 49 = .ok (.iadd, 1) := by decide +kernel
theorem dX1_keep_50 : decode cX1_keep 50 = .ok (.bipush 16, 2) := by decide +kernel
theorem dX1_keep_52 : decode cX1_keep 52 = .ok (.invokestatic 28, 3) := by decide +kernel
theorem dX1_keep_55 : decode cX1_keep 55 = .ok (.putfield 21, 3) := by decide +kernel
theorem dX1_keep_58 : decode cX1_keep 58 = .ok (.return_, 1) := by decide +kernel
theorem dX1_tell_0 : decode cX1_tell 0 = .ok (.iload_n 1, 1) := by decide +kernel
theorem dX1_tell_1 : decode cX1_tell 1 = .ok (.ifCond .lt 11, 3) := by decide +kernel
theorem dX1_tell_4 : decode cX1_tell 4 = .ok (.iload_n 1, 1) := by decide +kernel
theorem dX1_tell_5 : decode cX1_tell 5 = .ok (.aload_n 0, 1) := by decide +kernel
theorem dX1_tell_6 : decode cX1_tell 6 = .ok (.getfield 21, 3) := by decide +kernel
theorem dX1_tell_9 : decode cX1_tell 9 = .ok (.if_icmp .lt 6, 3) := by decide +kernel
theorem dX1_tell_12 : decode cX1_tell 12 = .ok (.bipush (-4), 2) := by decide +kernel
theorem dX1_tell_14 : decode cX1_tell 14 = .ok (.ireturn, 1) := by decide +kernel
theorem dX1_tell_15 : decode cX1_tell 15 = .ok (.aload_n 0, 1) := by decide +kernel
theorem dX1_tell_16 : decode cX1_tell 16 = .ok (.getfield 25, 3) := by decide +kernel
theorem dX1_tell_19 : decode cX1_tell 19 = .ok (.bipush 16, 2) := by decide +kernel
theorem dX1_tell_21 : decode cX1_tell 21 = .ok (.iadd, 1) := by decide +kernel
theorem dX1_tell_22 : decode cX1_tell 22 = .ok (.iconst 1, 1) := by decide +kernel
theorem dX1_tell_23 : decode cX1_tell 23 = .ok (.isub, 1) := by decide +kernel
theorem dX1_tell_24 : decode cX1_tell 24 = .ok (.iload_n 1, 1) := by decide +kernel
theorem dX1_tell_25 : decode cX1_tell 25 = .ok (.isub, 1) := by decide +kernel
theorem dX1_tell_26 : decode cX1_tell 26 = .ok (.bipush 16, 2) := by decide +kernel
theorem dX1_tell_28 : decode cX1_tell 28 = .ok (.irem, 1) := by decide +kernel
theorem dX1_tell_29 : decode cX1_tell 29 = .ok (.istore_n 3, 1) := by decide +kernel
theorem dX1_tell_30 : decode cX1_tell 30 = .ok (.iload_n 2, 1) := by decide +kernel
theorem dX1_tell_31 : decode cX1_tell 31 = .ok (.ifCond .ne 10, 3) := by decide +kernel
theorem dX1_tell_34 : decode cX1_tell 34 = .ok (.aload_n 0, 1) := by decide +kernel
theorem dX1_tell_35 : decode cX1_tell 35 = .ok (.getfield 9, 3) := by decide +kernel
theorem dX1_tell_38 : decode cX1_tell 38 = .ok (.iload_n 3, 1) := by decide +kernel
theorem dX1_tell_39 : decode cX1_tell 39 = .ok (.iaload, 1) := by decide +kernel
theorem dX1_tell_40 : decode cX1_tell 40 = .ok (.ireturn, 1) := by decide +kernel
theorem dX1_tell_41 : decode cX1_tell 41 = .ok (.iload_n 2, 1) := by decide +kernel
theorem dX1_tell_42 : decode cX1_tell 42 = .ok (.iconst 1, 1) := by decide +kernel
theorem dX1_tell_43 : decode cX1_tell 43 = .ok (.if_icmp .ne 12, 3) := by decide +kernel
theorem dX1_tell_46 : decode cX1_tell 46 = .ok (.aload_n 0, 1) := by decide +kernel
theorem dX1_tell_47 : decode cX1_tell 47 = .ok (.getfield 15, 3) := by decide +kernel
theorem dX1_tell_50 : decode cX1_tell 50 = .ok (.iload_n 3, 1) := by decide +kernel
theorem dX1_tell_51 : decode cX1_tell 51 = .ok (.iaload, 1) := by decide +kernel
theorem dX1_tell_52 : decode cX1_tell 52 = .ok (.goto 9, 3) := by decide +kernel
theorem dX1_tell_55 : decode cX1_tell 55 = .ok (.aload_n 0, 1) := by decide +kernel
theorem dX1_tell_56 : decode cX1_tell 56 = .ok (.getfield 18, 3) := by decide +kernel
theorem dX1_tell_59 : decode cX1_tell 59 = .ok (.iload_n 3, 1) := by decide +kernel
theorem dX1_tell_60 : decode cX1_tell 60 = .ok (.iaload, 1) := by decide +kernel
theorem dX1_tell_61 : decode cX1_tell 61 = .ok (.ireturn, 1) := by decide +kernel
theorem dX2_init_0 : decode cX2_init 0 = .ok (.aload_n 0, 1) := by decide +kernel
theorem dX2_init_1 : decode cX2_init 1 = .ok (.invokespecial 3, 3) := by decide +kernel
theorem dX2_init_4 : decode cX2_init 4 = .ok (.aload_n 0, 1) := by decide +kernel
theorem dX2_init_5 : decode cX2_init 5 = .ok (.new 9, 3) := by decide +kernel
theorem dX2_init_8 : decode cX2_init 8 = .ok (.dup, 1) := by decide +kernel
theorem dX2_init_9 : decode cX2_init 9 = .ok (.invokespecial 11, 3) := by decide +kernel
theorem dX2_init_12 : decode cX2_init 12 = .ok (.putfield 12, 3) := by decide +kernel
theorem dX2_init_15 : decode cX2_init 15 = .ok (.aload_n 0, 1) := by decide +kernel
theorem dX2_init_16 : decode cX2_init 16 = .ok (.new 9, 3) := by decide +kernel
theorem dX2_init_19 : decode cX2_init 19 = .ok (.dup, 1) := by decide +kernel
theorem dX2_init_20 : decode cX2_init 20 = .ok (.invokespecial 11, 3) := by decide +kernel
theorem dX2_init_23 : decode cX2_init 23 = .ok (.putfield 18, 3) := by decide +kernel
theorem dX2_init_26 : decode cX2_init 26 = .ok (.return_, 1) := by decide +kernel
theorem dX2_begin_0 : decode cX2_begin 0 = .ok (.aload_n 0, 1) := by decide +kernel
theorem dX2_begin_1 : decode cX2_begin 1 = .ok (.aload_n 1, 1) := by decide +kernel
theorem dX2_begin_2 : decode cX2_begin 2 = .ok (.iload_n 2, 1) := by decide +kernel
theorem dX2_begin_3 : decode cX2_begin 3 = .ok (.iconst 0, 1) := by decide +kernel
theorem dX2_begin_4 : decode cX2_begin 4 = .ok (.iadd, 1) := by decide +kernel
theorem dX2_begin_5 : decode cX2_begin 5 = .ok (.iaload, 1) := by decide +kernel
theorem dX2_begin_6 : decode cX2_begin 6 = .ok (.putfield 21, 3) := by decide +kernel
theorem dX2_begin_9 : decode cX2_begin 9 = .ok (.aload_n 0, 1) := by decide +kernel
theorem dX2_begin_10 : decode cX2_begin 10 = .ok (.aload_n 1, 1) := by decide +kernel
theorem dX2_begin_11 : decode cX2_begin 11 = .ok (.iload_n 2, 1) := by decide +kernel
theorem dX2_begin_12 : decode cX2_begin 12 = .ok (.iconst 1, 1) := by decide +kernel
theorem dX2_begin_13 : decode cX2_begin 13 = .ok (.iadd, 1) := by decide +kernel
theorem dX2_begin_14 : decode cX2_begin 14 = .ok (.iaload, 1) := by decide +kernel
theorem dX2_begin_15 : decode cX2_begin 15 = .ok (.putfield 25, 3) := by decide +kernel
theorem dX2_begin_18 : decode cX2_begin 18 = .ok (.aload_n 0, 1) := by decide +kernel
theorem dX2_begin_19 : decode cX2_begin 19 = .ok (.aload_n 1, 1) := by decide +kernel
theorem dX2_begin_20 : decode cX2_begin 20 = .ok (.iload_n 2, 1) := by decide +kernel
theorem dX2_begin_21 : decode cX2_begin 21 = .ok (.iconst 2, 1) := by decide +kernel
theorem dX2_begin_22 : decode cX2_begin 22 = .ok (.iadd, 1) := by decide +kernel
theorem dX2_begin_23 : decode cX2_begin 23 = .ok (.iaload, 1) := by decide +kernel
theorem dX2_begin_24 : decode cX2_begin 24 = .ok (.putfield 28, 3) := by decide +kernel
theorem dX2_begin_27 : decode cX2_begin 27 = .ok (.aload_n 0, 1) := by decide +kernel
theorem dX2_begin_28 : decode cX2_begin 28 = .ok (.aload_n 1, 1) := by decide +kernel
theorem dX2_begin_29 : decode cX2_begin 29 = .ok (.iload_n 2, 1) := by decide +kernel
theorem dX2_begin_30 : decode cX2_begin 30 = .ok (.iconst 3, 1) := by decide +kernel
theorem dX2_begin_31 : decode cX2_begin 31 = .ok (.iadd, 1) := by decide +kernel
theorem dX2_begin_32 : decode cX2_begin 32 = .ok (.iaload, 1) := by decide +kernel
theorem dX2_begin_33 : decode cX2_begin 33 = .ok (.putfield 31, 3) := by decide +kernel
theorem dX2_begin_36 : decode cX2_begin 36 = .ok (.aload_n 0, 1) := by decide +kernel
theorem dX2_begin_37 : decode cX2_begin 37 = .ok (.aload_n 1, 1) := by decide +kernel
theorem dX2_begin_38 : decode cX2_begin 38 = .ok (.iload_n 2, 1) := by decide +kernel
theorem dX2_begin_39 : decode cX2_begin 39 = .ok (.iconst 4, 1) := by decide +kernel
theorem dX2_begin_40 : decode cX2_begin 40 = .ok (.iadd, 1) := by decide +kernel
theorem dX2_begin_41 : decode cX2_begin 41 = .ok (.iaload, 1) := by decide +kernel
theorem dX2_begin_42 : decode cX2_begin 42 = .ok (.putfield 34, 3) := by decide +kernel
theorem dX2_begin_45 : decode cX2_begin 45 = .ok (.aload_n 0, 1) := by decide +kernel
theorem dX2_begin_46 : decode cX2_begin 46 = .ok (.invokevirtual 37, 3) := by decide +kernel
theorem dX2_begin_49 : decode cX2_begin 49 = .ok (.aload_n 0, 1) := by decide +kernel
theorem dX2_begin_50 : decode cX2_begin 50 = .ok (.iconst 0, 1) := by decide +kernel
theorem dX2_begin_51 : decode cX2_begin 51 = .ok (.putfield 40, 3) := by decide +kernel
theorem dX2_begin_54 : decode cX2_begin 54 = .ok (.aload_n 0, 1) := by decide +kernel
theorem dX2_begin_55 : decode cX2_begin 55 = .ok (.iconst 0, 1) := by decide +kernel
theorem dX2_begin_56 : decode cX2_begin 56 = .ok (.putfield 44, 3) := by decide +kernel
theorem dX2_begin_59 : decode cX2_begin 59 = .ok (.aload_n 0, 1) := by decide +kernel
theorem dX2_begin_60 : decode cX2_begin 60 = .ok (.iconst 0, 1) := by decide +kernel
theorem dX2_begin_61 : decode cX2_begin 61 = .ok (.putfield 47, 3) := by decide +kernel
theorem dX2_begin_64 : decode cX2_begin 64 = .ok (.aload_n 0, 1) := by decide +kernel
theorem dX2_begin_65 : decode cX2_begin 65 = .ok (.iconst 0, 1) := by decide +kernel
theorem dX2_begin_66 : decode cX2_begin 66 = .ok (.putfield 50, 3) := by decide +kernel
theorem dX2_begin_69 : decode cX2_begin 69 = .ok (.aload_n 0, 1) := by decide +kernel
theorem dX2_begin_70 : decode cX2_begin 70 = .ok (.iconst 0, 1) := by decide +kernel
theorem dX2_begin_71 : decode cX2_begin 71 = .ok (.putfield 53, 3) := by decide +kernel
theorem dX2_begin_74 : decode cX2_begin 74 = .ok (.aload_n 0, 1) := by decide +kernel
theorem dX2_begin_75 : decode cX2_begin 75 = .ok (.bipush (-4), 2) := by decide +kernel
theorem dX2_begin_77 : decode cX2_begin 77 = .ok (.putfield 56, 3) := by decide +kernel
theorem dX2_begin_80 : decode cX2_begin 80 = .ok (.aload_n 0, 1) := by decide +kernel
theorem dX2_begin_81 : decode cX2_begin 81 = .ok (.iconst 0, 1) := by decide +kernel
theorem dX2_begin_82 : decode cX2_begin 82 = .ok (.putfield 59, 3) := by decide +kernel
theorem dX2_begin_85 : decode cX2_begin 85 = .ok (.aload_n 0, 1) := by decide +kernel
theorem dX2_begin_86 : decode cX2_begin 86 = .ok (.iconst 0, 1) := by decide +kernel
theorem dX2_begin_87 : decode cX2_begin 87 = .ok (.putfield 62, 3) := by decide +kernel
theorem dX2_begin_90 : decode cX2_begin 90 = .ok (.return_, 1) := by decide +kernel
theorem dX2_clear_0 : decode cX2_clear 0 = .ok (.aload_n 0, 1) := by decide +kernel
theorem dX2_clear_1 : decode cX2_clear 1 = .ok (.getfield 12, 3) := by decide +kernel
theorem dX2_clear_4 : decode cX2_clear 4 = .ok (.invokevirtual 65, 3) := by decide +kernel
theorem dX2_clear_7 : decode cX2_clear 7 = .ok (.aload_n 0, 1) := by decide +kernel
theorem dX2_clear_8 : decode cX2_clear 8 = .ok (.getfield 18, 3) := by decide +kernel
theorem dX2_clear_11 : decode cX2_clear 11 = .ok (.invokevirtual 65, 3) := by decide +kernel
theorem dX2_clear_14 : decode cX2_clear 14 = .ok (.aload_n 0, 1) := by decide +kernel
theorem dX2_clear_15 : decode cX2_clear 15 = .ok (.iconst 0, 1) := by decide +kernel
theorem dX2_clear_16 : decode cX2_clear 16 = .ok (.putfield 68, 3) := by decide +kernel
theorem dX2_clear_19 : decode cX2_clear 19 = .ok (.aload_n 0, 1) := by decide +kernel
theorem dX2_clear_20 : decode cX2_clear 20 = .ok (.iconst 0, 1) := by decide +kernel
theorem dX2_clear_21 : decode cX2_clear 21 = .ok (.putfield 71, 3) := by decide +kernel
theorem dX2_clear_24 : decode cX2_clear 24 = .ok (.aload_n 0, 1) := by decide +kernel
theorem dX2_clear_25 : decode cX2_clear 25 = .ok (.bipush (-4), 2) := by decide +kernel
theorem dX2_clear_27 : decode cX2_clear 27 = .ok (.putfield 74, 3) := by decide +kernel
theorem dX2_clear_30 : decode cX2_clear 30 = .ok (.return_, 1) := by decide +kernel
theorem dX2_beginListening_0 : decode cX2_beginListening 0 = .ok (.aload_n 0, 1) := by decide +kernel
theorem dX2_beginListening_1 : decode cX2_beginListening 1 = .ok (.iconst 1, 1) := by decide +kernel
theorem dX2_beginListening_2 : decode cX2_beginListening 2 = .ok (.putfield 40, 3) := by decide +kernel
theorem dX2_beginListening_5 : decode cX2_beginListening 5 = .ok (.aload_n 0, 1) := by decide +kernel
theorem dX2_beginListening_6 : decode cX2_beginListening 6 = .ok (.iconst 1, 1) := by decide +kernel
theorem dX2_beginListening_7 : decode cX2_beginListening 7 = .ok (.putfield 44, 3) := by decide +kernel
theorem dX2_beginListening_10 : decode cX2_beginListening 10 = .ok (.return_, 1) := by decide +kernel
theorem dX2_beTriggered_0 : decode cX2_beTriggered 0 = .ok (.aload_n 0, 1) := by decide +kernel
theorem dX2_beTriggered_1 : decode cX2_beTriggered 1 = .ok (.aload_n 0, 1) := by decide +kernel
theorem dX2_beTriggered_2 : decode cX2_beTriggered 2 = .ok (.getfield 62, 3) := by decide +kernel
theorem dX2_beTriggered_5 : decode cX2_beTriggered 5 = .ok (.iconst 1, 1) := by decide +kernel
theorem dX2_beTriggered_6 : decode cX2_beTriggered 6 = .ok (.iadd, 1) := by decide +kernel
theorem dX2_beTriggered_7 : decode cX2_beTriggered 7 = .ok (.sipush 999, 3) := by decide +kernel
theorem dX2_beTriggered_10 : decode cX2_beTriggered 10 = .ok (.invokestatic 77, 3) := by decide +kernel
theorem dX2_beTriggered_13 : decode cX2_beTriggered 13 = .ok (.putfield 62, 3) := by decide +kernel
theorem dX2_beTriggered_16 : decode cX2_beTriggered 16 = .ok (.aload_n 0, 1) := by decide +kernel
theorem dX2_beTriggered_17 : decode cX2_beTriggered 17 = .ok (.getfield 21, 3) := by decide +kernel
theorem dX2_beTriggered_20 : decode cX2_beTriggered 20 = .ok (.iconst 1, 1) := by decide +kernel
theorem dX2_beTriggered_21 : decode cX2_beTriggered 21 = .ok (.if_icmp .ne 13, 3) := by decide +kernel
theorem dX2_beTriggered_24 : decode cX2_beTriggered 24 = .ok (.aload_n 0, 1) := by decide +kernel
theorem dX2_beTriggered_25 : decode cX2_beTriggered 25 = .ok (.iload_n 1, 1) := by decide +kernel
theorem dX2_beTriggered_26 : decode cX2_beTriggered 26 = .ok (.aload_n 0, 1) := by decide +kernel
theorem dX2_beTriggered_27 : decode cX2_beTriggered 27 = .ok (.getfield 34, 3) := by decide +kernel
theorem dX2_beTriggered_30 : decode cX2_beTriggered 30 = .ok (.iadd, 1) := by decide +kernel
theorem dX2_beTriggered_31 : decode cX2_beTriggered 31 = .ok (.putfield 74, 3) := by decide +kernel
theorem dX2_beTriggered_34 : decode cX2_beTriggered 34 = .ok (.return_, 1) := by decide +kernel
theorem dX2_isDueBy_0 : decode cX2_isDueBy 0 = .ok (.aload_n 0, 1) := by decide +kernel
theorem dX2_isDueBy_1 : decode cX2_isDueBy 1 = .ok (.getfield 74, 3) := by decide +kernel
theorem dX2_isDueBy_4 : decode cX2_isDueBy 4 = .ok (.bipush (-4), 2) := by decide +kernel
theorem dX2_isDueBy_6 : decode cX2_isDueBy 6 = .ok (.if_icmp .eq 15, 3) := by decide +kernel
theorem dX2_isDueBy_9 : decode cX2_isDueBy 9 = .ok (.aload_n 0, 1) := by decide +kernel
theorem dX2_isDueBy_10 : decode cX2_isDueBy 10 = .ok (.getfield 74, 3) := by decide +kernel
theorem dX2_isDueBy_13 : decode cX2_isDueBy 13 = .ok (.iload_n 1, 1) := by decide +kernel
theorem dX2_isDueBy_14 : decode cX2_isDueBy 14 = .ok (.if_icmp .gt 7, 3) := by decide +kernel
theorem dX2_isDueBy_17 : decode cX2_isDueBy 17 = .ok (.iconst 1, 1) := by decide +kernel
theorem dX2_isDueBy_18 : decode cX2_isDueBy 18 = .ok (.goto 4, 3) := by decide +kernel
theorem dX2_isDueBy_21 : decode cX2_isDueBy 21 = .ok (.iconst 0, 1) := by decide +kernel
theorem dX2_isDueBy_22 : decode cX2_isDueBy 22 = .ok (.ireturn, 1) := by decide +kernel
theorem dX2_comeReading_0 : decode cX2_comeReading 0 = .ok (.bipush 7, 2) := by decide +kernel
theorem dX2_comeReading_2 : decode cX2_comeReading 2 = .ok (.aload_n 0, 1) := by decide +kernel
theorem dX2_comeReading_3 : decode cX2_comeReading 3 = .ok (.getfield 62, 3) := by decide +kernel
theorem dX2_comeReading_6 : decode cX2_comeReading 6 = .ok (.imul, 1) := by decide +kernel
theorem dX2_comeReading_7 : decode cX2_comeReading 7 = .ok (.iconst 3, 1) := by decide +kernel
theorem dX2_comeReading_8 : decode cX2_comeReading 8 = .ok (.aload_n 0, 1) := by decide +kernel
theorem dX2_comeReading_9 : decode cX2_comeReading 9 = .ok (.getfield 25, 3) := by decide +kernel
theorem dX2_comeReading_12 : decode cX2_comeReading 12 = .ok (.imul, 1) := by decide +kernel
theorem dX2_comeReading_13 : decode cX2_comeReading 13 = .ok (.iadd, 1) := by decide +kernel
theorem dX2_comeReading_14 : decode cX2_comeReading 14 = .ok (.bipush 100, 2) := by decide +kernel
theorem dX2_comeReading_16 : decode cX2_comeReading 16 = .ok (.irem, 1) := by decide +kernel
theorem dX2_comeReading_17 : decode cX2_comeReading 17 = .ok (.istore_n 1, 1) := by decide +kernel
theorem dX2_comeReading_18 : decode cX2_comeReading 18 = .ok (.aload_n 0, 1) := by decide +kernel
theorem dX2_comeReading_19 : decode cX2_comeReading 19 = .ok (.getfield 12, 3) := by decide +kernel
theorem dX2_comeReading_22 : decode cX2_comeReading 22 = .ok (.invokevirtual 65, 3) := by decide +kernel
theorem dX2_comeReading_25 : decode cX2_comeReading 25 = .ok (.aload_n 0, 1) := by decide +kernel
theorem dX2_comeReading_26 : decode cX2_comeReading 26 = .ok (.getfield 12, 3) := by decide +kernel
theorem dX2_comeReading_29 : decode cX2_comeReading 29 = .ok (.bipush 48, 2) := by decide +kernel
theorem dX2_comeReading_31 : decode cX2_comeReading 31 = .ok (.iload_n 1, 1) := by decide +kernel
theorem dX2_comeReading_32 : decode cX2_comeReading 32 = .ok (.bipush 10, 2) := by decide +kernel
theorem dX2_comeReading_34 : decode cX2_comeReading 34 = .ok (.idiv, 1) := by decide +kernel
theorem dX2_comeReading_35 : decode cX2_comeReading 35 = .ok (.iadd, 1) := by decide +kernel
theorem dX2_comeReading_36 : decode cX2_comeReading 36 = .ok (.invokevirtual 83, 3) := by decide +kernel
theorem dX2_comeReading_39 : decode cX2_comeReading 39 = .ok (.pop, 1) := by decide +kernel
theorem dX2_comeReading_40 : decode cX2_comeReading 40 = .ok (.aload_n 0, 1) := by decide +kernel
theorem dX2_comeReading_41 : decode cX2_comeReading 41 = .ok (.getfield 12, 3) := by decide +kernel
theorem dX2_comeReading_44 : decode cX2_comeReading 44 = .ok (.bipush 48, 2) := by decide +kernel
theorem dX2_comeReading_46 : decode cX2_comeReading 46 = .ok (.iload_n 1, 1) := by decide +kernel
theorem dX2_comeReading_47 : decode cX2_comeReading 47 = .ok (.bipush 10, 2) := by decide +kernel
theorem dX2_comeReading_49 : decode cX2_comeReading 49 = .ok (.irem, 1) := by decide +kernel
theorem dX2_comeReading_50 : decode cX2_comeReading 50 = .ok (.iadd, 1) := by decide +kernel
theorem dX2_comeReading_51 : decode cX2_comeReading 51 = .ok (.invokevirtual 83, 3) := by decide +kernel
theorem dX2_comeReading_54 : decode cX2_comeReading 54 = .ok (.pop, 1) := by decide +kernel
theorem dX2_comeReading_55 : decode cX2_comeReading 55 = .ok (.aload_n 0, 1) := by decide +kernel
theorem dX2_comeReading_56 : decode cX2_comeReading 56 = .ok (.bipush 16, 2) := by decide +kernel
theorem dX2_comeReading_58 : decode cX2_comeReading 58 = .ok (.putfield 68, 3) := by decide +kernel
theorem dX2_comeReading_61 : decode cX2_comeReading 61 = .ok (.aload_n 0, 1) := by decide +kernel
theorem dX2_comeReading_62 : decode cX2_comeReading 62 = .ok (.iconst 1, 1) := by decide +kernel
theorem dX2_comeReading_63 : decode cX2_comeReading 63 = .ok (.putfield 71, 3) := by decide +kernel
theorem dX2_comeReading_66 : decode cX2_comeReading 66 = .ok (.aload_n 0, 1) := by decide +kernel
theorem dX2_comeReading_67 : decode cX2_comeReading 67 = .ok (.bipush (-4), 2) := by decide +kernel
theorem dX2_comeReading_69 : decode cX2_comeReading 69 = .ok (.putfield 74, 3) := by decide +kernel
theorem dX2_comeReading_72 : decode cX2_comeReading 72 = .ok (.return_, 1) := by decide +kernel
theorem dX2_pollByte_0 : decode cX2_pollByte 0 = .ok (.aload_n 0, 1) := by decide +kernel
theorem dX2_pollByte_1 : decode cX2_pollByte 1 = .ok (.getfield 71, 3) := by decide +kernel
theorem dX2_pollByte_4 : decode cX2_pollByte 4 = .ok (.ifCond .eq 13, 3) := by decide +kernel
theorem dX2_pollByte_7 : decode cX2_pollByte 7 = .ok (.aload_n 0, 1) := by decide +kernel
theorem dX2_pollByte_8 : decode cX2_pollByte 8 = .ok (.getfield 68, 3) := by decide +kernel
theorem dX2_pollByte_11 : decode cX2_pollByte 11 = .ok (.bipush 64, 2) := by decide +kernel
theorem dX2_pollByte_13 : decode cX2_pollByte 13 = .ok (.iadd, 1) := by decide +kernel
theorem dX2_pollByte_14 : decode cX2_pollByte 14 = .ok (.goto 7, 3) := by decide +kernel
theorem dX2_pollByte_17 : decode cX2_pollByte 17 = .ok (.aload_n 0, 1) := by decide +kernel
theorem dX2_pollByte_18 : decode cX2_pollByte 18 = .ok (.getfield 68, 3) := by decide +kernel
theorem dX2_pollByte_21 : decode cX2_pollByte 21 = .ok (.ireturn, 1) := by decide +kernel
theorem dX2_lineBit_0 : decode cX2_lineBit 0 = .ok (.aload_n 0, 1) := by decide +kernel
theorem dX2_lineBit_1 : decode cX2_lineBit 1 = .ok (.getfield 56, 3) := by decide +kernel
theorem dX2_lineBit_4 : decode cX2_lineBit 4 = .ok (.bipush (-4), 2) := by decide +kernel
theorem dX2_lineBit_6 : decode cX2_lineBit 6 = .ok (.if_icmp .eq 26, 3) := by decide +kernel
theorem dX2_lineBit_9 : decode cX2_lineBit 9 = .ok (.aload_n 0, 1) := by decide +kernel
theorem dX2_lineBit_10 : decode cX2_lineBit 10 = .ok (.getfield 59, 3) := by decide +kernel
theorem dX2_lineBit_13 : decode cX2_lineBit 13 = .ok (.aload_n 0, 1) := by decide +kernel
theorem dX2_lineBit_14 : decode cX2_lineBit 14 = .ok (.getfield 71, 3) := by decide +kernel
theorem dX2_lineBit_17 : decode cX2_lineBit 17 = .ok (.invokestatic 87, 3) := by decide +kernel
theorem dX2_lineBit_20 : decode cX2_lineBit 20 = .ok (.if_icmp .ne 12, 3) := by decide +kernel
theorem dX2_lineBit_23 : decode cX2_lineBit 23 = .ok (.iconst 1, 1) := by decide +kernel
theorem dX2_lineBit_24 : decode cX2_lineBit 24 = .ok (.aload_n 0, 1) := by decide +kernel
theorem dX2_lineBit_25 : decode cX2_lineBit 25 = .ok (.getfield 56, 3) := by decide +kernel
theorem dX2_lineBit_28 : decode cX2_lineBit 28 = .ok (.ishl, 1) := by decide +kernel
theorem dX2_lineBit_29 : decode cX2_lineBit 29 = .ok (.goto 4, 3) := by decide +kernel
theorem dX2_lineBit_32 : decode cX2_lineBit 32 = .ok (.iconst 0, 1) := by decide +kernel
theorem dX2_lineBit_33 : decode cX2_lineBit 33 = .ok (.ireturn, 1) := by decide +kernel
theorem dX2_tellSetting_0 : decode cX2_tellSetting 0 = .ok (.iload_n 1, 1) := by decide +kernel
theorem dX2_tellSetting_1 : decode cX2_tellSetting 1 = .ok (.tableswitch 100 0 8 #[51, 56, 61, 66, 71, 100, 76, 84, 92], 51) := by decide +kernel
theorem dX2_tellSetting_52 : decode cX2_tellSetting 52 = .ok (.aload_n 0, 1) := by decide +kernel
theorem dX2_tellSetting_53 : decode cX2_tellSetting 53 = .ok (.getfield 21, 3) := by decide +kernel
theorem dX2_tellSetting_56 : decode cX2_tellSetting 56 = .ok (.ireturn, 1) := by decide +kernel
theorem dX2_tellSetting_57 : decode cX2_tellSetting 57 = .ok (.aload_n 0, 1) := by decide +kernel
theorem dX2_tellSetting_58 : decode cX2_tellSetting 58 = .ok (.getfield 25, 3) := by decide +kernel
theorem dX2_tellSetting_61 : decode cX2_tellSetting 61 = .ok (.ireturn, 1) := by decide +kernel
theorem dX2_tellSetting_62 : decode cX2_tellSetting 62 = .ok (.aload_n 0, 1) := by decide +kernel
theorem dX2_tellSetting_63 : decode cX2_tellSetting 63 = .ok (.getfield 28, 3) := by decide +kernel
theorem dX2_tellSetting_66 : decode cX2_tellSetting 66 = .ok (.ireturn, 1) := by decide +kernel
theorem dX2_tellSetting_67 : decode cX2_tellSetting 67 = .ok (.aload_n 0, 1) := by decide +kernel
theorem dX2_tellSetting_68 : decode cX2_tellSetting 68 = .ok (.getfield 31, 3) := by decide +kernel
theorem dX2_tellSetting_71 : decode cX2_tellSetting 71 = .ok (.ireturn, 1) := by decide +kernel
theorem dX2_tellSetting_72 : decode cX2_tellSetting 72 = .ok (.aload_n 0, 1) := by decide +kernel
theorem dX2_tellSetting_73 : decode cX2_tellSetting 73 = .ok (.getfield 34, 3) := by decide +kernel
theorem dX2_tellSetting_76 : decode cX2_tellSetting 76 = .ok (.ireturn, 1) := by decide +kernel
theorem dX2_tellSetting_77 : decode cX2_tellSetting 77 = .ok (.aload_n 0, 1) := by decide +kernel
theorem dX2_tellSetting_78 : decode cX2_tellSetting 78 = .ok (.getfield 40, 3) := by decide +kernel
theorem dX2_tellSetting_81 : decode cX2_tellSetting 81 = .ok (.invokestatic 87, 3) := by decide +kernel
theorem dX2_tellSetting_84 : decode cX2_tellSetting 84 = .ok (.ireturn, 1) := by decide +kernel
theorem dX2_tellSetting_85 : decode cX2_tellSetting 85 = .ok (.aload_n 0, 1) := by decide +kernel
theorem dX2_tellSetting_86 : decode cX2_tellSetting 86 = .ok (.getfield 44, 3) := by decide +kernel
theorem dX2_tellSetting_89 : decode cX2_tellSetting 89 = .ok (.invokestatic 87, 3) := by decide +kernel
theorem dX2_tellSetting_92 : decode cX2_tellSetting 92 = .ok (.ireturn, 1) := by decide +kernel
theorem dX2_tellSetting_93 : decode cX2_tellSetting 93 = .ok (.aload_n 0, 1) := by decide +kernel
theorem dX2_tellSetting_94 : decode cX2_tellSetting 94 = .ok (.getfield 47, 3) := by decide +kernel
theorem dX2_tellSetting_97 : decode cX2_tellSetting 97 = .ok (.invokestatic 87, 3) := by decide +kernel
theorem dX2_tellSetting_100 : decode cX2_tellSetting 100 = .ok (.ireturn, 1) := by decide +kernel
theorem dX2_tellSetting_101 : decode cX2_tellSetting 101 = .ok (.iconst (-1), 1) := by decide +kernel
theorem dX2_tellSetting_102 : decode cX2_tellSetting 102 = .ok (.ireturn, 1) := by decide +kernel
theorem dX2_tellState_0 : decode cX2_tellState 0 = .ok (.iload_n 1, 1) := by decide +kernel
theorem dX2_tellState_1 : decode cX2_tellState 1 = .ok (.tableswitch 135 9 17 #[51, 56, 64, 69, 88, 93, 114, 122, 130], 51) := by decide +kernel
theorem dX2_tellState_52 : decode cX2_tellState 52 = .ok (.aload_n 0, 1) := by decide +kernel
theorem dX2_tellState_53 : decode cX2_tellState 53 = .ok (.getfield 68, 3) := by decide +kernel
theorem dX2_tellState_56 : decode cX2_tellState 56 = .ok (.ireturn, 1) := by decide +kernel
theorem dX2_tellState_57 : decode cX2_tellState 57 = .ok (.aload_n 0, 1) := by decide +kernel
theorem dX2_tellState_58 : decode cX2_tellState 58 = .ok (.getfield 71, 3) := by decide +kernel
theorem dX2_tellState_61 : decode cX2_tellState 61 = .ok (.invokestatic 87, 3) := by decide +kernel
theorem dX2_tellState_64 : decode cX2_tellState 64 = .ok (.ireturn, 1) := by decide +kernel
theorem dX2_tellState_65 : decode cX2_tellState 65 = .ok (.aload_n 0, 1) := by decide +kernel
theorem dX2_tellState_66 : decode cX2_tellState 66 = .ok (.getfield 56, 3) := by decide +kernel
theorem dX2_tellState_69 : decode cX2_tellState 69 = .ok (.ireturn, 1) := by decide +kernel
theorem dX2_tellState_70 : decode cX2_tellState 70 = .ok (.aload_n 0, 1) := by decide +kernel
theorem dX2_tellState_71 : decode cX2_tellState 71 = .ok (.getfield 56, 3) := by decide +kernel
theorem dX2_tellState_74 : decode cX2_tellState 74 = .ok (.bipush (-4), 2) := by decide +kernel
theorem dX2_tellState_76 : decode cX2_tellState 76 = .ok (.if_icmp .ne 8, 3) := by decide +kernel
theorem dX2_tellState_79 : decode cX2_tellState 79 = .ok (.bipush (-4), 2) := by decide +kernel
theorem dX2_tellState_81 : decode cX2_tellState 81 = .ok (.goto 7, 3) := by decide +kernel
theorem dX2_tellState_84 : decode cX2_tellState 84 = .ok (.aload_n 0, 1) := by decide +kernel
theorem dX2_tellState_85 : decode cX2_tellState 85 = .ok (.getfield 59, 3) := by decide +kernel
theorem dX2_tellState_88 : decode cX2_tellState 88 = .ok (.ireturn, 1) := by decide +kernel
theorem dX2_tellState_89 : decode cX2_tellState 89 = .ok (.aload_n 0, 1) := by decide +kernel
theorem dX2_tellState_90 : decode cX2_tellState 90 = .ok (.getfield 62, 3) := by decide +kernel
theorem dX2_tellState_93 : decode cX2_tellState 93 = .ok (.ireturn, 1) := by decide +kernel
theorem dX2_tellState_94 : decode cX2_tellState 94 = .ok (.aload_n 0, 1) := by decide +kernel
theorem dX2_tellState_95 : decode cX2_tellState 95 = .ok (.getfield 74, 3) := by decide +kernel
theorem dX2_tellState_98 : decode cX2_tellState 98 = .ok (.bipush (-4), 2) := by decide +kernel
theorem dX2_tellState_100 : decode cX2_tellState 100 = .ok (.if_icmp .ne 8, 3) := by decide +kernel
theorem dX2_tellState_103 : decode cX2_tellState 103 = .ok (.bipush (-4), 2) := by decide +kernel
theorem dX2_tellState_105 : decode cX2_tellState 105 = .ok (.goto 9, 3) := by decide +kernel
theorem dX2_tellState_108 : decode cX2_tellState 108 = .ok (.aload_n 0, 1) := by decide +kernel
theorem dX2_tellState_109 : decode cX2_tellState 109 = .ok (.getfield 74, 3) := by decide +kernel
theorem dX2_tellState_112 : decode cX2_tellState 112 = .ok (.iload_n 2, 1) := by decide +kernel
theorem dX2_tellState_113 : decode cX2_tellState 113 = .ok (.isub, 1) := by decide +kernel
theorem dX2_tellState_114 : decode cX2_tellState 114 = .ok (.ireturn, 1) := by decide +kernel
theorem dX2_tellState_115 : decode cX2_tellState 115 = .ok (.aload_n 0, 1) := by decide +kernel
theorem dX2_tellState_116 : decode cX2_tellState 116 = .ok (.getfield 12, 3) := by decide +kernel
theorem dX2_tellState_119 : decode cX2_tellState 119 = .ok (.getfield 91, 3) := by decide +kernel
theorem dX2_tellState_122 : decode cX2_tellState 122 = .ok (.ireturn, 1) := by decide +kernel
theorem dX2_tellState_123 : decode cX2_tellState 123 = .ok (.aload_n 0, 1) := by decide +kernel
theorem dX2_tellState_124 : decode cX2_tellState 124 = .ok (.getfield 18, 3) := by decide +kernel
theorem dX2_tellState_127 : decode cX2_tellState 127 = .ok (.getfield 91, 3) := by decide +kernel
theorem dX2_tellState_130 : decode cX2_tellState 130 = .ok (.ireturn, 1) := by decide +kernel
theorem dX2_tellState_131 : decode cX2_tellState 131 = .ok (.aload_n 0, 1) := by decide +kernel
theorem dX2_tellState_132 : decode cX2_tellState 132 = .ok (.getfield 53, 3) := by decide +kernel
theorem dX2_tellState_135 : decode cX2_tellState 135 = .ok (.ireturn, 1) := by decide +kernel
theorem dX2_tellState_136 : decode cX2_tellState 136 = .ok (.iconst (-1), 1) := by decide +kernel
theorem dX2_tellState_137 : decode cX2_tellState 137 = .ok (.ireturn, 1) := by decide +kernel
theorem dX3_init_0 : decode cX3_init 0 = .ok (.aload_n 0, 1) := by decide +kernel
theorem dX3_init_1 : decode cX3_init 1 = .ok (.invokespecial 3, 3) := by decide +kernel
theorem dX3_init_4 : decode cX3_init 4 = .ok (.aload_n 0, 1) := by decide +kernel
theorem dX3_init_5 : decode cX3_init 5 = .ok (.sipush 200, 3) := by decide +kernel
theorem dX3_init_8 : decode cX3_init 8 = .ok (.newarray .char, 2) := by decide +kernel
theorem dX3_init_10 : decode cX3_init 10 = .ok (.putfield 9, 3) := by decide +kernel
theorem dX3_init_13 : decode cX3_init 13 = .ok (.aload_n 0, 1) := by decide +kernel
theorem dX3_init_14 : decode cX3_init 14 = .ok (.bipush 30, 2) := by decide +kernel
theorem dX3_init_16 : decode cX3_init 16 = .ok (.newarray .int, 2) := by decide +kernel
theorem dX3_init_18 : decode cX3_init 18 = .ok (.putfield 15, 3) := by decide +kernel
theorem dX3_init_21 : decode cX3_init 21 = .ok (.return_, 1) := by decide +kernel
theorem dX3_append_0 : decode cX3_append 0 = .ok (.aload_n 0, 1) := by decide +kernel
theorem dX3_append_1 : decode cX3_append 1 = .ok (.getfield 19, 3) := by decide +kernel
theorem dX3_append_4 : decode cX3_append 4 = .ok (.sipush 200, 3) := by decide +kernel
theorem dX3_append_7 : decode cX3_append 7 = .ok (.if_icmp .lt 6, 3) := by decide +kernel
theorem dX3_append_10 : decode cX3_append 10 = .ok (.bipush (-3), 2) := by decide +kernel
theorem dX3_append_12 : decode cX3_append 12 = .ok (.ireturn, 1) := by decide +kernel
theorem dX3_append_13 : decode cX3_append 13 = .ok (.aload_n 0, 1) := by decide +kernel
theorem dX3_append_14 : decode cX3_append 14 = .ok (.getfield 9, 3) := by decide +kernel
theorem dX3_append_17 : decode cX3_append 17 = .ok (.aload_n 0, 1) := by decide +kernel
theorem dX3_append_18 : decode cX3_append 18 = .ok (.getfield 19, 3) := by decide +kernel
theorem dX3_append_21 : decode cX3_append 21 = .ok (.iload_n 1, 1) := by decide +kernel
theorem dX3_append_22 : decode cX3_append 22 = .ok (.i2c, 1) := by decide +kernel
theorem dX3_append_23 : decode cX3_append 23 = .ok (.castore, 1) := by decide +kernel
theorem dX3_append_24 : decode cX3_append 24 = .ok (.aload_n 0, 1) := by decide +kernel
theorem dX3_append_25 : decode cX3_append 25 = .ok (.dup, 1) := by decide +kernel
theorem dX3_append_26 : decode cX3_append 26 = .ok (.getfield 19, 3) := by decide +kernel
theorem dX3_append_29 : decode cX3_append 29 = .ok (.iconst 1, 1) := by decide +kernel
theorem dX3_append_30 : decode cX3_append 30 = .ok (.iadd, 1) := by decide +kernel
theorem dX3_append_31 : decode cX3_append 31 = .ok (.putfield 19, 3) := by decide +kernel
theorem dX3_append_34 : decode cX3_append 34 = .ok (.aload_n 0, 1) := by decide +kernel
theorem dX3_append_35 : decode cX3_append 35 = .ok (.getfield 19, 3) := by decide +kernel
theorem dX3_append_38 : decode cX3_append 38 = .ok (.ireturn, 1) := by decide +kernel
theorem dX3_empty_0 : decode cX3_empty 0 = .ok (.aload_n 0, 1) := by decide +kernel
theorem dX3_empty_1 : decode cX3_empty 1 = .ok (.getfield 19, 3) := by decide +kernel
theorem dX3_empty_4 : decode cX3_empty 4 = .ok (.istore_n 1, 1) := by decide +kernel
theorem dX3_empty_5 : decode cX3_empty 5 = .ok (.aload_n 0, 1) := by decide +kernel
theorem dX3_empty_6 : decode cX3_empty 6 = .ok (.iconst 0, 1) := by decide +kernel
theorem dX3_empty_7 : decode cX3_empty 7 = .ok (.putfield 19, 3) := by decide +kernel
theorem dX3_empty_10 : decode cX3_empty 10 = .ok (.iload_n 1, 1) := by decide +kernel
theorem dX3_empty_11 : decode cX3_empty 11 = .ok (.ireturn, 1) := by decide +kernel
theorem dX3_firstFault_0 : decode cX3_firstFault 0 = .ok (.aload_n 0, 1) := by decide +kernel
theorem dX3_firstFault_1 : decode cX3_firstFault 1 = .ok (.iconst 0, 1) := by decide +kernel
theorem dX3_firstFault_2 : decode cX3_firstFault 2 = .ok (.putfield 23, 3) := by decide +kernel
theorem dX3_firstFault_5 : decode cX3_firstFault 5 = .ok (.iconst 0, 1) := by decide +kernel
theorem dX3_firstFault_6 : decode cX3_firstFault 6 = .ok (.istore_n 1, 1) := by decide +kernel
theorem dX3_firstFault_7 : decode cX3_firstFault 7 = .ok (.iconst 0, 1) := by decide +kernel
theorem dX3_firstFault_8 : decode cX3_firstFault 8 = .ok (.istore_n 2, 1) := by decide +kernel
theorem dX3_firstFault_9 : decode cX3_firstFault 9 = .ok (.iload_n 2, 1) := by decide +kernel
theorem dX3_firstFault_10 : decode cX3_firstFault 10 = .ok (.bipush 6, 2) := by decide +kernel
theorem dX3_firstFault_12 : decode cX3_firstFault 12 = .ok (.if_icmp .ge 49, 3) := by decide +kernel
theorem dX3_firstFault_15 : decode cX3_firstFault 15 = .ok (.iload_n 1, 1) := by decide +kernel
theorem dX3_firstFault_16 : decode cX3_firstFault 16 = .ok (.aload_n 0, 1) := by decide +kernel
theorem dX3_firstFault_17 : decode cX3_firstFault 17 = .ok (.getfield 19, 3) := by decide +kernel
theorem dX3_firstFault_20 : decode cX3_firstFault 20 = .ok (.if_icmp .ge 41, 3) := by decide +kernel
theorem dX3_firstFault_23 : decode cX3_firstFault 23 = .ok (.aload_n 0, 1) := by decide +kernel
theorem dX3_firstFault_24 : decode cX3_firstFault 24 = .ok (.iload_n 1, 1) := by decide +kernel
theorem dX3_firstFault_25 : decode cX3_firstFault 25 = .ok (.iload_n 2, 1) := by decide +kernel
theorem dX3_firstFault_26 : decode cX3_firstFault 26 = .ok (.iconst 5, 1) := by decide +kernel
theorem dX3_firstFault_27 : decode cX3_firstFault 27 = .ok (.imul, 1) := by decide +kernel
theorem dX3_firstFault_28 : decode cX3_firstFault 28 = .ok (.invokevirtual 26, 3) := by decide +kernel
theorem dX3_firstFault_31 : decode cX3_firstFault 31 = .ok (.istore_n 3, 1) := by decide +kernel
theorem dX3_firstFault_32 : decode cX3_firstFault 32 = .ok (.iload_n 3, 1) := by decide +kernel
theorem dX3_firstFault_33 : decode cX3_firstFault 33 = .ok (.ifCond .lt 11, 3) := by decide +kernel
theorem dX3_firstFault_36 : decode cX3_firstFault 36 = .ok (.aload_n 0, 1) := by decide +kernel
theorem dX3_firstFault_37 : decode cX3_firstFault 37 = .ok (.iload_n 2, 1) := by decide +kernel
theorem dX3_firstFault_38 : decode cX3_firstFault 38 = .ok (.invokevirtual 30, 3) := by decide +kernel
theorem dX3_firstFault_41 : decode cX3_firstFault 41 = .ok (.ifCond .eq 5, 3) := by decide +kernel
theorem dX3_firstFault_44 : decode cX3_firstFault 44 = .ok (.iload_n 1, 1) := by decide +kernel
theorem dX3_firstFault_45 : decode cX3_firstFault 45 = .ok (.ireturn, 1) := by decide +kernel
theorem dX3_firstFault_46 : decode cX3_firstFault 46 = .ok (.iload_n 3, 1) := by decide +kernel
theorem dX3_firstFault_47 : decode cX3_firstFault 47 = .ok (.istore_n 1, 1) := by decide +kernel
theorem dX3_firstFault_48 : decode cX3_firstFault 48 = .ok (.aload_n 0, 1) := by decide +kernel
theorem dX3_firstFault_49 : decode cX3_firstFault 49 = .ok (.iload_n 2, 1) := by decide +kernel
theorem dX3_firstFault_50 : decode cX3_firstFault 50 = .ok (.iconst 1, 1) := by decide +kernel
theorem dX3_firstFault_51 : decode cX3_firstFault 51 = .ok (.iadd, 1) := by decide +kernel
theorem dX3_firstFault_52 : decode cX3_firstFault 52 = .ok (.putfield 23, 3) := by decide +kernel
theorem dX3_firstFault_55 : decode cX3_firstFault 55 = .ok (.iinc 2 1, 3) := by decide +kernel
theorem dX3_firstFault_58 : decode cX3_firstFault 58 = .ok (.goto (-49), 3) := by decide +kernel
theorem dX3_firstFault_61 : decode cX3_firstFault 61 = .ok (.iload_n 1, 1) := by decide +kernel
theorem dX3_firstFault_62 : decode cX3_firstFault 62 = .ok (.aload_n 0, 1) := by decide +kernel
theorem dX3_firstFault_63 : decode cX3_firstFault 63 = .ok (.getfield 19, 3) := by decide +kernel
theorem dX3_firstFault_66 : decode cX3_firstFault 66 = .ok (.if_icmp .ge 7, 3) := by decide +kernel
theorem dX3_firstFault_69 : decode cX3_firstFault 69 = .ok (.iload_n 1, 1) := by decide +kernel
theorem dX3_firstFault_70 : decode cX3_firstFault 70 = .ok (.goto 5, 3) := by decide +kernel
theorem dX3_firstFault_73 : decode cX3_firstFault 73 = .ok (.bipush (-4), 2) := by decide +kernel
theorem dX3_firstFault_75 : decode cX3_firstFault 75 = .ok (.ireturn, 1) := by decide +kernel
theorem dX3_beginsWithHost_0 : decode cX3_beginsWithHost 0 = .ok (.aload_n 0, 1) := by decide +kernel
theorem dX3_beginsWithHost_1 : decode cX3_beginsWithHost 1 = .ok (.getfield 23, 3) := by decide +kernel
theorem dX3_beginsWithHost_4 : decode cX3_beginsWithHost 4 = .ok (.ifCond .le 17, 3) := by decide +kernel
theorem dX3_beginsWithHost_7 : decode cX3_beginsWithHost 7 = .ok (.aload_n 0, 1) := by decide +kernel
theorem dX3_beginsWithHost_8 : decode cX3_beginsWithHost 8 = .ok (.getfield 15, 3) := by decide +kernel
theorem dX3_beginsWithHost_11 : decode cX3_beginsWithHost 11 = .ok (.iconst 0, 1) := by decide +kernel
theorem dX3_beginsWithHost_12 : decode cX3_beginsWithHost 12 = .ok (.iaload, 1) := by decide +kernel
theorem dX3_beginsWithHost_13 : decode cX3_beginsWithHost 13 = .ok (.iconst 2, 1) := by decide +kernel
theorem dX3_beginsWithHost_14 : decode cX3_beginsWithHost 14 = .ok (.if_icmp .ne 7, 3) := by decide +kernel
theorem dX3_beginsWithHost_17 : decode cX3_beginsWithHost 17 = .ok (.iconst 1, 1) := by decide +kernel
theorem dX3_beginsWithHost_18 : decode cX3_beginsWithHost 18 = .ok (.goto 4, 3) := by decide +kernel
theorem dX3_beginsWithHost_21 : decode cX3_beginsWithHost 21 = .ok (.iconst 0, 1) := by decide +kernel
theorem dX3_beginsWithHost_22 : decode cX3_beginsWithHost 22 = .ok (.ireturn, 1) := by decide +kernel
theorem dX3_readItem_0 : decode cX3_readItem 0 = .ok (.aload_n 0, 1) := by decide +kernel
theorem dX3_readItem_1 : decode cX3_readItem 1 = .ok (.iload_n 1, 1) := by decide +kernel
theorem dX3_readItem_2 : decode cX3_readItem 2 = .ok (.invokevirtual 34, 3) := by decide +kernel
theorem dX3_readItem_5 : decode cX3_readItem 5 = .ok (.bipush 100, 2) := by decide +kernel
theorem dX3_readItem_7 : decode cX3_readItem 7 = .ok (.if_icmp .eq 5, 3) := by decide +kernel
theorem dX3_readItem_10 : decode cX3_readItem 10 = .ok (.iconst (-1), 1) := by decide +kernel
theorem dX3_readItem_11 : decode cX3_readItem 11 = .ok (.ireturn, 1) := by decide +kernel
theorem dX3_readItem_12 : decode cX3_readItem 12 = .ok (.iload_n 1, 1) := by decide +kernel
theorem dX3_readItem_13 : decode cX3_readItem 13 = .ok (.iconst 1, 1) := by decide +kernel
theorem dX3_readItem_14 : decode cX3_readItem 14 = .ok (.iadd, 1) := by decide +kernel
theorem dX3_readItem_15 : decode cX3_readItem 15 = .ok (.istore_n 3, 1) := by decide +kernel
theorem dX3_readItem_16 : decode cX3_readItem 16 = .ok (.iconst 0, 1) := by decide +kernel
theorem dX3_readItem_17 : decode cX3_readItem 17 = .ok (.istore 4, 2) := by decide +kernel
theorem dX3_readItem_19 : decode cX3_readItem 19 = .ok (.iload 4, 2) := by decide +kernel
theorem dX3_readItem_21 : decode cX3_readItem 21 = .ok (.iconst 5, 1) := by decide +kernel
theorem dX3_readItem_22 : decode cX3_readItem 22 = .ok (.if_icmp .ge 96, 3) := by decide +kernel
theorem dX3_readItem_25 : decode cX3_readItem 25 = .ok (.aload_n 0, 1) := by decide +kernel
theorem dX3_readItem_26 : decode cX3_readItem 26 = .ok (.iload_n 3, 1) := by decide +kernel
theorem dX3_readItem_27 : decode cX3_readItem 27 = .ok (.invokevirtual 38, 3) := by decide +kernel
theorem dX3_readItem_30 : decode cX3_readItem 30 = .ok (.istore 5, 2) := by decide +kernel
theorem dX3_readItem_32 : decode cX3_readItem 32 = .ok (.aload_n 0, 1) := by decide +kernel
theorem dX3_readItem_33 : decode cX3_readItem 33 = .ok (.iload_n 3, 1) := by decide +kernel
theorem dX3_readItem_34 : decode cX3_readItem 34 = .ok (.iload 5, 2) := by decide +kernel
theorem dX3_readItem_36 : decode cX3_readItem 36 = .ok (.invokevirtual 42, 3) := by decide +kernel
theorem dX3_readItem_39 : decode cX3_readItem 39 = .ok (.istore 6, 2) := by decide +kernel
theorem dX3_readItem_41 : decode cX3_readItem 41 = .ok (.iload 5, 2) := by decide +kernel
theorem dX3_readItem_43 : decode cX3_readItem 43 = .ok (.ifCond .eq 25, 3) := by decide +kernel
theorem dX3_readItem_46 : decode cX3_readItem 46 = .ok (.iload 6, 2) := by decide +kernel
theorem dX3_readItem_48 : decode cX3_readItem 48 = .ok (.getstatic 45, 3) := by decide +kernel
theorem dX3_readItem_51 : decode cX3_readItem 51 = .ok (.iload 4, 2) := by decide +kernel
theorem dX3_readItem_53 : decode cX3_readItem 53 = .ok (.iaload, 1) := by decide +kernel
theorem dX3_readItem_54 : decode cX3_readItem 54 = .ok (.if_icmp .lt 14, 3) := by decide +kernel
theorem dX3_readItem_57 : decode cX3_readItem 57 = .ok (.iload 6, 2) := by decide +kernel
theorem dX3_readItem_59 : decode cX3_readItem 59 = .ok (.getstatic 48, 3) := by decide +kernel
theorem dX3_readItem_62 : decode cX3_readItem 62 = .ok (.iload 4, 2) := by decide +kernel
theorem dX3_readItem_64 : decode cX3_readItem 64 = .ok (.iaload, 1) := by decide +kernel
theorem dX3_readItem_65 : decode cX3_readItem 65 = .ok (.if_icmp .le 5, 3) := by decide +kernel
theorem dX3_readItem_68 : decode cX3_readItem 68 = .ok (.iconst (-1), 1) := by decide +kernel
theorem dX3_readItem_69 : decode cX3_readItem 69 = .ok (.ireturn, 1) := by decide +kernel
theorem dX3_readItem_70 : decode cX3_readItem 70 = .ok (.iload_n 3, 1) := by decide +kernel
theorem dX3_readItem_71 : decode cX3_readItem 71 = .ok (.iload 5, 2) := by decide +kernel
theorem dX3_readItem_73 : decode cX3_readItem 73 = .ok (.iadd, 1) := by decide +kernel
theorem dX3_readItem_74 : decode cX3_readItem 74 = .ok (.istore_n 3, 1) := by decide +kernel
theorem dX3_readItem_75 : decode cX3_readItem 75 = .ok (.aload_n 0, 1) := by decide +kernel
theorem dX3_readItem_76 : decode cX3_readItem 76 = .ok (.iload_n 3, 1) := by decide +kernel
theorem dX3_readItem_77 : decode cX3_readItem 77 = .ok (.invokevirtual 34, 3) := by decide +kernel
theorem dX3_readItem_80 : decode cX3_readItem 80 = .ok (.iload 4, 2) := by decide +kernel
theorem dX3_readItem_82 : decode cX3_readItem 82 = .ok (.iconst 4, 1) := by decide +kernel
theorem dX3_readItem_83 : decode cX3_readItem 83 = .ok (.if_icmp .ne 8, 3) := by decide +kernel
theorem dX3_readItem_86 : decode cX3_readItem 86 = .ok (.bipush 59, 2) := by decide +kernel
theorem dX3_readItem_88 : decode cX3_readItem 88 = .ok (.goto 5, 3) := by decide +kernel
theorem dX3_readItem_91 : decode cX3_readItem 91 = .ok (.bipush 44, 2) := by decide +kernel
theorem dX3_readItem_93 : decode cX3_readItem 93 = .ok (.if_icmp .eq 5, 3) := by decide +kernel
theorem dX3_readItem_96 : decode cX3_readItem 96 = .ok (.iconst (-1), 1) := by decide +kernel
theorem dX3_readItem_97 : decode cX3_readItem 97 = .ok (.ireturn, 1) := by decide +kernel
theorem dX3_readItem_98 : decode cX3_readItem 98 = .ok (.iinc 3 1, 3) := by decide +kernel
theorem dX3_readItem_101 : decode cX3_readItem 101 = .ok (.aload_n 0, 1) := by decide +kernel
theorem dX3_readItem_102 : decode cX3_readItem 102 = .ok (.getfield 15, 3) := by decide +kernel
theorem dX3_readItem_105 : decode cX3_readItem 105 = .ok (.iload_n 2, 1) := by decide +kernel
theorem dX3_readItem_106 : decode cX3_readItem 106 = .ok (.iload 4, 2) := by decide +kernel
theorem dX3_readItem_108 : decode cX3_readItem 108 = .ok (.iadd, 1) := by decide +kernel
theorem dX3_readItem_109 : decode cX3_readItem 109 = .ok (.iload 6, 2) := by decide +kernel
theorem dX3_readItem_111 : decode cX3_readItem 111 = .ok (.iastore, 1) := by decide +kernel
theorem dX3_readItem_112 : decode cX3_readItem 112 = .ok (.iinc 4 1, 3) := by decide +kernel
theorem dX3_readItem_115 : decode cX3_readItem 115 = .ok (.goto (-96), 3) := by decide +kernel
theorem dX3_readItem_118 : decode cX3_readItem 118 = .ok (.iload_n 3, 1) := by decide +kernel
theorem dX3_readItem_119 : decode cX3_readItem 119 = .ok (.ireturn, 1) := by decide +kernel
theorem dX3_letterAt_0 : decode cX3_letterAt 0 = .ok (.iload_n 1, 1) := by decide +kernel
theorem dX3_letterAt_1 : decode cX3_letterAt 1 = .ok (.ifCond .lt 20, 3) := by decide +kernel
theorem dX3_letterAt_4 : decode cX3_letterAt 4 = .ok (.iload_n 1, 1) := by decide +kernel
theorem dX3_letterAt_5 : decode cX3_letterAt 5 = .ok (.aload_n 0, 1) := by decide +kernel
theorem dX3_letterAt_6 : decode cX3_letterAt 6 = .ok (.getfield 19, 3) := by decide +kernel
theorem dX3_letterAt_9 : decode cX3_letterAt 9 = .ok (.if_icmp .ge 12, 3) := by decide +kernel
theorem dX3_letterAt_12 : decode cX3_letterAt 12 = .ok (.aload_n 0, 1) := by decide +kernel
theorem dX3_letterAt_13 : decode cX3_letterAt 13 = .ok (.getfield 9, 3) := by decide +kernel
theorem dX3_letterAt_16 : decode cX3_letterAt 16 = .ok (.iload_n 1, 1) := by decide +kernel
theorem dX3_letterAt_17 : decode cX3_letterAt 17 = .ok (.caload, 1) := by decide +kernel
theorem dX3_letterAt_18 : decode cX3_letterAt 18 = .ok (.goto 4, 3) := by decide +kernel
theorem dX3_letterAt_21 : decode cX3_letterAt 21 = .ok (.iconst 0, 1) := by decide +kernel
theorem dX3_letterAt_22 : decode cX3_letterAt 22 = .ok (.ireturn, 1) := by decide +kernel
theorem dX3_isFigure_0 : decode cX3_isFigure 0 = .ok (.aload_n 0, 1) := by decide +kernel
theorem dX3_isFigure_1 : decode cX3_isFigure 1 = .ok (.iload_n 1, 1) := by decide +kernel
theorem dX3_isFigure_2 : decode cX3_isFigure 2 = .ok (.invokevirtual 34, 3) := by decide +kernel
theorem dX3_isFigure_5 : decode cX3_isFigure 5 = .ok (.istore_n 2, 1) := by decide +kernel
theorem dX3_isFigure_6 : decode cX3_isFigure 6 = .ok (.iload_n 2, 1) := by decide +kernel
theorem dX3_isFigure_7 : decode cX3_isFigure 7 = .ok (.bipush 48, 2) := by decide +kernel
theorem dX3_isFigure_9 : decode cX3_isFigure 9 = .ok (.if_icmp .lt 13, 3) := by decide +kernel
theorem dX3_isFigure_12 : decode cX3_isFigure 12 = .ok (.iload_n 2, 1) := by decide +kernel
theorem dX3_isFigure_13 : decode cX3_isFigure 13 = .ok (.bipush 57, 2) := by decide +kernel
theorem dX3_isFigure_15 : decode cX3_isFigure 15 = .ok (.if_icmp .gt 7, 3) := by decide +kernel
theorem dX3_isFigure_18 : decode cX3_isFigure 18 = .ok (.iconst 1, 1) := by decide +kernel
theorem dX3_isFigure_19 : decode cX3_isFigure 19 = .ok (.goto 4, 3) := by decide +kernel
theorem dX3_isFigure_22 : decode cX3_isFigure 22 = .ok (.iconst 0, 1) := by decide +kernel
theorem dX3_isFigure_23 : decode cX3_isFigure 23 = .ok (.ireturn, 1) := by decide +kernel
theorem dX3_figuresAt_0 : decode cX3_figuresAt 0 = .ok (.aload_n 0, 1) := by decide +kernel
theorem dX3_figuresAt_1 : decode cX3_figuresAt 1 = .ok (.iload_n 1, 1) := by decide +kernel
theorem dX3_figuresAt_2 : decode cX3_figuresAt 2 = .ok (.invokevirtual 51, 3) := by decide +kernel
theorem dX3_figuresAt_5 : decode cX3_figuresAt 5 = .ok (.ifCond .ne 5, 3) := by decide +kernel
theorem dX3_figuresAt_8 : decode cX3_figuresAt 8 = .ok (.iconst 0, 1) := by decide +kernel
theorem dX3_figuresAt_9 : decode cX3_figuresAt 9 = .ok (.ireturn, 1) := by decide +kernel
theorem dX3_figuresAt_10 : decode cX3_figuresAt 10 = .ok (.aload_n 0, 1) := by decide +kernel
theorem dX3_figuresAt_11 : decode cX3_figuresAt 11 = .ok (.iload_n 1, 1) := by decide +kernel
theorem dX3_figuresAt_12 : decode cX3_figuresAt 12 = .ok (.iconst 1, 1) := by decide +kernel
theorem dX3_figuresAt_13 : decode cX3_figuresAt 13 = .ok (.iadd, 1) := by decide +kernel
theorem dX3_figuresAt_14 : decode cX3_figuresAt 14 = .ok (.invokevirtual 51, 3) := by decide +kernel
theorem dX3_figuresAt_17 : decode cX3_figuresAt 17 = .ok (.ifCond .eq 7, 3) := by decide +kernel
theorem dX3_figuresAt_20 : decode cX3_figuresAt 20 = .ok (.iconst 2, 1) := by decide +kernel
theorem dX3_figuresAt_21 : decode cX3_figuresAt 21 = .ok (.goto 4, 3) := by decide +kernel
theorem dX3_figuresAt_24 : decode cX3_figuresAt 24 = .ok (.iconst 1, 1) := by decide +kernel
theorem dX3_figuresAt_25 : decode cX3_figuresAt 25 = .ok (.ireturn, 1) := by decide +kernel
theorem dX3_numberAt_0 : decode cX3_numberAt 0 = .ok (.iconst 0, 1) := by decide +kernel
theorem dX3_numberAt_1 : decode cX3_numberAt 1 = .ok (.istore_n 3, 1) := by decide +kernel
theorem dX3_numberAt_2 : decode cX3_numberAt 2 = .ok (.iconst 0, 1) := by decide +kernel
theorem dX3_numberAt_3 : decode cX3_numberAt 3 = .ok (.istore 4, 2) := by decide +kernel
theorem dX3_numberAt_5 : decode cX3_numberAt 5 = .ok (.iload 4, 2) := by decide +kernel
theorem dX3_numberAt_7 : decode cX3_numberAt 7 = .ok (.iload_n 2, 1) := by decide +kernel
theorem dX3_numberAt_8 : decode cX3_numberAt 8 = .ok (.if_icmp .ge 26, 3) := by decide +kernel
theorem dX3_numberAt_11 : decode cX3_numberAt 11 = .ok (.iload_n 3, 1) := by decide +kernel
theorem dX3_numberAt_12 : decode cX3_numberAt 12 = .ok (.bipush 10, 2) := by decide +kernel
theorem dX3_numberAt_14 : decode cX3_numberAt 14 = .ok (.imul, 1) := by decide +kernel
theorem dX3_numberAt_15 : decode cX3_numberAt 15 = .ok (.aload_n 0, 1) := by decide +kernel
theorem dX3_numberAt_16 : decode cX3_numberAt 16 = .ok (.iload_n 1, 1) := by decide +kernel
theorem dX3_numberAt_17 : decode cX3_numberAt 17 = .ok (.iload 4, 2) := by decide +kernel
theorem dX3_numberAt_19 : decode cX3_numberAt 19 = .ok (.iadd, 1) := by decide +kernel
theorem dX3_numberAt_20 : decode cX3_numberAt 20 = .ok (.invokevirtual 34, 3) := by decide +kernel
theorem dX3_numberAt_23 : decode cX3_numberAt 23 = .ok (.iadd, 1) := by decide +kernel
theorem dX3_numberAt_24 : decode cX3_numberAt 24 = .ok (.bipush 48, 2) := by decide +kernel
theorem dX3_numberAt_26 : decode cX3_numberAt 26 = .ok (.isub, 1) := by decide +kernel
theorem dX3_numberAt_27 : decode cX3_numberAt 27 = .ok (.istore_n 3, 1) := by decide +kernel
theorem dX3_numberAt_28 : decode cX3_numberAt 28 = .ok (.iinc 4 1, 3) := by decide +kernel
theorem dX3_numberAt_31 : decode cX3_numberAt 31 = .ok (.goto (-26), 3) := by decide +kernel
theorem dX3_numberAt_34 : decode cX3_numberAt 34 = .ok (.iload_n 3, 1) := by decide +kernel
theorem dX3_numberAt_35 : decode cX3_numberAt 35 = .ok (.ireturn, 1) := by decide +kernel
theorem dX3_hasTakenAddress_0 : decode cX3_hasTakenAddress 0 = .ok (.aload_n 0, 1) := by decide +kernel
theorem dX3_hasTakenAddress_1 : decode cX3_hasTakenAddress 1 = .ok (.getfield 15, 3) := by decide +kernel
theorem dX3_hasTakenAddress_4 : decode cX3_hasTakenAddress 4 = .ok (.iload_n 1, 1) := by decide +kernel
theorem dX3_hasTakenAddress_5 : decode cX3_hasTakenAddress 5 = .ok (.iconst 5, 1) := by decide +kernel
theorem dX3_hasTakenAddress_6 : decode cX3_hasTakenAddress 6 = .ok (.imul, 1) := by decide +kernel
theorem dX3_hasTakenAddress_7 : decode cX3_hasTakenAddress 7 = .ok (.iconst 1, 1) := by decide +kernel
theorem dX3_hasTakenAddress_8 : decode cX3_hasTakenAddress 8 = .ok (.iadd, 1) := by decide +kernel
theorem dX3_hasTakenAddress_9 : decode cX3_hasTakenAddress 9 = .ok (.iaload, 1) := by decide +kernel
theorem dX3_hasTakenAddress_10 : decode cX3_hasTakenAddress 10 = .ok (.istore_n 2, 1) := by decide +kernel
theorem dX3_hasTakenAddress_11 : decode cX3_hasTakenAddress 11 = .ok (.aload_n 0, 1) := by decide +kernel
theorem dX3_hasTakenAddress_12 : decode cX3_hasTakenAddress 12 = .ok (.getfield 15, 3) := by decide +kernel
theorem dX3_hasTakenAddress_15 : decode cX3_hasTakenAddress 15 = .ok (.iload_n 1, 1) := by decide +kernel
theorem dX3_hasTakenAddress_16 : decode cX3_hasTakenAddress 16 = .ok (.iconst 5, 1) := by decide +kernel
theorem dX3_hasTakenAddress_17 : decode cX3_hasTakenAddress 17 = .ok (.imul, 1) := by decide +kernel
theorem dX3_hasTakenAddress_18 : decode cX3_hasTakenAddress 18 = .ok (.iconst 2, 1) := by decide +kernel
theorem dX3_hasTakenAddress_19 : decode cX3_hasTakenAddress 19 = .ok (.iadd, 1) := by decide +kernel
theorem dX3_hasTakenAddress_20 : decode cX3_hasTakenAddress 20 = .ok (.iaload, 1) := by decide +kernel
theorem dX3_hasTakenAddress_21 : decode cX3_hasTakenAddress 21 = .ok (.istore_n 3, 1) := by decide +kernel
theorem dX3_hasTakenAddress_22 : decode cX3_hasTakenAddress 22 = .ok (.iconst 0, 1) := by decide +kernel
theorem dX3_hasTakenAddress_23 : decode cX3_hasTakenAddress 23 = .ok (.istore 4, 2) := by decide +kernel
theorem dX3_hasTakenAddress_25 : decode cX3_hasTakenAddress 25 = .ok (.iload 4, 2) := by decide +kernel
theorem dX3_hasTakenAddress_27 : decode cX3_hasTakenAddress 27 = .ok (.iload_n 1, 1) := by decide +kernel
theorem dX3_hasTakenAddress_28 : decode cX3_hasTakenAddress 28 = .ok (.if_icmp .ge 70, 3) := by decide +kernel
theorem dX3_hasTakenAddress_31 : decode cX3_hasTakenAddress 31 = .ok (.aload_n 0, 1) := by decide +kernel
theorem dX3_hasTakenAddress_32 : decode cX3_hasTakenAddress 32 = .ok (.getfield 15, 3) := by decide +kernel
theorem dX3_hasTakenAddress_35 : decode cX3_hasTakenAddress 35 = .ok (.iload 4, 2) := by decide +kernel
theorem dX3_hasTakenAddress_37 : decode cX3_hasTakenAddress 37 = .ok (.iconst 5, 1) := by decide +kernel
theorem dX3_hasTakenAddress_38 : decode cX3_hasTakenAddress 38 = .ok (.imul, 1) := by decide +kernel
theorem dX3_hasTakenAddress_39 : decode cX3_hasTakenAddress 39 = .ok (.iconst 2, 1) := by decide +kernel
theorem dX3_hasTakenAddress_40 : decode cX3_hasTakenAddress 40 = .ok (.iadd, 1) := by decide +kernel
theorem dX3_hasTakenAddress_41 : decode cX3_hasTakenAddress 41 = .ok (.iaload, 1) := by decide +kernel
theorem dX3_hasTakenAddress_42 : decode cX3_hasTakenAddress 42 = .ok (.istore 5, 2) := by decide +kernel
theorem dX3_hasTakenAddress_44 : decode cX3_hasTakenAddress 44 = .ok (.iload_n 3, 1) := by decide +kernel
theorem dX3_hasTakenAddress_45 : decode cX3_hasTakenAddress 45 = .ok (.iload 5, 2) := by decide +kernel
theorem dX3_hasTakenAddress_47 : decode cX3_hasTakenAddress 47 = .ok (.if_icmp .eq 20, 3) := by decide +kernel
theorem dX3_hasTakenAddress_50 : decode cX3_hasTakenAddress 50 = .ok (.iload_n 3, 1) := by decide +kernel
theorem dX3_hasTakenAddress_51 : decode cX3_hasTakenAddress 51 = .ok (.bipush 31, 2) := by decide +kernel
theorem dX3_hasTakenAddress_53 : decode cX3_hasTakenAddress 53 = .ok (.if_icmp .eq 14, 3) := by decide +kernel
theorem dX3_hasTakenAddress_56 : decode cX3_hasTakenAddress 56 = .ok (.iload 5, 2) := by decide +kernel
theorem dX3_hasTakenAddress_58 : decode cX3_hasTakenAddress 58 = .ok (.bipush 31, 2) := by decide +kernel
theorem dX3_hasTakenAddress_60 : decode cX3_hasTakenAddress 60 = .ok (.if_icmp .eq 7, 3) := by decide +kernel
theorem dX3_hasTakenAddress_63 : decode cX3_hasTakenAddress 63 = .ok (.iconst 1, 1) := by decide +kernel
theorem dX3_hasTakenAddress_64 : decode cX3_hasTakenAddress 64 = .ok (.goto 4, 3) := by decide +kernel
theorem dX3_hasTakenAddress_67 : decode cX3_hasTakenAddress 67 = .ok (.iconst 0, 1) := by decide +kernel
theorem dX3_hasTakenAddress_68 : decode cX3_hasTakenAddress 68 = .ok (.istore 6, 2) := by decide +kernel
theorem dX3_hasTakenAddress_70 : decode cX3_hasTakenAddress 70 = .ok (.aload_n 0, 1) := by decide +kernel
theorem dX3_hasTakenAddress_71 : decode cX3_hasTakenAddress 71 = .ok (.getfield 15, 3) := by decide +kernel
theorem dX3_hasTakenAddress_74 : decode cX3_hasTakenAddress 74 = .ok (.iload 4, 2) := by decide +kernel
theorem dX3_hasTakenAddress_76 : decode cX3_hasTakenAddress 76 = .ok (.iconst 5, 1) := by decide +kernel
theorem dX3_hasTakenAddress_77 : decode cX3_hasTakenAddress 77 = .ok (.imul, 1) := by decide +kernel
theorem dX3_hasTakenAddress_78 : decode cX3_hasTakenAddress 78 = .ok (.iconst 1, 1) := by decide +kernel
theorem dX3_hasTakenAddress_79 : decode cX3_hasTakenAddress 79 = .ok (.iadd, 1) := by decide +kernel
theorem dX3_hasTakenAddress_80 : decode cX3_hasTakenAddress 80 = .ok (.iaload, 1) := by decide +kernel
theorem dX3_hasTakenAddress_81 : decode cX3_hasTakenAddress 81 = .ok (.iload_n 2, 1) := by decide +kernel
theorem dX3_hasTakenAddress_82 : decode cX3_hasTakenAddress 82 = .ok (.if_icmp .ne 10, 3) := by decide +kernel
theorem dX3_hasTakenAddress_85 : decode cX3_hasTakenAddress 85 = .ok (.iload 6, 2) := by decide +kernel
theorem dX3_hasTakenAddress_87 : decode cX3_hasTakenAddress 87 = .ok (.ifCond .ne 5, 3) := by decide +kernel
theorem dX3_hasTakenAddress_90 : decode cX3_hasTakenAddress 90 = .ok (.iconst 1, 1) := by decide +kernel
theorem dX3_hasTakenAddress_91 : decode cX3_hasTakenAddress 91 = .ok (.ireturn, 1) := by decide +kernel
theorem dX3_hasTakenAddress_92 : decode cX3_hasTakenAddress 92 = .ok (.iinc 4 1, 3) := by decide +kernel
theorem dX3_hasTakenAddress_95 : decode cX3_hasTakenAddress 95 = .ok (.goto (-70), 3) := by decide +kernel
theorem dX3_hasTakenAddress_98 : decode cX3_hasTakenAddress 98 = .ok (.iconst 0, 1) := by decide +kernel
theorem dX3_hasTakenAddress_99 : decode cX3_hasTakenAddress 99 = .ok (.ireturn, 1) := by decide +kernel
theorem dX4_init_0 : decode cX4_init 0 = .ok (.aload_n 0, 1) := by decide +kernel
theorem dX4_init_1 : decode cX4_init 1 = .ok (.invokespecial 1, 3) := by decide +kernel
theorem dX4_init_4 : decode cX4_init 4 = .ok (.aload_n 0, 1) := by decide +kernel
theorem dX4_init_5 : decode cX4_init 5 = .ok (.new 7, 3) := by decide +kernel
theorem dX4_init_8 : decode cX4_init 8 = .ok (.dup, 1) := by decide +kernel
theorem dX4_init_9 : decode cX4_init 9 = .ok (.invokespecial 9, 3) := by decide +kernel
theorem dX4_init_12 : decode cX4_init 12 = .ok (.putfield 10, 3) := by decide +kernel
theorem dX4_init_15 : decode cX4_init 15 = .ok (.aload_n 0, 1) := by decide +kernel
theorem dX4_init_16 : decode cX4_init 16 = .ok (.bipush 6, 2) := by decide +kernel
theorem dX4_init_18 : decode cX4_init 18 = .ok (.anewarray 16, 3) := by decide +kernel
theorem dX4_init_21 : decode cX4_init 21 = .ok (.putfield 18, 3) := by decide +kernel
theorem dX4_init_24 : decode cX4_init 24 = .ok (.iconst 0, 1) := by decide +kernel
theorem dX4_init_25 : decode cX4_init 25 = .ok (.istore_n 1, 1) := by decide +kernel
theorem dX4_init_26 : decode cX4_init 26 = .ok (.iload_n 1, 1) := by decide +kernel
theorem dX4_init_27 : decode cX4_init 27 = .ok (.bipush 6, 2) := by decide +kernel
theorem dX4_init_29 : decode cX4_init 29 = .ok (.if_icmp .ge 22, 3) := by decide +kernel
theorem dX4_init_32 : decode cX4_init 32 = .ok (.aload_n 0, 1) := by decide +kernel
theorem dX4_init_33 : decode cX4_init 33 = .ok (.getfield 18, 3) := by decide +kernel
theorem dX4_init_36 : decode cX4_init 36 = .ok (.iload_n 1, 1) := by decide +kernel
theorem dX4_init_37 : decode cX4_init 37 = .ok (.new 16, 3) := by decide +kernel
theorem dX4_init_40 : decode cX4_init 40 = .ok (.dup, 1) := by decide +kernel
theorem dX4_init_41 : decode cX4_init 41 = .ok (.invokespecial 22, 3) := by decide +kernel
theorem dX4_init_44 : decode cX4_init 44 = .ok (.aastore, 1) := by decide +kernel
theorem dX4_init_45 : decode cX4_init 45 = .ok (.iinc 1 1, 3) := by decide +kernel
theorem dX4_init_48 : decode cX4_init 48 = .ok (.goto (-22), 3) := by decide +kernel
theorem dX4_init_51 : decode cX4_init 51 = .ok (.aload_n 0, 1) := by decide +kernel
theorem dX4_init_52 : decode cX4_init 52 = .ok (.new 23, 3) := by decide +kernel
theorem dX4_init_55 : decode cX4_init 55 = .ok (.dup, 1) := by decide +kernel
theorem dX4_init_56 : decode cX4_init 56 = .ok (.invokespecial 25, 3) := by decide +kernel
theorem dX4_init_59 : decode cX4_init 59 = .ok (.putfield 26, 3) := by decide +kernel
theorem dX4_init_62 : decode cX4_init 62 = .ok (.aload_n 0, 1) := by decide +kernel
theorem dX4_init_63 : decode cX4_init 63 = .ok (.bipush 8, 2) := by decide +kernel
theorem dX4_init_65 : decode cX4_init 65 = .ok (.newarray .int, 2) := by decide +kernel
theorem dX4_init_67 : decode cX4_init 67 = .ok (.putfield 30, 3) := by decide +kernel
theorem dX4_init_70 : decode cX4_init 70 = .ok (.aload_n 0, 1) := by decide +kernel
theorem dX4_init_71 : decode cX4_init 71 = .ok (.getstatic 34, 3) := by decide +kernel
theorem dX4_init_74 : decode cX4_init 74 = .ok (.bipush 6, 2) := by decide +kernel
theorem dX4_init_76 : decode cX4_init 76 = .ok (.invokevirtual 37, 3) := by decide +kernel
theorem dX4_init_79 : decode cX4_init 79 = .ok (.return_, 1) := by decide +kernel
theorem dX4_write_0 : decode cX4_write 0 = .ok (.iload_n 1, 1) := by decide +kernel
theorem dX4_write_1 : decode cX4_write 1 = .ok (.bipush 32, 2) := by decide +kernel
theorem dX4_write_3 : decode cX4_write 3 = .ok (.if_icmp .lt 9, 3) := by decide +kernel
theorem dX4_write_6 : decode cX4_write 6 = .ok (.iload_n 1, 1) := by decide +kernel
theorem dX4_write_7 : decode cX4_write 7 = .ok (.bipush 126, 2) := by decide +kernel
theorem dX4_write_9 : decode cX4_write 9 = .ok (.if_icmp .le 5, 3) := by decide +kernel
theorem dX4_write_12 : decode cX4_write 12 = .ok (.iconst (-1), 1) := by decide +kernel
theorem dX4_write_13 : decode cX4_write 13 = .ok (.ireturn, 1) := by decide +kernel
theorem dX4_write_14 : decode cX4_write 14 = .ok (.aload_n 0, 1) := by decide +kernel
theorem dX4_write_15 : decode cX4_write 15 = .ok (.getfield 10, 3) := by decide +kernel
theorem dX4_write_18 : decode cX4_write 18 = .ok (.iload_n 1, 1) := by decide +kernel
theorem dX4_write_19 : decode cX4_write 19 = .ok (.invokevirtual 41, 3) := by decide +kernel
theorem dX4_write_22 : decode cX4_write 22 = .ok (.ireturn, 1) := by decide +kernel
theorem dX4_wipe_0 : decode cX4_wipe 0 = .ok (.aload_n 0, 1) := by decide +kernel
theorem dX4_wipe_1 : decode cX4_wipe 1 = .ok (.getfield 10, 3) := by decide +kernel
theorem dX4_wipe_4 : decode cX4_wipe 4 = .ok (.invokevirtual 45, 3) := by decide +kernel
theorem dX4_wipe_7 : decode cX4_wipe 7 = .ok (.ireturn, 1) := by decide +kernel
theorem dX4_fault_0 : decode cX4_fault 0 = .ok (.aload_n 0, 1) := by decide +kernel
theorem dX4_fault_1 : decode cX4_fault 1 = .ok (.getfield 10, 3) := by decide +kernel
theorem dX4_fault_4 : decode cX4_fault 4 = .ok (.invokevirtual 49, 3) := by decide +kernel
theorem dX4_fault_7 : decode cX4_fault 7 = .ok (.ireturn, 1) := by decide +kernel
theorem dX4_lay_0 : decode cX4_lay 0 = .ok (.aload_n 0, 1) := by decide +kernel
theorem dX4_lay_1 : decode cX4_lay 1 = .ok (.getfield 10, 3) := by decide +kernel
theorem dX4_lay_4 : decode cX4_lay 4 = .ok (.invokevirtual 49, 3) := by decide +kernel
theorem dX4_lay_7 : decode cX4_lay 7 = .ok (.bipush (-4), 2) := by decide +kernel
theorem dX4_lay_9 : decode cX4_lay 9 = .ok (.if_icmp .ne 13, 3) := by decide +kernel
theorem dX4_lay_12 : decode cX4_lay 12 = .ok (.aload_n 0, 1) := by decide +kernel
theorem dX4_lay_13 : decode cX4_lay 13 = .ok (.getfield 10, 3) := by decide +kernel
theorem dX4_lay_16 : decode cX4_lay 16 = .ok (.invokevirtual 52, 3) := by decide +kernel
theorem dX4_lay_19 : decode cX4_lay 19 = .ok (.ifCond .ne 6, 3) := by decide +kernel
theorem dX4_lay_22 : decode cX4_lay 22 = .ok (.bipush (-2), 2) := by decide +kernel
theorem dX4_lay_24 : decode cX4_lay 24 = .ok (.ireturn, 1) := by decide +kernel
theorem dX4_lay_25 : decode cX4_lay 25 = .ok (.aload_n 0, 1) := by decide +kernel
theorem dX4_lay_26 : decode cX4_lay 26 = .ok (.aload_n 0, 1) := by decide +kernel
theorem dX4_lay_27 : decode cX4_lay 27 = .ok (.getfield 10, 3) := by decide +kernel
theorem dX4_lay_30 : decode cX4_lay 30 = .ok (.getfield 56, 3) := by decide +kernel
theorem dX4_lay_33 : decode cX4_lay 33 = .ok (.aload_n 0, 1) := by decide +kernel
theorem dX4_lay_34 : decode cX4_lay 34 = .ok (.getfield 10, 3) := by decide +kernel
theorem dX4_lay_37 : decode cX4_lay 37 = .ok (.getfield 59, 3) := by decide +kernel
theorem dX4_lay_40 : decode cX4_lay 40 = .ok (.invokevirtual 37, 3) := by decide +kernel
theorem dX4_lay_43 : decode cX4_lay 43 = .ok (.aload_n 0, 1) := by decide +kernel
theorem dX4_lay_44 : decode cX4_lay 44 = .ok (.getfield 63, 3) := by decide +kernel
theorem dX4_lay_47 : decode cX4_lay 47 = .ok (.ireturn, 1) := by decide +kernel
theorem dX4_command_0 : decode cX4_command 0 = .ok (.iload_n 1, 1) := by decide +kernel
theorem dX4_command_1 : decode cX4_command 1 = .ok (.ifCond .lt 9, 3) := by decide +kernel
theorem dX4_command_4 : decode cX4_command 4 = .ok (.iload_n 1, 1) := by decide +kernel
theorem dX4_command_5 : decode cX4_command 5 = .ok (.bipush 127, 2) := by decide +kernel
theorem dX4_command_7 : decode cX4_command 7 = .ok (.if_icmp .le 5, 3) := by decide +kernel
theorem dX4_command_10 : decode cX4_command 10 = .ok (.iconst (-1), 1) := by decide +kernel
theorem dX4_command_11 : decode cX4_command 11 = .ok (.ireturn, 1) := by decide +kernel
theorem dX4_command_12 : decode cX4_command 12 = .ok (.aload_n 0, 1) := by decide +kernel
theorem dX4_command_13 : decode cX4_command 13 = .ok (.iload_n 1, 1) := by decide +kernel
theorem dX4_command_14 : decode cX4_command 14 = .ok (.invokevirtual 66, 3) := by decide +kernel
theorem dX4_command_17 : decode cX4_command 17 = .ok (.aload_n 0, 1) := by decide +kernel
theorem dX4_command_18 : decode cX4_command 18 = .ok (.getfield 70, 3) := by decide +kernel
theorem dX4_command_21 : decode cX4_command 21 = .ok (.ireturn, 1) := by decide +kernel
theorem dX4_give_0 : decode cX4_give 0 = .ok (.aload_n 0, 1) := by decide +kernel
theorem dX4_give_1 : decode cX4_give 1 = .ok (.invokevirtual 73, 3) := by decide +kernel
theorem dX4_give_4 : decode cX4_give 4 = .ok (.ireturn, 1) := by decide +kernel
theorem dX4_tick_0 : decode cX4_tick 0 = .ok (.iload_n 1, 1) := by decide +kernel
theorem dX4_tick_1 : decode cX4_tick 1 = .ok (.iconst 1, 1) := by decide +kernel
theorem dX4_tick_2 : decode cX4_tick 2 = .ok (.if_icmp .lt 10, 3) := by decide +kernel
theorem dX4_tick_5 : decode cX4_tick 5 = .ok (.iload_n 1, 1) := by decide +kernel
theorem dX4_tick_6 : decode cX4_tick 6 = .ok (.sipush 500, 3) := by decide +kernel
theorem dX4_tick_9 : decode cX4_tick 9 = .ok (.if_icmp .le 5, 3) := by decide +kernel
theorem dX4_tick_12 : decode cX4_tick 12 = .ok (.iconst (-1), 1) := by decide +kernel
theorem dX4_tick_13 : decode cX4_tick 13 = .ok (.ireturn, 1) := by decide +kernel
theorem dX4_tick_14 : decode cX4_tick 14 = .ok (.aload_n 0, 1) := by decide +kernel
theorem dX4_tick_15 : decode cX4_tick 15 = .ok (.iload_n 1, 1) := by decide +kernel
theorem dX4_tick_16 : decode cX4_tick 16 = .ok (.invokevirtual 76, 3) := by decide +kernel
theorem dX4_tick_19 : decode cX4_tick 19 = .ok (.aload_n 0, 1) := by decide +kernel
theorem dX4_tick_20 : decode cX4_tick 20 = .ok (.getfield 70, 3) := by decide +kernel
theorem dX4_tick_23 : decode cX4_tick 23 = .ok (.ireturn, 1) := by decide +kernel
theorem dX4_poll_0 : decode cX4_poll 0 = .ok (.aload_n 0, 1) := by decide +kernel
theorem dX4_poll_1 : decode cX4_poll 1 = .ok (.getfield 30, 3) := by decide +kernel
theorem dX4_poll_4 : decode cX4_poll 4 = .ok (.iconst 4, 1) := by decide +kernel
theorem dX4_poll_5 : decode cX4_poll 5 = .ok (.dup2, 1) := by decide +kernel
theorem dX4_poll_6 : decode cX4_poll 6 = .ok (.iaload, 1) := by decide +kernel
theorem dX4_poll_7 : decode cX4_poll 7 = .ok (.iconst 1, 1) := by decide +kernel
theorem dX4_poll_8 : decode cX4_poll 8 = .ok (.iadd, 1) := by decide +kernel
theorem dX4_poll_9 : decode cX4_poll 9 = .ok (.iastore, 1) := by decide +kernel
theorem dX4_poll_10 : decode cX4_poll 10 = .ok (.aload_n 0, 1) := by decide +kernel
theorem dX4_poll_11 : decode cX4_poll 11 = .ok (.bipush 63, 2) := by decide +kernel
theorem dX4_poll_13 : decode cX4_poll 13 = .ok (.invokevirtual 66, 3) := by decide +kernel
theorem dX4_poll_16 : decode cX4_poll 16 = .ok (.aload_n 0, 1) := by decide +kernel
theorem dX4_poll_17 : decode cX4_poll 17 = .ok (.bipush 32, 2) := by decide +kernel
theorem dX4_poll_19 : decode cX4_poll 19 = .ok (.aload_n 0, 1) := by decide +kernel
theorem dX4_poll_20 : decode cX4_poll 20 = .ok (.getfield 79, 3) := by decide +kernel
theorem dX4_poll_23 : decode cX4_poll 23 = .ok (.invokevirtual 82, 3) := by decide +kernel
theorem dX4_poll_26 : decode cX4_poll 26 = .ok (.aload_n 0, 1) := by decide +kernel
theorem dX4_poll_27 : decode cX4_poll 27 = .ok (.bipush 24, 2) := by decide +kernel
theorem dX4_poll_29 : decode cX4_poll 29 = .ok (.invokevirtual 66, 3) := by decide +kernel
theorem dX4_poll_32 : decode cX4_poll 32 = .ok (.bipush (-4), 2) := by decide +kernel
theorem dX4_poll_34 : decode cX4_poll 34 = .ok (.istore_n 1, 1) := by decide +kernel
theorem dX4_poll_35 : decode cX4_poll 35 = .ok (.iconst 0, 1) := by decide +kernel
theorem dX4_poll_36 : decode cX4_poll 36 = .ok (.istore_n 2, 1) := by decide +kernel
theorem dX4_poll_37 : decode cX4_poll 37 = .ok (.iload_n 2, 1) := by decide +kernel
theorem dX4_poll_38 : decode cX4_poll 38 = .ok (.aload_n 0, 1) := by decide +kernel
theorem dX4_poll_39 : decode cX4_poll 39 = .ok (.getfield 63, 3) := by decide +kernel
theorem dX4_poll_42 : decode cX4_poll 42 = .ok (.if_icmp .ge 41, 3) := by decide +kernel
theorem dX4_poll_45 : decode cX4_poll 45 = .ok (.iload_n 1, 1) := by decide +kernel
theorem dX4_poll_46 : decode cX4_poll 46 = .ok (.bipush (-4), 2) := by decide +kernel
theorem dX4_poll_48 : decode cX4_poll 48 = .ok (.if_icmp .ne 35, 3) := by decide +kernel
theorem dX4_poll_51 : decode cX4_poll 51 = .ok (.iload_n 2, 1) := by decide +kernel
theorem dX4_poll_52 : decode cX4_poll 52 = .ok (.aload_n 0, 1) := by decide +kernel
theorem dX4_poll_53 : decode cX4_poll 53 = .ok (.getfield 79, 3) := by decide +kernel
theorem dX4_poll_56 : decode cX4_poll 56 = .ok (.if_icmp .eq 21, 3) := by decide +kernel
theorem dX4_poll_59 : decode cX4_poll 59 = .ok (.aload_n 0, 1) := by decide +kernel
theorem dX4_poll_60 : decode cX4_poll 60 = .ok (.bipush 64, 2) := by decide +kernel
theorem dX4_poll_62 : decode cX4_poll 62 = .ok (.iload_n 2, 1) := by decide +kernel
theorem dX4_poll_63 : decode cX4_poll 63 = .ok (.invokevirtual 82, 3) := by decide +kernel
theorem dX4_poll_66 : decode cX4_poll 66 = .ok (.aload_n 0, 1) := by decide +kernel
theorem dX4_poll_67 : decode cX4_poll 67 = .ok (.invokevirtual 73, 3) := by decide +kernel
theorem dX4_poll_70 : decode cX4_poll 70 = .ok (.bipush 64, 2) := by decide +kernel
theorem dX4_poll_72 : decode cX4_poll 72 = .ok (.if_icmp .lt 5, 3) := by decide +kernel
theorem dX4_poll_75 : decode cX4_poll 75 = .ok (.iload_n 2, 1) := by decide +kernel
theorem dX4_poll_76 : decode cX4_poll 76 = .ok (.istore_n 1, 1) := by decide +kernel
theorem dX4_poll_77 : decode cX4_poll 77 = .ok (.iinc 2 1, 3) := by decide +kernel
theorem dX4_poll_80 : decode cX4_poll 80 = .ok (.goto (-43), 3) := by decide +kernel
theorem dX4_poll_83 : decode cX4_poll 83 = .ok (.aload_n 0, 1) := by decide +kernel
theorem dX4_poll_84 : decode cX4_poll 84 = .ok (.bipush 25, 2) := by decide +kernel
theorem dX4_poll_86 : decode cX4_poll 86 = .ok (.invokevirtual 66, 3) := by decide +kernel
theorem dX4_poll_89 : decode cX4_poll 89 = .ok (.aload_n 0, 1) := by decide +kernel
theorem dX4_poll_90 : decode cX4_poll 90 = .ok (.bipush 95, 2) := by decide +kernel
theorem dX4_poll_92 : decode cX4_poll 92 = .ok (.invokevirtual 66, 3) := by decide +kernel
theorem dX4_poll_95 : decode cX4_poll 95 = .ok (.iload_n 1, 1) := by decide +kernel
theorem dX4_poll_96 : decode cX4_poll 96 = .ok (.bipush (-4), 2) := by decide +kernel
theorem dX4_poll_98 : decode cX4_poll 98 = .ok (.if_icmp .eq 13, 3) := by decide +kernel
theorem dX4_poll_101 : decode cX4_poll 101 = .ok (.aload_n 0, 1) := by decide +kernel
theorem dX4_poll_102 : decode cX4_poll 102 = .ok (.getfield 30, 3) := by decide +kernel
theorem dX4_poll_105 : decode cX4_poll 105 = .ok (.iconst 5, 1) := by decide +kernel
theorem dX4_poll_106 : decode cX4_poll 106 = .ok (.dup2, 1) := by decide +kernel
theorem dX4_poll_107 : decode cX4_poll 107 = .ok (.iaload, 1) := by decide +kernel
theorem dX4_poll_108 : decode cX4_poll 108 = .ok (.iconst 1, 1) := by decide +kernel
theorem dX4_poll_109 : decode cX4_poll 109 = .ok (.iadd, 1) := by decide +kernel
theorem dX4_poll_110 : decode cX4_poll 110 = .ok (.iastore, 1) := by decide +kernel
theorem dX4_poll_111 : decode cX4_poll 111 = .ok (.iload_n 1, 1) := by decide +kernel
theorem dX4_poll_112 : decode cX4_poll 112 = .ok (.ireturn, 1) := by decide +kernel
theorem dX4_parallel_0 : decode cX4_parallel 0 = .ok (.aload_n 0, 1) := by decide +kernel
theorem dX4_parallel_1 : decode cX4_parallel 1 = .ok (.iconst 1, 1) := by decide +kernel
theorem dX4_parallel_2 : decode cX4_parallel 2 = .ok (.invokevirtual 76, 3) := by decide +kernel
theorem dX4_parallel_5 : decode cX4_parallel 5 = .ok (.iconst 0, 1) := by decide +kernel
theorem dX4_parallel_6 : decode cX4_parallel 6 = .ok (.istore_n 1, 1) := by decide +kernel
theorem dX4_parallel_7 : decode cX4_parallel 7 = .ok (.iconst 0, 1) := by decide +kernel
theorem dX4_parallel_8 : decode cX4_parallel 8 = .ok (.istore_n 2, 1) := by decide +kernel
theorem dX4_parallel_9 : decode cX4_parallel 9 = .ok (.iload_n 2, 1) := by decide +kernel
theorem dX4_parallel_10 : decode cX4_parallel 10 = .ok (.aload_n 0, 1) := by decide +kernel
theorem dX4_parallel_11 : decode cX4_parallel 11 = .ok (.getfield 63, 3) := by decide +kernel
theorem dX4_parallel_14 : decode cX4_parallel 14 = .ok (.if_icmp .ge 21, 3) := by decide +kernel
theorem dX4_parallel_17 : decode cX4_parallel 17 = .ok (.iload_n 1, 1) := by decide +kernel
theorem dX4_parallel_18 : decode cX4_parallel 18 = .ok (.aload_n 0, 1) := by decide +kernel
theorem dX4_parallel_19 : decode cX4_parallel 19 = .ok (.getfield 18, 3) := by decide +kernel
theorem dX4_parallel_22 : decode cX4_parallel 22 = .ok (.iload_n 2, 1) := by decide +kernel
theorem dX4_parallel_23 : decode cX4_parallel 23 = .ok (.aaload, 1) := by decide +kernel
theorem dX4_parallel_24 : decode cX4_parallel 24 = .ok (.invokevirtual 86, 3) := by decide +kernel
theorem dX4_parallel_27 : decode cX4_parallel 27 = .ok (.ior, 1) := by decide +kernel
theorem dX4_parallel_28 : decode cX4_parallel 28 = .ok (.istore_n 1, 1) := by decide +kernel
theorem dX4_parallel_29 : decode cX4_parallel 29 = .ok (.iinc 2 1, 3) := by decide +kernel
theorem dX4_parallel_32 : decode cX4_parallel 32 = .ok (.goto (-23), 3) := by decide +kernel
theorem dX4_parallel_35 : decode cX4_parallel 35 = .ok (.iload_n 1, 1) := by decide +kernel
theorem dX4_parallel_36 : decode cX4_parallel 36 = .ok (.ireturn, 1) := by decide +kernel
theorem dX4_takeBack_0 : decode cX4_takeBack 0 = .ok (.aload_n 0, 1) := by decide +kernel
theorem dX4_takeBack_1 : decode cX4_takeBack 1 = .ok (.getfield 79, 3) := by decide +kernel
theorem dX4_takeBack_4 : decode cX4_takeBack 4 = .ok (.istore_n 1, 1) := by decide +kernel
theorem dX4_takeBack_5 : decode cX4_takeBack 5 = .ok (.aload_n 0, 1) := by decide +kernel
theorem dX4_takeBack_6 : decode cX4_takeBack 6 = .ok (.bipush (-4), 2) := by decide +kernel
theorem dX4_takeBack_8 : decode cX4_takeBack 8 = .ok (.putfield 89, 3) := by decide +kernel
theorem dX4_takeBack_11 : decode cX4_takeBack 11 = .ok (.aload_n 0, 1) := by decide +kernel
theorem dX4_takeBack_12 : decode cX4_takeBack 12 = .ok (.invokevirtual 92, 3) := by decide +kernel
theorem dX4_takeBack_15 : decode cX4_takeBack 15 = .ok (.aload_n 0, 1) := by decide +kernel
theorem dX4_takeBack_16 : decode cX4_takeBack 16 = .ok (.invokevirtual 95, 3) := by decide +kernel
theorem dX4_takeBack_19 : decode cX4_takeBack 19 = .ok (.aload_n 0, 1) := by decide +kernel
theorem dX4_takeBack_20 : decode cX4_takeBack 20 = .ok (.iconst 0, 1) := by decide +kernel
theorem dX4_takeBack_21 : decode cX4_takeBack 21 = .ok (.putfield 98, 3) := by decide +kernel
theorem dX4_takeBack_24 : decode cX4_takeBack 24 = .ok (.aload_n 0, 1) := by decide +kernel
theorem dX4_takeBack_25 : decode cX4_takeBack 25 = .ok (.iconst 0, 1) := by decide +kernel
theorem dX4_takeBack_26 : decode cX4_takeBack 26 = .ok (.putfield 79, 3) := by decide +kernel
theorem dX4_takeBack_29 : decode cX4_takeBack 29 = .ok (.iload_n 1, 1) := by decide +kernel
theorem dX4_takeBack_30 : decode cX4_takeBack 30 = .ok (.ireturn, 1) := by decide +kernel
theorem dX4_put_0 : decode cX4_put 0 = .ok (.aload_n 0, 1) := by decide +kernel
theorem dX4_put_1 : decode cX4_put 1 = .ok (.iload_n 1, 1) := by decide +kernel
theorem dX4_put_2 : decode cX4_put 2 = .ok (.invokevirtual 102, 3) := by decide +kernel
theorem dX4_put_5 : decode cX4_put 5 = .ok (.ifCond .eq 14, 3) := by decide +kernel
theorem dX4_put_8 : decode cX4_put 8 = .ok (.iload_n 2, 1) := by decide +kernel
theorem dX4_put_9 : decode cX4_put 9 = .ok (.ifCond .lt 10, 3) := by decide +kernel
theorem dX4_put_12 : decode cX4_put 12 = .ok (.iload_n 2, 1) := by decide +kernel
theorem dX4_put_13 : decode cX4_put 13 = .ok (.sipush 255, 3) := by decide +kernel
theorem dX4_put_16 : decode cX4_put 16 = .ok (.if_icmp .le 5, 3) := by decide +kernel
theorem dX4_put_19 : decode cX4_put 19 = .ok (.iconst (-1), 1) := by decide +kernel
theorem dX4_put_20 : decode cX4_put 20 = .ok (.ireturn, 1) := by decide +kernel
theorem dX4_put_21 : decode cX4_put 21 = .ok (.aload_n 0, 1) := by decide +kernel
theorem dX4_put_22 : decode cX4_put 22 = .ok (.getfield 18, 3) := by decide +kernel
theorem dX4_put_25 : decode cX4_put 25 = .ok (.iload_n 1, 1) := by decide +kernel
theorem dX4_put_26 : decode cX4_put 26 = .ok (.aaload, 1) := by decide +kernel
theorem dX4_put_27 : decode cX4_put 27 = .ok (.getfield 106, 3) := by decide +kernel
theorem dX4_put_30 : decode cX4_put 30 = .ok (.iload_n 2, 1) := by decide +kernel
theorem dX4_put_31 : decode cX4_put 31 = .ok (.invokevirtual 110, 3) := by decide +kernel
theorem dX4_put_34 : decode cX4_put 34 = .ok (.ireturn, 1) := by decide +kernel
theorem dX4_take_0 : decode cX4_take 0 = .ok (.aload_n 0, 1) := by decide +kernel
theorem dX4_take_1 : decode cX4_take 1 = .ok (.iload_n 1, 1) := by decide +kernel
theorem dX4_take_2 : decode cX4_take 2 = .ok (.invokevirtual 102, 3) := by decide +kernel
theorem dX4_take_5 : decode cX4_take 5 = .ok (.ifCond .ne 5, 3) := by decide +kernel
theorem dX4_take_8 : decode cX4_take 8 = .ok (.iconst (-1), 1) := by decide +kernel
theorem dX4_take_9 : decode cX4_take 9 = .ok (.ireturn, 1) := by decide +kernel
theorem dX4_take_10 : decode cX4_take 10 = .ok (.aload_n 0, 1) := by decide +kernel
theorem dX4_take_11 : decode cX4_take 11 = .ok (.getfield 18, 3) := by decide +kernel
theorem dX4_take_14 : decode cX4_take 14 = .ok (.iload_n 1, 1) := by decide +kernel
theorem dX4_take_15 : decode cX4_take 15 = .ok (.aaload, 1) := by decide +kernel
theorem dX4_take_16 : decode cX4_take 16 = .ok (.getfield 113, 3) := by decide +kernel
theorem dX4_take_19 : decode cX4_take 19 = .ok (.invokevirtual 116, 3) := by decide +kernel
theorem dX4_take_22 : decode cX4_take 22 = .ok (.ireturn, 1) := by decide +kernel
theorem dX4_ask_0 : decode cX4_ask 0 = .ok (.aload_n 0, 1) := by decide +kernel
theorem dX4_ask_1 : decode cX4_ask 1 = .ok (.iload_n 1, 1) := by decide +kernel
theorem dX4_ask_2 : decode cX4_ask 2 = .ok (.invokevirtual 102, 3) := by decide +kernel
theorem dX4_ask_5 : decode cX4_ask 5 = .ok (.ifCond .eq 22, 3) := by decide +kernel
theorem dX4_ask_8 : decode cX4_ask 8 = .ok (.iload_n 2, 1) := by decide +kernel
theorem dX4_ask_9 : decode cX4_ask 9 = .ok (.ifCond .lt 18, 3) := by decide +kernel
theorem dX4_ask_12 : decode cX4_ask 12 = .ok (.iload_n 2, 1) := by decide +kernel
theorem dX4_ask_13 : decode cX4_ask 13 = .ok (.bipush 63, 2) := by decide +kernel
theorem dX4_ask_15 : decode cX4_ask 15 = .ok (.if_icmp .gt 12, 3) := by decide +kernel
theorem dX4_ask_18 : decode cX4_ask 18 = .ok (.iload_n 3, 1) := by decide +kernel
theorem dX4_ask_19 : decode cX4_ask 19 = .ok (.ifCond .lt 8, 3) := by decide +kernel
theorem dX4_ask_22 : decode cX4_ask 22 = .ok (.iload_n 3, 1) := by decide +kernel
theorem dX4_ask_23 : decode cX4_ask 23 = .ok (.iconst 1, 1) := by decide +kernel
theorem dX4_ask_24 : decode cX4_ask 24 = .ok (.if_icmp .le 5, 3) := by decide +kernel
theorem dX4_ask_27 : decode cX4_ask 27 = .ok (.iconst (-1), 1) := by decide +kernel
theorem dX4_ask_28 : decode cX4_ask 28 = .ok (.ireturn, 1) := by decide +kernel
theorem dX4_ask_29 : decode cX4_ask 29 = .ok (.aload_n 0, 1) := by decide +kernel
theorem dX4_ask_30 : decode cX4_ask 30 = .ok (.getfield 18, 3) := by decide +kernel
theorem dX4_ask_33 : decode cX4_ask 33 = .ok (.iload_n 1, 1) := by decide +kernel
theorem dX4_ask_34 : decode cX4_ask 34 = .ok (.aaload, 1) := by decide +kernel
theorem dX4_ask_35 : decode cX4_ask 35 = .ok (.invokevirtual 119, 3) := by decide +kernel
theorem dX4_ask_38 : decode cX4_ask 38 = .ok (.istore 4, 2) := by decide +kernel
theorem dX4_ask_40 : decode cX4_ask 40 = .ok (.aload_n 0, 1) := by decide +kernel
theorem dX4_ask_41 : decode cX4_ask 41 = .ok (.getfield 18, 3) := by decide +kernel
theorem dX4_ask_44 : decode cX4_ask 44 = .ok (.iload_n 1, 1) := by decide +kernel
theorem dX4_ask_45 : decode cX4_ask 45 = .ok (.aaload, 1) := by decide +kernel
theorem dX4_ask_46 : decode cX4_ask 46 = .ok (.iload_n 2, 1) := by decide +kernel
theorem dX4_ask_47 : decode cX4_ask 47 = .ok (.putfield 122, 3) := by decide +kernel
theorem dX4_ask_50 : decode cX4_ask 50 = .ok (.aload_n 0, 1) := by decide +kernel
theorem dX4_ask_51 : decode cX4_ask 51 = .ok (.getfield 18, 3) := by decide +kernel
theorem dX4_ask_54 : decode cX4_ask 54 = .ok (.iload_n 1, 1) := by decide +kernel
theorem dX4_ask_55 : decode cX4_ask 55 = .ok (.aaload, 1) := by decide +kernel
theorem dX4_ask_56 : decode cX4_ask 56 = .ok (.iload_n 3, 1) := by decide +kernel
theorem dX4_ask_57 : decode cX4_ask 57 = .ok (.iconst 1, 1) := by decide +kernel
theorem dX4_ask_58 : decode cX4_ask 58 = .ok (.if_icmp .ne 7, 3) := by decide +kernel
theorem dX4_ask_61 : decode cX4_ask 61 = .ok (.iconst 1, 1) := by decide +kernel
theorem dX4_ask_62 : decode cX4_ask 62 = .ok (.goto 4, 3) := by decide +kernel
theorem dX4_ask_65 : decode cX4_ask 65 = .ok (.iconst 0, 1) := by decide +kernel
theorem dX4_ask_66 : decode cX4_ask 66 = .ok (.putfield 125, 3) := by decide +kernel
theorem dX4_ask_69 : decode cX4_ask 69 = .ok (.iload 4, 2) := by decide +kernel
theorem dX4_ask_71 : decode cX4_ask 71 = .ok (.ireturn, 1) := by decide +kernel
theorem dX4_front_0 : decode cX4_front 0 = .ok (.aload_n 0, 1) := by decide +kernel
theorem dX4_front_1 : decode cX4_front 1 = .ok (.iload_n 1, 1) := by decide +kernel
theorem dX4_front_2 : decode cX4_front 2 = .ok (.invokevirtual 102, 3) := by decide +kernel
theorem dX4_front_5 : decode cX4_front 5 = .ok (.ifCond .ne 5, 3) := by decide +kernel
theorem dX4_front_8 : decode cX4_front 8 = .ok (.iconst (-1), 1) := by decide +kernel
theorem dX4_front_9 : decode cX4_front 9 = .ok (.ireturn, 1) := by decide +kernel
theorem dX4_front_10 : decode cX4_front 10 = .ok (.aload_n 0, 1) := by decide +kernel
theorem dX4_front_11 : decode cX4_front 11 = .ok (.getfield 18, 3) := by decide +kernel
theorem dX4_front_14 : decode cX4_front 14 = .ok (.iload_n 1, 1) := by decide +kernel
theorem dX4_front_15 : decode cX4_front 15 = .ok (.aaload, 1) := by decide +kernel
theorem dX4_front_16 : decode cX4_front 16 = .ok (.getfield 128, 3) := by decide +kernel
theorem dX4_front_19 : decode cX4_front 19 = .ok (.ifCond .ne 13, 3) := by decide +kernel
theorem dX4_front_22 : decode cX4_front 22 = .ok (.aload_n 0, 1) := by decide +kernel
theorem dX4_front_23 : decode cX4_front 23 = .ok (.getfield 18, 3) := by decide +kernel
theorem dX4_front_26 : decode cX4_front 26 = .ok (.iload_n 1, 1) := by decide +kernel
theorem dX4_front_27 : decode cX4_front 27 = .ok (.aaload, 1) := by decide +kernel
theorem dX4_front_28 : decode cX4_front 28 = .ok (.iconst 0, 1) := by decide +kernel
theorem dX4_front_29 : decode cX4_front 29 = .ok (.putfield 131, 3) := by decide +kernel
theorem dX4_front_32 : decode cX4_front 32 = .ok (.aload_n 0, 1) := by decide +kernel
theorem dX4_front_33 : decode cX4_front 33 = .ok (.getfield 18, 3) := by decide +kernel
theorem dX4_front_36 : decode cX4_front 36 = .ok (.iload_n 1, 1) := by decide +kernel
theorem dX4_front_37 : decode cX4_front 37 = .ok (.aaload, 1) := by decide +kernel
theorem dX4_front_38 : decode cX4_front 38 = .ok (.getfield 131, 3) := by decide +kernel
theorem dX4_front_41 : decode cX4_front 41 = .ok (.ifCond .ne 7, 3) := by decide +kernel
theorem dX4_front_44 : decode cX4_front 44 = .ok (.iconst 1, 1) := by decide +kernel
theorem dX4_front_45 : decode cX4_front 45 = .ok (.goto 4, 3) := by decide +kernel
theorem dX4_front_48 : decode cX4_front 48 = .ok (.iconst 0, 1) := by decide +kernel
theorem dX4_front_49 : decode cX4_front 49 = .ok (.invokestatic 134, 3) := by decide +kernel
theorem dX4_front_52 : decode cX4_front 52 = .ok (.ireturn, 1) := by decide +kernel
theorem dX4_tune_0 : decode cX4_tune 0 = .ok (.aload_n 0, 1) := by decide +kernel
theorem dX4_tune_1 : decode cX4_tune 1 = .ok (.iload_n 1, 1) := by decide +kernel
theorem dX4_tune_2 : decode cX4_tune 2 = .ok (.invokevirtual 102, 3) := by decide +kernel
theorem dX4_tune_5 : decode cX4_tune 5 = .ok (.ifCond .eq 12, 3) := by decide +kernel
theorem dX4_tune_8 : decode cX4_tune 8 = .ok (.iload_n 2, 1) := by decide +kernel
theorem dX4_tune_9 : decode cX4_tune 9 = .ok (.ifCond .lt 8, 3) := by decide +kernel
theorem dX4_tune_12 : decode cX4_tune 12 = .ok (.iload_n 2, 1) := by decide +kernel
theorem dX4_tune_13 : decode cX4_tune 13 = .ok (.iconst 1, 1) := by decide +kernel
theorem dX4_tune_14 : decode cX4_tune 14 = .ok (.if_icmp .le 5, 3) := by decide +kernel
theorem dX4_tune_17 : decode cX4_tune 17 = .ok (.iconst (-1), 1) := by decide +kernel
theorem dX4_tune_18 : decode cX4_tune 18 = .ok (.ireturn, 1) := by decide +kernel
theorem dX4_tune_19 : decode cX4_tune 19 = .ok (.iload_n 2, 1) := by decide +kernel
theorem dX4_tune_20 : decode cX4_tune 20 = .ok (.ifCond .ne 7, 3) := by decide +kernel
theorem dX4_tune_23 : decode cX4_tune 23 = .ok (.iconst 3, 1) := by decide +kernel
theorem dX4_tune_24 : decode cX4_tune 24 = .ok (.goto 4, 3) := by decide +kernel
theorem dX4_tune_27 : decode cX4_tune 27 = .ok (.iconst 4, 1) := by decide +kernel
theorem dX4_tune_28 : decode cX4_tune 28 = .ok (.istore 4, 2) := by decide +kernel
theorem dX4_tune_30 : decode cX4_tune 30 = .ok (.iload_n 3, 1) := by decide +kernel
theorem dX4_tune_31 : decode cX4_tune 31 = .ok (.getstatic 138, 3) := by decide +kernel
theorem dX4_tune_34 : decode cX4_tune 34 = .ok (.iload 4, 2) := by decide +kernel
theorem dX4_tune_36 : decode cX4_tune 36 = .ok (.iaload, 1) := by decide +kernel
theorem dX4_tune_37 : decode cX4_tune 37 = .ok (.if_icmp .lt 13, 3) := by decide +kernel
theorem dX4_tune_40 : decode cX4_tune 40 = .ok (.iload_n 3, 1) := by decide +kernel
theorem dX4_tune_41 : decode cX4_tune 41 = .ok (.getstatic 141, 3) := by decide +kernel
theorem dX4_tune_44 : decode cX4_tune 44 = .ok (.iload 4, 2) := by decide +kernel
theorem dX4_tune_46 : decode cX4_tune 46 = .ok (.iaload, 1) := by decide +kernel
theorem dX4_tune_47 : decode cX4_tune 47 = .ok (.if_icmp .le 5, 3) := by decide +kernel
theorem dX4_tune_50 : decode cX4_tune 50 = .ok (.iconst (-1), 1) := by decide +kernel
theorem dX4_tune_51 : decode cX4_tune 51 = .ok (.ireturn, 1) := by decide +kernel
theorem dX4_tune_52 : decode cX4_tune 52 = .ok (.iload_n 2, 1) := by decide +kernel
theorem dX4_tune_53 : decode cX4_tune 53 = .ok (.ifCond .ne 15, 3) := by decide +kernel
theorem dX4_tune_56 : decode cX4_tune 56 = .ok (.aload_n 0, 1) := by decide +kernel
theorem dX4_tune_57 : decode cX4_tune 57 = .ok (.getfield 18, 3) := by decide +kernel
theorem dX4_tune_60 : decode cX4_tune 60 = .ok (.iload_n 1, 1) := by decide +kernel
theorem dX4_tune_61 : decode cX4_tune 61 = .ok (.aaload, 1) := by decide +kernel
theorem dX4_tune_62 : decode cX4_tune 62 = .ok (.getfield 144, 3) := by decide +kernel
theorem dX4_tune_65 : decode cX4_tune 65 = .ok (.goto 12, 3) := by decide +kernel
theorem dX4_tune_68 : decode cX4_tune 68 = .ok (.aload_n 0, 1) := by decide +kernel
theorem dX4_tune_69 : decode cX4_tune 69 = .ok (.getfield 18, 3) := by decide +kernel
theorem dX4_tune_72 : decode cX4_tune 72 = .ok (.iload_n 1, 1) := by decide +kernel
theorem dX4_tune_73 : decode cX4_tune 73 = .ok (.aaload, 1) := by decide +kernel
theorem dX4_tune_74 : decode cX4_tune 74 = .ok (.getfield 147, 3) := by decide +kernel
theorem dX4_tune_77 : decode cX4_tune 77 = .ok (.istore 5, 2) := by decide +kernel
theorem dX4_tune_79 : decode cX4_tune 79 = .ok (.iload_n 3, 1) := by decide +kernel
theorem dX4_tune_80 : decode cX4_tune 80 = .ok (.iload 5, 2) := by decide +kernel
theorem dX4_tune_82 : decode cX4_tune 82 = .ok (.if_icmp .ne 6, 3) := by decide +kernel
theorem dX4_tune_85 : decode cX4_tune 85 = .ok (.bipush (-2), 2) := by decide +kernel
theorem dX4_tune_87 : decode cX4_tune 87 = .ok (.ireturn, 1) := by decide +kernel
theorem dX4_tune_88 : decode cX4_tune 88 = .ok (.iload_n 2, 1) := by decide +kernel
theorem dX4_tune_89 : decode cX4_tune 89 = .ok (.ifCond .ne 16, 3) := by decide +kernel
theorem dX4_tune_92 : decode cX4_tune 92 = .ok (.aload_n 0, 1) := by decide +kernel
theorem dX4_tune_93 : decode cX4_tune 93 = .ok (.getfield 18, 3) := by decide +kernel
theorem dX4_tune_96 : decode cX4_tune 96 = .ok (.iload_n 1, 1) := by decide +kernel
theorem dX4_tune_97 : decode cX4_tune 97 = .ok (.aaload, 1) := by decide +kernel
theorem dX4_tune_98 : decode cX4_tune 98 = .ok (.iload_n 3, 1) := by decide +kernel
theorem dX4_tune_99 : decode cX4_tune 99 = .ok (.putfield 144, 3) := by decide +kernel
theorem dX4_tune_102 : decode cX4_tune 102 = .ok (.goto 13, 3) := by decide +kernel
theorem dX4_tune_105 : decode cX4_tune 105 = .ok (.aload_n 0, 1) := by decide +kernel
theorem dX4_tune_106 : decode cX4_tune 106 = .ok (.getfield 18, 3) := by decide +kernel
theorem dX4_tune_109 : decode cX4_tune 109 = .ok (.iload_n 1, 1) := by decide +kernel
theorem dX4_tune_110 : decode cX4_tune 110 = .ok (.aaload, 1) := by decide +kernel
theorem dX4_tune_111 : decode cX4_tune 111 = .ok (.iload_n 3, 1) := by decide +kernel
theorem dX4_tune_112 : decode cX4_tune 112 = .ok (.putfield 147, 3) := by decide +kernel
theorem dX4_tune_115 : decode cX4_tune 115 = .ok (.iload 5, 2) := by decide +kernel
theorem dX4_tune_117 : decode cX4_tune 117 = .ok (.ireturn, 1) := by decide +kernel
theorem dX4_device_0 : decode cX4_device 0 = .ok (.aload_n 0, 1) := by decide +kernel
theorem dX4_device_1 : decode cX4_device 1 = .ok (.iload_n 1, 1) := by decide +kernel
theorem dX4_device_2 : decode cX4_device 2 = .ok (.invokevirtual 102, 3) := by decide +kernel
theorem dX4_device_5 : decode cX4_device 5 = .ok (.ifCond .ne 5, 3) := by decide +kernel
theorem dX4_device_8 : decode cX4_device 8 = .ok (.iconst (-1), 1) := by decide +kernel
theorem dX4_device_9 : decode cX4_device 9 = .ok (.ireturn, 1) := by decide +kernel
theorem dX4_device_10 : decode cX4_device 10 = .ok (.iload_n 2, 1) := by decide +kernel
theorem dX4_device_11 : decode cX4_device 11 = .ok (.iconst 5, 1) := by decide +kernel
theorem dX4_device_12 : decode cX4_device 12 = .ok (.if_icmp .ne 20, 3) := by decide +kernel
theorem dX4_device_15 : decode cX4_device 15 = .ok (.iload_n 1, 1) := by decide +kernel
theorem dX4_device_16 : decode cX4_device 16 = .ok (.aload_n 0, 1) := by decide +kernel
theorem dX4_device_17 : decode cX4_device 17 = .ok (.getfield 89, 3) := by decide +kernel
theorem dX4_device_20 : decode cX4_device 20 = .ok (.if_icmp .ne 7, 3) := by decide +kernel
theorem dX4_device_23 : decode cX4_device 23 = .ok (.iconst 1, 1) := by decide +kernel
theorem dX4_device_24 : decode cX4_device 24 = .ok (.goto 4, 3) := by decide +kernel
theorem dX4_device_27 : decode cX4_device 27 = .ok (.iconst 0, 1) := by decide +kernel
theorem dX4_device_28 : decode cX4_device 28 = .ok (.invokestatic 134, 3) := by decide +kernel
theorem dX4_device_31 : decode cX4_device 31 = .ok (.ireturn, 1) := by decide +kernel
theorem dX4_device_32 : decode cX4_device 32 = .ok (.iload_n 2, 1) := by decide +kernel
theorem dX4_device_33 : decode cX4_device 33 = .ok (.bipush 9, 2) := by decide +kernel
theorem dX4_device_35 : decode cX4_device 35 = .ok (.if_icmp .ge 16, 3) := by decide +kernel
theorem dX4_device_38 : decode cX4_device 38 = .ok (.aload_n 0, 1) := by decide +kernel
theorem dX4_device_39 : decode cX4_device 39 = .ok (.getfield 18, 3) := by decide +kernel
theorem dX4_device_42 : decode cX4_device 42 = .ok (.iload_n 1, 1) := by decide +kernel
theorem dX4_device_43 : decode cX4_device 43 = .ok (.aaload, 1) := by decide +kernel
theorem dX4_device_44 : decode cX4_device 44 = .ok (.iload_n 2, 1) := by decide +kernel
theorem dX4_device_45 : decode cX4_device 45 = .ok (.invokevirtual 150, 3) := by decide +kernel
theorem dX4_device_48 : decode cX4_device 48 = .ok (.goto 17, 3) := by decide +kernel
theorem dX4_device_51 : decode cX4_device 51 = .ok (.aload_n 0, 1) := by decide +kernel
theorem dX4_device_52 : decode cX4_device 52 = .ok (.getfield 18, 3) := by decide +kernel
theorem dX4_device_55 : decode cX4_device 55 = .ok (.iload_n 1, 1) := by decide +kernel
theorem dX4_device_56 : decode cX4_device 56 = .ok (.aaload, 1) := by decide +kernel
theorem dX4_device_57 : decode cX4_device 57 = .ok (.iload_n 2, 1) := by decide +kernel
theorem dX4_device_58 : decode cX4_device 58 = .ok (.aload_n 0, 1) := by decide +kernel
theorem dX4_device_59 : decode cX4_device 59 = .ok (.getfield 70, 3) := by decide +kernel
theorem dX4_device_62 : decode cX4_device 62 = .ok (.invokevirtual 153, 3) := by decide +kernel
theorem dX4_device_65 : decode cX4_device 65 = .ok (.ireturn, 1) := by decide +kernel
theorem dX4_row_0 : decode cX4_row 0 = .ok (.aload_n 0, 1) := by decide +kernel
theorem dX4_row_1 : decode cX4_row 1 = .ok (.iload_n 1, 1) := by decide +kernel
theorem dX4_row_2 : decode cX4_row 2 = .ok (.invokevirtual 102, 3) := by decide +kernel
theorem dX4_row_5 : decode cX4_row 5 = .ok (.ifCond .eq 16, 3) := by decide +kernel
theorem dX4_row_8 : decode cX4_row 8 = .ok (.iload_n 2, 1) := by decide +kernel
theorem dX4_row_9 : decode cX4_row 9 = .ok (.ifCond .lt 12, 3) := by decide +kernel
theorem dX4_row_12 : decode cX4_row 12 = .ok (.iload_n 2, 1) := by decide +kernel
theorem dX4_row_13 : decode cX4_row 13 = .ok (.iconst 1, 1) := by decide +kernel
theorem dX4_row_14 : decode cX4_row 14 = .ok (.if_icmp .gt 7, 3) := by decide +kernel
theorem dX4_row_17 : decode cX4_row 17 = .ok (.iload_n 3, 1) := by decide +kernel
theorem dX4_row_18 : decode cX4_row 18 = .ok (.ifCond .ge 5, 3) := by decide +kernel
theorem dX4_row_21 : decode cX4_row 21 = .ok (.iconst (-1), 1) := by decide +kernel
theorem dX4_row_22 : decode cX4_row 22 = .ok (.ireturn, 1) := by decide +kernel
theorem dX4_row_23 : decode cX4_row 23 = .ok (.iload_n 2, 1) := by decide +kernel
theorem dX4_row_24 : decode cX4_row 24 = .ok (.ifCond .ne 19, 3) := by decide +kernel
theorem dX4_row_27 : decode cX4_row 27 = .ok (.aload_n 0, 1) := by decide +kernel
theorem dX4_row_28 : decode cX4_row 28 = .ok (.getfield 18, 3) := by decide +kernel
theorem dX4_row_31 : decode cX4_row 31 = .ok (.iload_n 1, 1) := by decide +kernel
theorem dX4_row_32 : decode cX4_row 32 = .ok (.aaload, 1) := by decide +kernel
theorem dX4_row_33 : decode cX4_row 33 = .ok (.getfield 106, 3) := by decide +kernel
theorem dX4_row_36 : decode cX4_row 36 = .ok (.iload_n 3, 1) := by decide +kernel
theorem dX4_row_37 : decode cX4_row 37 = .ok (.invokevirtual 157, 3) := by decide +kernel
theorem dX4_row_40 : decode cX4_row 40 = .ok (.goto 16, 3) := by decide +kernel
theorem dX4_row_43 : decode cX4_row 43 = .ok (.aload_n 0, 1) := by decide +kernel
theorem dX4_row_44 : decode cX4_row 44 = .ok (.getfield 18, 3) := by decide +kernel
theorem dX4_row_47 : decode cX4_row 47 = .ok (.iload_n 1, 1) := by decide +kernel
theorem dX4_row_48 : decode cX4_row 48 = .ok (.aaload, 1) := by decide +kernel
theorem dX4_row_49 : decode cX4_row 49 = .ok (.getfield 113, 3) := by decide +kernel
theorem dX4_row_52 : decode cX4_row 52 = .ok (.iload_n 3, 1) := by decide +kernel
theorem dX4_row_53 : decode cX4_row 53 = .ok (.invokevirtual 157, 3) := by decide +kernel
theorem dX4_row_56 : decode cX4_row 56 = .ok (.ireturn, 1) := by decide +kernel
theorem dX4_bus_0 : decode cX4_bus 0 = .ok (.iload_n 1, 1) := by decide +kernel
theorem dX4_bus_1 : decode cX4_bus 1 = .ok (.tableswitch 105 0 8 #[51, 56, 61, 66, 74, 79, 87, 92, 97], 51) := by decide +kernel
theorem dX4_bus_52 : decode cX4_bus 52 = .ok (.aload_n 0, 1) := by decide +kernel
theorem dX4_bus_53 : decode cX4_bus 53 = .ok (.getfield 89, 3) := by decide +kernel
theorem dX4_bus_56 : decode cX4_bus 56 = .ok (.ireturn, 1) := by decide +kernel
theorem dX4_bus_57 : decode cX4_bus 57 = .ok (.aload_n 0, 1) := by decide +kernel
theorem dX4_bus_58 : decode cX4_bus 58 = .ok (.invokevirtual 160, 3) := by decide +kernel
theorem dX4_bus_61 : decode cX4_bus 61 = .ok (.ireturn, 1) := by decide +kernel
theorem dX4_bus_62 : decode cX4_bus 62 = .ok (.aload_n 0, 1) := by decide +kernel
theorem dX4_bus_63 : decode cX4_bus 63 = .ok (.getfield 79, 3) := by decide +kernel
theorem dX4_bus_66 : decode cX4_bus 66 = .ok (.ireturn, 1) := by decide +kernel
theorem dX4_bus_67 : decode cX4_bus 67 = .ok (.aload_n 0, 1) := by decide +kernel
theorem dX4_bus_68 : decode cX4_bus 68 = .ok (.getfield 98, 3) := by decide +kernel
theorem dX4_bus_71 : decode cX4_bus 71 = .ok (.invokestatic 134, 3) := by decide +kernel
theorem dX4_bus_74 : decode cX4_bus 74 = .ok (.ireturn, 1) := by decide +kernel
theorem dX4_bus_75 : decode cX4_bus 75 = .ok (.aload_n 0, 1) := by decide +kernel
theorem dX4_bus_76 : decode cX4_bus 76 = .ok (.getfield 70, 3) := by decide +kernel
theorem dX4_bus_79 : decode cX4_bus 79 = .ok (.ireturn, 1) := by decide +kernel
theorem dX4_bus_80 : decode cX4_bus 80 = .ok (.aload_n 0, 1) := by decide +kernel
theorem dX4_bus_81 : decode cX4_bus 81 = .ok (.invokevirtual 163, 3) := by decide +kernel
theorem dX4_bus_84 : decode cX4_bus 84 = .ok (.invokestatic 134, 3) := by decide +kernel
theorem dX4_bus_87 : decode cX4_bus 87 = .ok (.ireturn, 1) := by decide +kernel
theorem dX4_bus_88 : decode cX4_bus 88 = .ok (.aload_n 0, 1) := by decide +kernel
theorem dX4_bus_89 : decode cX4_bus 89 = .ok (.invokevirtual 166, 3) := by decide +kernel
theorem dX4_bus_92 : decode cX4_bus 92 = .ok (.ireturn, 1) := by decide +kernel
theorem dX4_bus_93 : decode cX4_bus 93 = .ok (.aload_n 0, 1) := by decide +kernel
theorem dX4_bus_94 : decode cX4_bus 94 = .ok (.getfield 63, 3) := by decide +kernel
theorem dX4_bus_97 : decode cX4_bus 97 = .ok (.ireturn, 1) := by decide +kernel
theorem dX4_bus_98 : decode cX4_bus 98 = .ok (.aload_n 0, 1) := by decide +kernel
theorem dX4_bus_99 : decode cX4_bus 99 = .ok (.getfield 10, 3) := by decide +kernel
theorem dX4_bus_102 : decode cX4_bus 102 = .ok (.getfield 169, 3) := by decide +kernel
theorem dX4_bus_105 : decode cX4_bus 105 = .ok (.ireturn, 1) := by decide +kernel
theorem dX4_bus_106 : decode cX4_bus 106 = .ok (.iconst (-1), 1) := by decide +kernel
theorem dX4_bus_107 : decode cX4_bus 107 = .ok (.ireturn, 1) := by decide +kernel
theorem dX4_sum_0 : decode cX4_sum 0 = .ok (.iload_n 1, 1) := by decide +kernel
theorem dX4_sum_1 : decode cX4_sum 1 = .ok (.ifCond .lt 9, 3) := by decide +kernel
theorem dX4_sum_4 : decode cX4_sum 4 = .ok (.iload_n 1, 1) := by decide +kernel
theorem dX4_sum_5 : decode cX4_sum 5 = .ok (.bipush 8, 2) := by decide +kernel
theorem dX4_sum_7 : decode cX4_sum 7 = .ok (.if_icmp .lt 5, 3) := by decide +kernel
theorem dX4_sum_10 : decode cX4_sum 10 = .ok (.iconst (-1), 1) := by decide +kernel
theorem dX4_sum_11 : decode cX4_sum 11 = .ok (.ireturn, 1) := by decide +kernel
theorem dX4_sum_12 : decode cX4_sum 12 = .ok (.aload_n 0, 1) := by decide +kernel
theorem dX4_sum_13 : decode cX4_sum 13 = .ok (.getfield 30, 3) := by decide +kernel
theorem dX4_sum_16 : decode cX4_sum 16 = .ok (.iload_n 1, 1) := by decide +kernel
theorem dX4_sum_17 : decode cX4_sum 17 = .ok (.iaload, 1) := by decide +kernel
theorem dX4_sum_18 : decode cX4_sum 18 = .ok (.ireturn, 1) := by decide +kernel
theorem dX4_log_0 : decode cX4_log 0 = .ok (.iload_n 1, 1) := by decide +kernel
theorem dX4_log_1 : decode cX4_log 1 = .ok (.iconst (-1), 1) := by decide +kernel
theorem dX4_log_2 : decode cX4_log 2 = .ok (.if_icmp .lt 12, 3) := by decide +kernel
theorem dX4_log_5 : decode cX4_log 5 = .ok (.iload_n 2, 1) := by decide +kernel
theorem dX4_log_6 : decode cX4_log 6 = .ok (.ifCond .lt 8, 3) := by decide +kernel
theorem dX4_log_9 : decode cX4_log 9 = .ok (.iload_n 2, 1) := by decide +kernel
theorem dX4_log_10 : decode cX4_log 10 = .ok (.iconst 2, 1) := by decide +kernel
theorem dX4_log_11 : decode cX4_log 11 = .ok (.if_icmp .le 5, 3) := by decide +kernel
theorem dX4_log_14 : decode cX4_log 14 = .ok (.iconst (-1), 1) := by decide +kernel
theorem dX4_log_15 : decode cX4_log 15 = .ok (.ireturn, 1) := by decide +kernel
theorem dX4_log_16 : decode cX4_log 16 = .ok (.iload_n 1, 1) := by decide +kernel
theorem dX4_log_17 : decode cX4_log 17 = .ok (.iconst (-1), 1) := by decide +kernel
theorem dX4_log_18 : decode cX4_log 18 = .ok (.if_icmp .ne 13, 3) := by decide +kernel
theorem dX4_log_21 : decode cX4_log 21 = .ok (.aload_n 0, 1) := by decide +kernel
theorem dX4_log_22 : decode cX4_log 22 = .ok (.getfield 26, 3) := by decide +kernel
theorem dX4_log_25 : decode cX4_log 25 = .ok (.getfield 172, 3) := by decide +kernel
theorem dX4_log_28 : decode cX4_log 28 = .ok (.goto 12, 3) := by decide +kernel
theorem dX4_log_31 : decode cX4_log 31 = .ok (.aload_n 0, 1) := by decide +kernel
theorem dX4_log_32 : decode cX4_log 32 = .ok (.getfield 26, 3) := by decide +kernel
theorem dX4_log_35 : decode cX4_log 35 = .ok (.iload_n 1, 1) := by decide +kernel
theorem dX4_log_36 : decode cX4_log 36 = .ok (.iload_n 2, 1) := by decide +kernel
theorem dX4_log_37 : decode cX4_log 37 = .ok (.invokevirtual 175, 3) := by decide +kernel
theorem dX4_log_40 : decode cX4_log 40 = .ok (.ireturn, 1) := by decide +kernel
theorem dX4_beginWith_0 : decode cX4_beginWith 0 = .ok (.aload_n 0, 1) := by decide +kernel
theorem dX4_beginWith_1 : decode cX4_beginWith 1 = .ok (.iload_n 2, 1) := by decide +kernel
theorem dX4_beginWith_2 : decode cX4_beginWith 2 = .ok (.putfield 63, 3) := by decide +kernel
theorem dX4_beginWith_5 : decode cX4_beginWith 5 = .ok (.iconst 0, 1) := by decide +kernel
theorem dX4_beginWith_6 : decode cX4_beginWith 6 = .ok (.istore_n 3, 1) := by decide +kernel
theorem dX4_beginWith_7 : decode cX4_beginWith 7 = .ok (.iload_n 3, 1) := by decide +kernel
theorem dX4_beginWith_8 : decode cX4_beginWith 8 = .ok (.aload_n 0, 1) := by decide +kernel
theorem dX4_beginWith_9 : decode cX4_beginWith 9 = .ok (.getfield 63, 3) := by decide +kernel
theorem dX4_beginWith_12 : decode cX4_beginWith 12 = .ok (.if_icmp .ge 22, 3) := by decide +kernel
theorem dX4_beginWith_15 : decode cX4_beginWith 15 = .ok (.aload_n 0, 1) := by decide +kernel
theorem dX4_beginWith_16 : decode cX4_beginWith 16 = .ok (.getfield 18, 3) := by decide +kernel
theorem dX4_beginWith_19 : decode cX4_beginWith 19 = .ok (.iload_n 3, 1) := by decide +kernel
theorem dX4_beginWith_20 : decode cX4_beginWith 20 = .ok (.aaload, 1) := by decide +kernel
theorem dX4_beginWith_21 : decode cX4_beginWith 21 = .ok (.aload_n 1, 1) := by decide +kernel
theorem dX4_beginWith_22 : decode cX4_beginWith 22 = .ok (.iload_n 3, 1) := by decide +kernel
theorem dX4_beginWith_23 : decode cX4_beginWith 23 = .ok (.iconst 5, 1) := by decide +kernel
theorem dX4_beginWith_24 : decode cX4_beginWith 24 = .ok (.imul, 1) := by decide +kernel
theorem dX4_beginWith_25 : decode cX4_beginWith 25 = .ok (.invokevirtual 178, 3) := by decide +kernel
theorem dX4_beginWith_28 : decode cX4_beginWith 28 = .ok (.iinc 3 1, 3) := by decide +kernel
theorem dX4_beginWith_31 : decode cX4_beginWith 31 = .ok (.goto (-24), 3) := by decide +kernel
theorem dX4_beginWith_34 : decode cX4_beginWith 34 = .ok (.aload_n 0, 1) := by decide +kernel
theorem dX4_beginWith_35 : decode cX4_beginWith 35 = .ok (.getfield 26, 3) := by decide +kernel
theorem dX4_beginWith_38 : decode cX4_beginWith 38 = .ok (.invokevirtual 181, 3) := by decide +kernel
theorem dX4_beginWith_41 : decode cX4_beginWith 41 = .ok (.iconst 0, 1) := by decide +kernel
theorem dX4_beginWith_42 : decode cX4_beginWith 42 = .ok (.istore_n 3, 1) := by decide +kernel
theorem dX4_beginWith_43 : decode cX4_beginWith 43 = .ok (.iload_n 3, 1) := by decide +kernel
theorem dX4_beginWith_44 : decode cX4_beginWith 44 = .ok (.bipush 8, 2) := by decide +kernel
theorem dX4_beginWith_46 : decode cX4_beginWith 46 = .ok (.if_icmp .ge 16, 3) := by decide +kernel
theorem dX4_beginWith_49 : decode cX4_beginWith 49 = .ok (.aload_n 0, 1) := by decide +kernel
theorem dX4_beginWith_50 : decode cX4_beginWith 50 = .ok (.getfield 30, 3) := by decide +kernel
theorem dX4_beginWith_53 : decode cX4_beginWith 53 = .ok (.iload_n 3, 1) := by decide +kernel
theorem dX4_beginWith_54 : decode cX4_beginWith 54 = .ok (.iconst 0, 1) := by decide +kernel
theorem dX4_beginWith_55 : decode cX4_beginWith 55 = .ok (.iastore, 1) := by decide +kernel
theorem dX4_beginWith_56 : decode cX4_beginWith 56 = .ok (.iinc 3 1, 3) := by decide +kernel
theorem dX4_beginWith_59 : decode cX4_beginWith 59 = .ok (.goto (-16), 3) := by decide +kernel
theorem dX4_beginWith_62 : decode cX4_beginWith 62 = .ok (.aload_n 0, 1) := by decide +kernel
theorem dX4_beginWith_63 : decode cX4_beginWith 63 = .ok (.iconst 0, 1) := by decide +kernel
theorem dX4_beginWith_64 : decode cX4_beginWith 64 = .ok (.putfield 70, 3) := by decide +kernel
theorem dX4_beginWith_67 : decode cX4_beginWith 67 = .ok (.aload_n 0, 1) := by decide +kernel
theorem dX4_beginWith_68 : decode cX4_beginWith 68 = .ok (.iconst 0, 1) := by decide +kernel
theorem dX4_beginWith_69 : decode cX4_beginWith 69 = .ok (.putfield 79, 3) := by decide +kernel
theorem dX4_beginWith_72 : decode cX4_beginWith 72 = .ok (.aload_n 0, 1) := by decide +kernel
theorem dX4_beginWith_73 : decode cX4_beginWith 73 = .ok (.bipush (-4), 2) := by decide +kernel
theorem dX4_beginWith_75 : decode cX4_beginWith 75 = .ok (.putfield 89, 3) := by decide +kernel
theorem dX4_beginWith_78 : decode cX4_beginWith 78 = .ok (.aload_n 0, 1) := by decide +kernel
theorem dX4_beginWith_79 : decode cX4_beginWith 79 = .ok (.bipush (-4), 2) := by decide +kernel
theorem dX4_beginWith_81 : decode cX4_beginWith 81 = .ok (.putfield 183, 3) := by decide +kernel
theorem dX4_beginWith_84 : decode cX4_beginWith 84 = .ok (.aload_n 0, 1) := by decide +kernel
theorem dX4_beginWith_85 : decode cX4_beginWith 85 = .ok (.iconst 0, 1) := by decide +kernel
theorem dX4_beginWith_86 : decode cX4_beginWith 86 = .ok (.putfield 98, 3) := by decide +kernel
theorem dX4_beginWith_89 : decode cX4_beginWith 89 = .ok (.return_, 1) := by decide +kernel
theorem dX4_isDevice_0 : decode cX4_isDevice 0 = .ok (.iload_n 1, 1) := by decide +kernel
theorem dX4_isDevice_1 : decode cX4_isDevice 1 = .ok (.ifCond .lt 15, 3) := by decide +kernel
theorem dX4_isDevice_4 : decode cX4_isDevice 4 = .ok (.iload_n 1, 1) := by decide +kernel
theorem dX4_isDevice_5 : decode cX4_isDevice 5 = .ok (.aload_n 0, 1) := by decide +kernel
theorem dX4_isDevice_6 : decode cX4_isDevice 6 = .ok (.getfield 63, 3) := by decide +kernel
theorem dX4_isDevice_9 : decode cX4_isDevice 9 = .ok (.if_icmp .ge 7, 3) := by decide +kernel
theorem dX4_isDevice_12 : decode cX4_isDevice 12 = .ok (.iconst 1, 1) := by decide +kernel
theorem dX4_isDevice_13 : decode cX4_isDevice 13 = .ok (.goto 4, 3) := by decide +kernel
theorem dX4_isDevice_16 : decode cX4_isDevice 16 = .ok (.iconst 0, 1) := by decide +kernel
theorem dX4_isDevice_17 : decode cX4_isDevice 17 = .ok (.ireturn, 1) := by decide +kernel
theorem dX4_bit_0 : decode cX4_bit 0 = .ok (.iload_n 0, 1) := by decide +kernel
theorem dX4_bit_1 : decode cX4_bit 1 = .ok (.ifCond .eq 7, 3) := by decide +kernel
theorem dX4_bit_4 : decode cX4_bit 4 = .ok (.iconst 1, 1) := by decide +kernel
theorem dX4_bit_5 : decode cX4_bit 5 = .ok (.goto 4, 3) := by decide +kernel
theorem dX4_bit_8 : decode cX4_bit 8 = .ok (.iconst 0, 1) := by decide +kernel
theorem dX4_bit_9 : decode cX4_bit 9 = .ok (.ireturn, 1) := by decide +kernel
theorem dX4_passTicks_0 : decode cX4_passTicks 0 = .ok (.aload_n 0, 1) := by decide +kernel
theorem dX4_passTicks_1 : decode cX4_passTicks 1 = .ok (.dup, 1) := by decide +kernel
theorem dX4_passTicks_2 : decode cX4_passTicks 2 = .ok (.getfield 70, 3) := by decide +kernel
theorem dX4_passTicks_5 : decode cX4_passTicks 5 = .ok (.iload_n 1, 1) := by decide +kernel
theorem dX4_passTicks_6 : decode cX4_passTicks 6 = .ok (.iadd, 1) := by decide +kernel
theorem dX4_passTicks_7 : decode cX4_passTicks 7 = .ok (.putfield 70, 3) := by decide +kernel
theorem dX4_passTicks_10 : decode cX4_passTicks 10 = .ok (.iconst 0, 1) := by decide +kernel
theorem dX4_passTicks_11 : decode cX4_passTicks 11 = .ok (.istore_n 2, 1) := by decide +kernel
theorem dX4_passTicks_12 : decode cX4_passTicks 12 = .ok (.iload_n 2, 1) := by decide +kernel
theorem dX4_passTicks_13 : decode cX4_passTicks 13 = .ok (.aload_n 0, 1) := by decide +kernel
theorem dX4_passTicks_14 : decode cX4_passTicks 14 = .ok (.getfield 63, 3) := by decide +kernel
theorem dX4_passTicks_17 : decode cX4_passTicks 17 = .ok (.if_icmp .ge 44, 3) := by decide +kernel
theorem dX4_passTicks_20 : decode cX4_passTicks 20 = .ok (.aload_n 0, 1) := by decide +kernel
theorem dX4_passTicks_21 : decode cX4_passTicks 21 = .ok (.getfield 18, 3) := by decide +kernel
theorem dX4_passTicks_24 : decode cX4_passTicks 24 = .ok (.iload_n 2, 1) := by decide +kernel
theorem dX4_passTicks_25 : decode cX4_passTicks 25 = .ok (.aaload, 1) := by decide +kernel
theorem dX4_passTicks_26 : decode cX4_passTicks 26 = .ok (.aload_n 0, 1) := by decide +kernel
theorem dX4_passTicks_27 : decode cX4_passTicks 27 = .ok (.getfield 70, 3) := by decide +kernel
theorem dX4_passTicks_30 : decode cX4_passTicks 30 = .ok (.invokevirtual 186, 3) := by decide +kernel
theorem dX4_passTicks_33 : decode cX4_passTicks 33 = .ok (.ifCond .eq 22, 3) := by decide +kernel
theorem dX4_passTicks_36 : decode cX4_passTicks 36 = .ok (.aload_n 0, 1) := by decide +kernel
theorem dX4_passTicks_37 : decode cX4_passTicks 37 = .ok (.getfield 18, 3) := by decide +kernel
theorem dX4_passTicks_40 : decode cX4_passTicks 40 = .ok (.iload_n 2, 1) := by decide +kernel
theorem dX4_passTicks_41 : decode cX4_passTicks 41 = .ok (.aaload, 1) := by decide +kernel
theorem dX4_passTicks_42 : decode cX4_passTicks 42 = .ok (.invokevirtual 189, 3) := by decide +kernel
theorem dX4_passTicks_45 : decode cX4_passTicks 45 = .ok (.aload_n 0, 1) := by decide +kernel
theorem dX4_passTicks_46 : decode cX4_passTicks 46 = .ok (.getfield 30, 3) := by decide +kernel
theorem dX4_passTicks_49 : decode cX4_passTicks 49 = .ok (.iconst 3, 1) := by decide +kernel
theorem dX4_passTicks_50 : decode cX4_passTicks 50 = .ok (.dup2, 1) := by decide +kernel
theorem dX4_passTicks_51 : decode cX4_passTicks 51 = .ok (.iaload, 1) := by decide +kernel
theorem dX4_passTicks_52 : decode cX4_passTicks 52 = .ok (.iconst 1, 1) := by decide +kernel
theorem dX4_passTicks_53 : decode cX4_passTicks 53 = .ok (.iadd, 1) := by decide +kernel
theorem dX4_passTicks_54 : decode cX4_passTicks 54 = .ok (.iastore, 1) := by decide +kernel
theorem dX4_passTicks_55 : decode cX4_passTicks 55 = .ok (.iinc 2 1, 3) := by decide +kernel
theorem dX4_passTicks_58 : decode cX4_passTicks 58 = .ok (.goto (-46), 3) := by decide +kernel
theorem dX4_passTicks_61 : decode cX4_passTicks 61 = .ok (.return_, 1) := by decide +kernel
theorem dX4_greatestPace_0 : decode cX4_greatestPace 0 = .ok (.iconst 0, 1) := by decide +kernel
theorem dX4_greatestPace_1 : decode cX4_greatestPace 1 = .ok (.istore_n 1, 1) := by decide +kernel
theorem dX4_greatestPace_2 : decode cX4_greatestPace 2 = .ok (.iconst 0, 1) := by decide +kernel
theorem dX4_greatestPace_3 : decode cX4_greatestPace 3 = .ok (.istore_n 2, 1) := by decide +kernel
theorem dX4_greatestPace_4 : decode cX4_greatestPace 4 = .ok (.iload_n 2, 1) := by decide +kernel
theorem dX4_greatestPace_5 : decode cX4_greatestPace 5 = .ok (.aload_n 0, 1) := by decide +kernel
theorem dX4_greatestPace_6 : decode cX4_greatestPace 6 = .ok (.getfield 63, 3) := by decide +kernel
theorem dX4_greatestPace_9 : decode cX4_greatestPace 9 = .ok (.if_icmp .ge 23, 3) := by decide +kernel
theorem dX4_greatestPace_12 : decode cX4_greatestPace 12 = .ok (.iload_n 1, 1) := by decide +kernel
theorem dX4_greatestPace_13 : decode cX4_greatestPace 13 = .ok (.aload_n 0, 1) := by decide +kernel
theorem dX4_greatestPace_14 : decode cX4_greatestPace 14 = .ok (.getfield 18, 3) := by decide +kernel
theorem dX4_greatestPace_17 : decode cX4_greatestPace 17 = .ok (.iload_n 2, 1) := by decide +kernel
theorem dX4_greatestPace_18 : decode cX4_greatestPace 18 = .ok (.aaload, 1) := by decide +kernel
theorem dX4_greatestPace_19 : decode cX4_greatestPace 19 = .ok (.getfield 144, 3) := by decide +kernel
theorem dX4_greatestPace_22 : decode cX4_greatestPace 22 = .ok (.invokestatic 192, 3) := by decide +kernel
theorem dX4_greatestPace_25 : decode cX4_greatestPace 25 = .ok (.istore_n 1, 1) := by decide +kernel
theorem dX4_greatestPace_26 : decode cX4_greatestPace 26 = .ok (.iinc 2 1, 3) := by decide +kernel
theorem dX4_greatestPace_29 : decode cX4_greatestPace 29 = .ok (.goto (-25), 3) := by decide +kernel
theorem dX4_greatestPace_32 : decode cX4_greatestPace 32 = .ok (.iload_n 1, 1) := by decide +kernel
theorem dX4_greatestPace_33 : decode cX4_greatestPace 33 = .ok (.ireturn, 1) := by decide +kernel
theorem dX4_sendAddress_0 : decode cX4_sendAddress 0 = .ok (.aload_n 0, 1) := by decide +kernel
theorem dX4_sendAddress_1 : decode cX4_sendAddress 1 = .ok (.iload_n 1, 1) := by decide +kernel
theorem dX4_sendAddress_2 : decode cX4_sendAddress 2 = .ok (.aload_n 0, 1) := by decide +kernel
theorem dX4_sendAddress_3 : decode cX4_sendAddress 3 = .ok (.getfield 18, 3) := by decide +kernel
theorem dX4_sendAddress_6 : decode cX4_sendAddress 6 = .ok (.iload_n 2, 1) := by decide +kernel
theorem dX4_sendAddress_7 : decode cX4_sendAddress 7 = .ok (.aaload, 1) := by decide +kernel
theorem dX4_sendAddress_8 : decode cX4_sendAddress 8 = .ok (.getfield 197, 3) := by decide +kernel
theorem dX4_sendAddress_11 : decode cX4_sendAddress 11 = .ok (.iadd, 1) := by decide +kernel
theorem dX4_sendAddress_12 : decode cX4_sendAddress 12 = .ok (.invokevirtual 66, 3) := by decide +kernel
theorem dX4_sendAddress_15 : decode cX4_sendAddress 15 = .ok (.aload_n 0, 1) := by decide +kernel
theorem dX4_sendAddress_16 : decode cX4_sendAddress 16 = .ok (.getfield 18, 3) := by decide +kernel
theorem dX4_sendAddress_19 : decode cX4_sendAddress 19 = .ok (.iload_n 2, 1) := by decide +kernel
theorem dX4_sendAddress_20 : decode cX4_sendAddress 20 = .ok (.aaload, 1) := by decide +kernel
theorem dX4_sendAddress_21 : decode cX4_sendAddress 21 = .ok (.getfield 200, 3) := by decide +kernel
theorem dX4_sendAddress_24 : decode cX4_sendAddress 24 = .ok (.bipush 31, 2) := by decide +kernel
theorem dX4_sendAddress_26 : decode cX4_sendAddress 26 = .ok (.if_icmp .eq 19, 3) := by decide +kernel
theorem dX4_sendAddress_29 : decode cX4_sendAddress 29 = .ok (.aload_n 0, 1) := by decide +kernel
theorem dX4_sendAddress_30 : decode cX4_sendAddress 30 = .ok (.bipush 96, 2) := by decide +kernel
theorem dX4_sendAddress_32 : decode cX4_sendAddress 32 = .ok (.aload_n 0, 1) := by decide +kernel
theorem dX4_sendAddress_33 : decode cX4_sendAddress 33 = .ok (.getfield 18, 3) := by decide +kernel
theorem dX4_sendAddress_36 : decode cX4_sendAddress 36 = .ok (.iload_n 2, 1) := by decide +kernel
theorem dX4_sendAddress_37 : decode cX4_sendAddress 37 = .ok (.aaload, 1) := by decide +kernel
theorem dX4_sendAddress_38 : decode cX4_sendAddress 38 = .ok (.getfield 200, 3) := by decide +kernel
theorem dX4_sendAddress_41 : decode cX4_sendAddress 41 = .ok (.iadd, 1) := by decide +kernel
theorem dX4_sendAddress_42 : decode cX4_sendAddress 42 = .ok (.invokevirtual 66, 3) := by decide +kernel
theorem dX4_sendAddress_45 : decode cX4_sendAddress 45 = .ok (.return_, 1) := by decide +kernel
theorem dX4_send_0 : decode cX4_send 0 = .ok (.aload_n 0, 1) := by decide +kernel
theorem dX4_send_1 : decode cX4_send 1 = .ok (.getfield 26, 3) := by decide +kernel
theorem dX4_send_4 : decode cX4_send 4 = .ok (.aload_n 0, 1) := by decide +kernel
theorem dX4_send_5 : decode cX4_send 5 = .ok (.getfield 70, 3) := by decide +kernel
theorem dX4_send_8 : decode cX4_send 8 = .ok (.iload_n 1, 1) := by decide +kernel
theorem dX4_send_9 : decode cX4_send 9 = .ok (.aload_n 0, 1) := by decide +kernel
theorem dX4_send_10 : decode cX4_send 10 = .ok (.getfield 79, 3) := by decide +kernel
theorem dX4_send_13 : decode cX4_send 13 = .ok (.invokevirtual 203, 3) := by decide +kernel
theorem dX4_send_16 : decode cX4_send 16 = .ok (.aload_n 0, 1) := by decide +kernel
theorem dX4_send_17 : decode cX4_send 17 = .ok (.getfield 30, 3) := by decide +kernel
theorem dX4_send_20 : decode cX4_send 20 = .ok (.iconst 0, 1) := by decide +kernel
theorem dX4_send_21 : decode cX4_send 21 = .ok (.dup2, 1) := by decide +kernel
theorem dX4_send_22 : decode cX4_send 22 = .ok (.iaload, 1) := by decide +kernel
theorem dX4_send_23 : decode cX4_send 23 = .ok (.iconst 1, 1) := by decide +kernel
theorem dX4_send_24 : decode cX4_send 24 = .ok (.iadd, 1) := by decide +kernel
theorem dX4_send_25 : decode cX4_send 25 = .ok (.iastore, 1) := by decide +kernel
theorem dX4_send_26 : decode cX4_send 26 = .ok (.aload_n 0, 1) := by decide +kernel
theorem dX4_send_27 : decode cX4_send 27 = .ok (.aload_n 0, 1) := by decide +kernel
theorem dX4_send_28 : decode cX4_send 28 = .ok (.invokevirtual 207, 3) := by decide +kernel
theorem dX4_send_31 : decode cX4_send 31 = .ok (.invokevirtual 76, 3) := by decide +kernel
theorem dX4_send_34 : decode cX4_send 34 = .ok (.iload_n 1, 1) := by decide +kernel
theorem dX4_send_35 : decode cX4_send 35 = .ok (.bipush 96, 2) := by decide +kernel
theorem dX4_send_37 : decode cX4_send 37 = .ok (.if_icmp .lt 11, 3) := by decide +kernel
theorem dX4_send_40 : decode cX4_send 40 = .ok (.aload_n 0, 1) := by decide +kernel
theorem dX4_send_41 : decode cX4_send 41 = .ok (.iload_n 1, 1) := by decide +kernel
theorem dX4_send_42 : decode cX4_send 42 = .ok (.bipush 96, 2) := by decide +kernel
theorem dX4_send_44 : decode cX4_send 44 = .ok (.isub, 1) := by decide +kernel
theorem dX4_send_45 : decode cX4_send 45 = .ok (.invokevirtual 210, 3) := by decide +kernel
theorem dX4_send_48 : decode cX4_send 48 = .ok (.aload_n 0, 1) := by decide +kernel
theorem dX4_send_49 : decode cX4_send 49 = .ok (.invokevirtual 95, 3) := by decide +kernel
theorem dX4_send_52 : decode cX4_send 52 = .ok (.iload_n 1, 1) := by decide +kernel
theorem dX4_send_53 : decode cX4_send 53 = .ok (.bipush 32, 2) := by decide +kernel
theorem dX4_send_55 : decode cX4_send 55 = .ok (.if_icmp .ge 11, 3) := by decide +kernel
theorem dX4_send_58 : decode cX4_send 58 = .ok (.aload_n 0, 1) := by decide +kernel
theorem dX4_send_59 : decode cX4_send 59 = .ok (.iload_n 1, 1) := by decide +kernel
theorem dX4_send_60 : decode cX4_send 60 = .ok (.invokevirtual 213, 3) := by decide +kernel
theorem dX4_send_63 : decode cX4_send 63 = .ok (.goto 62, 3) := by decide +kernel
theorem dX4_send_66 : decode cX4_send 66 = .ok (.iload_n 1, 1) := by decide +kernel
theorem dX4_send_67 : decode cX4_send 67 = .ok (.bipush 63, 2) := by decide +kernel
theorem dX4_send_69 : decode cX4_send 69 = .ok (.if_icmp .ge 14, 3) := by decide +kernel
theorem dX4_send_72 : decode cX4_send 72 = .ok (.aload_n 0, 1) := by decide +kernel
theorem dX4_send_73 : decode cX4_send 73 = .ok (.iload_n 1, 1) := by decide +kernel
theorem dX4_send_74 : decode cX4_send 74 = .ok (.bipush 32, 2) := by decide +kernel
theorem dX4_send_76 : decode cX4_send 76 = .ok (.isub, 1) := by decide +kernel
theorem dX4_send_77 : decode cX4_send 77 = .ok (.invokevirtual 216, 3) := by decide +kernel
theorem dX4_send_80 : decode cX4_send 80 = .ok (.goto 45, 3) := by decide +kernel
theorem dX4_send_83 : decode cX4_send 83 = .ok (.iload_n 1, 1) := by decide +kernel
theorem dX4_send_84 : decode cX4_send 84 = .ok (.bipush 63, 2) := by decide +kernel
theorem dX4_send_86 : decode cX4_send 86 = .ok (.if_icmp .ne 10, 3) := by decide +kernel
theorem dX4_send_89 : decode cX4_send 89 = .ok (.aload_n 0, 1) := by decide +kernel
theorem dX4_send_90 : decode cX4_send 90 = .ok (.invokevirtual 92, 3) := by decide +kernel
theorem dX4_send_93 : decode cX4_send 93 = .ok (.goto 32, 3) := by decide +kernel
theorem dX4_send_96 : decode cX4_send 96 = .ok (.iload_n 1, 1) := by decide +kernel
theorem dX4_send_97 : decode cX4_send 97 = .ok (.bipush 95, 2) := by decide +kernel
theorem dX4_send_99 : decode cX4_send 99 = .ok (.if_icmp .ge 14, 3) := by decide +kernel
theorem dX4_send_102 : decode cX4_send 102 = .ok (.aload_n 0, 1) := by decide +kernel
theorem dX4_send_103 : decode cX4_send 103 = .ok (.iload_n 1, 1) := by decide +kernel
theorem dX4_send_104 : decode cX4_send 104 = .ok (.bipush 64, 2) := by decide +kernel
theorem dX4_send_106 : decode cX4_send 106 = .ok (.isub, 1) := by decide +kernel
theorem dX4_send_107 : decode cX4_send 107 = .ok (.invokevirtual 219, 3) := by decide +kernel
theorem dX4_send_110 : decode cX4_send 110 = .ok (.goto 15, 3) := by decide +kernel
theorem dX4_send_113 : decode cX4_send 113 = .ok (.iload_n 1, 1) := by decide +kernel
theorem dX4_send_114 : decode cX4_send 114 = .ok (.bipush 95, 2) := by decide +kernel
theorem dX4_send_116 : decode cX4_send 116 = .ok (.if_icmp .ne 9, 3) := by decide +kernel
theorem dX4_send_119 : decode cX4_send 119 = .ok (.aload_n 0, 1) := by decide +kernel
theorem dX4_send_120 : decode cX4_send 120 = .ok (.bipush (-4), 2) := by decide +kernel
theorem dX4_send_122 : decode cX4_send 122 = .ok (.putfield 89, 3) := by decide +kernel
theorem dX4_send_125 : decode cX4_send 125 = .ok (.aload_n 0, 1) := by decide +kernel
theorem dX4_send_126 : decode cX4_send 126 = .ok (.iload_n 1, 1) := by decide +kernel
theorem dX4_send_127 : decode cX4_send 127 = .ok (.putfield 183, 3) := by decide +kernel
theorem dX4_send_130 : decode cX4_send 130 = .ok (.return_, 1) := by decide +kernel
theorem dX4_obeyPlain_0 : decode cX4_obeyPlain 0 = .ok (.iload_n 1, 1) := by decide +kernel
theorem dX4_obeyPlain_1 : decode cX4_obeyPlain 1 = .ok (.tableswitch 136 9 25 #[83, 136, 136, 136, 136, 136, 136, 136, 106, 136, 136, 106, 106, 136, 136, 90, 98], 83) := by decide +kernel
theorem dX4_obeyPlain_84 : decode cX4_obeyPlain 84 = .ok (.aload_n 0, 1) := by decide +kernel
theorem dX4_obeyPlain_85 : decode cX4_obeyPlain 85 = .ok (.invokevirtual 222, 3) := by decide +kernel
theorem dX4_obeyPlain_88 : decode cX4_obeyPlain 88 = .ok (.goto 88, 3) := by decide +kernel
theorem dX4_obeyPlain_91 : decode cX4_obeyPlain 91 = .ok (.aload_n 0, 1) := by decide +kernel
theorem dX4_obeyPlain_92 : decode cX4_obeyPlain 92 = .ok (.iconst 1, 1) := by decide +kernel
theorem dX4_obeyPlain_93 : decode cX4_obeyPlain 93 = .ok (.putfield 98, 3) := by decide +kernel
theorem dX4_obeyPlain_96 : decode cX4_obeyPlain 96 = .ok (.goto 80, 3) := by decide +kernel
theorem dX4_obeyPlain_99 : decode cX4_obeyPlain 99 = .ok (.aload_n 0, 1) := by decide +kernel
theorem dX4_obeyPlain_100 : decode cX4_obeyPlain 100 = .ok (.iconst 0, 1) := by decide +kernel
theorem dX4_obeyPlain_101 : decode cX4_obeyPlain 101 = .ok (.putfield 98, 3) := by decide +kernel
theorem dX4_obeyPlain_104 : decode cX4_obeyPlain 104 = .ok (.goto 72, 3) := by decide +kernel
theorem dX4_obeyPlain_107 : decode cX4_obeyPlain 107 = .ok (.iconst 0, 1) := by decide +kernel
theorem dX4_obeyPlain_108 : decode cX4_obeyPlain 108 = .ok (.istore_n 2, 1) := by decide +kernel
theorem dX4_obeyPlain_109 : decode cX4_obeyPlain 109 = .ok (.iload_n 2, 1) := by decide +kernel
theorem dX4_obeyPlain_110 : decode cX4_obeyPlain 110 = .ok (.aload_n 0, 1) := by decide +kernel
theorem dX4_obeyPlain_111 : decode cX4_obeyPlain 111 = .ok (.getfield 63, 3) := by decide +kernel
theorem dX4_obeyPlain_114 : decode cX4_obeyPlain 114 = .ok (.if_icmp .ge 20, 3) := by decide +kernel
theorem dX4_obeyPlain_117 : decode cX4_obeyPlain 117 = .ok (.aload_n 0, 1) := by decide +kernel
theorem dX4_obeyPlain_118 : decode cX4_obeyPlain 118 = .ok (.iload_n 1, 1) := by decide +kernel
theorem dX4_obeyPlain_119 : decode cX4_obeyPlain 119 = .ok (.aload_n 0, 1) := by decide +kernel
theorem dX4_obeyPlain_120 : decode cX4_obeyPlain 120 = .ok (.getfield 18, 3) := by decide +kernel
theorem dX4_obeyPlain_123 : decode cX4_obeyPlain 123 = .ok (.iload_n 2, 1) := by decide +kernel
theorem dX4_obeyPlain_124 : decode cX4_obeyPlain 124 = .ok (.aaload, 1) := by decide +kernel
theorem dX4_obeyPlain_125 : decode cX4_obeyPlain 125 = .ok (.invokevirtual 225, 3) := by decide +kernel
theorem dX4_obeyPlain_128 : decode cX4_obeyPlain 128 = .ok (.iinc 2 1, 3) := by decide +kernel
theorem dX4_obeyPlain_131 : decode cX4_obeyPlain 131 = .ok (.goto (-22), 3) := by decide +kernel
theorem dX4_obeyPlain_134 : decode cX4_obeyPlain 134 = .ok (.goto 42, 3) := by decide +kernel
theorem dX4_obeyPlain_137 : decode cX4_obeyPlain 137 = .ok (.iconst 0, 1) := by decide +kernel
theorem dX4_obeyPlain_138 : decode cX4_obeyPlain 138 = .ok (.istore_n 2, 1) := by decide +kernel
theorem dX4_obeyPlain_139 : decode cX4_obeyPlain 139 = .ok (.iload_n 2, 1) := by decide +kernel
theorem dX4_obeyPlain_140 : decode cX4_obeyPlain 140 = .ok (.aload_n 0, 1) := by decide +kernel
theorem dX4_obeyPlain_141 : decode cX4_obeyPlain 141 = .ok (.getfield 63, 3) := by decide +kernel
theorem dX4_obeyPlain_144 : decode cX4_obeyPlain 144 = .ok (.if_icmp .ge 32, 3) := by decide +kernel
theorem dX4_obeyPlain_147 : decode cX4_obeyPlain 147 = .ok (.aload_n 0, 1) := by decide +kernel
theorem dX4_obeyPlain_148 : decode cX4_obeyPlain 148 = .ok (.getfield 18, 3) := by decide +kernel
theorem dX4_obeyPlain_151 : decode cX4_obeyPlain 151 = .ok (.iload_n 2, 1) := by decide +kernel
theorem dX4_obeyPlain_152 : decode cX4_obeyPlain 152 = .ok (.aaload, 1) := by decide +kernel
theorem dX4_obeyPlain_153 : decode cX4_obeyPlain 153 = .ok (.getfield 229, 3) := by decide +kernel
theorem dX4_obeyPlain_156 : decode cX4_obeyPlain 156 = .ok (.ifCond .eq 14, 3) := by decide +kernel
theorem dX4_obeyPlain_159 : decode cX4_obeyPlain 159 = .ok (.aload_n 0, 1) := by decide +kernel
theorem dX4_obeyPlain_160 : decode cX4_obeyPlain 160 = .ok (.iload_n 1, 1) := by decide +kernel
theorem dX4_obeyPlain_161 : decode cX4_obeyPlain 161 = .ok (.aload_n 0, 1) := by decide +kernel
theorem dX4_obeyPlain_162 : decode cX4_obeyPlain 162 = .ok (.getfield 18, 3) := by decide +kernel
theorem dX4_obeyPlain_165 : decode cX4_obeyPlain 165 = .ok (.iload_n 2, 1) := by decide +kernel
theorem dX4_obeyPlain_166 : decode cX4_obeyPlain 166 = .ok (.aaload, 1) := by decide +kernel
theorem dX4_obeyPlain_167 : decode cX4_obeyPlain 167 = .ok (.invokevirtual 232, 3) := by decide +kernel
theorem dX4_obeyPlain_170 : decode cX4_obeyPlain 170 = .ok (.iinc 2 1, 3) := by decide +kernel
theorem dX4_obeyPlain_173 : decode cX4_obeyPlain 173 = .ok (.goto (-34), 3) := by decide +kernel
theorem dX4_obeyPlain_176 : decode cX4_obeyPlain 176 = .ok (.return_, 1) := by decide +kernel
theorem dX4_obeyAsOneOfAll_0 : decode cX4_obeyAsOneOfAll 0 = .ok (.iload_n 1, 1) := by decide +kernel
theorem dX4_obeyAsOneOfAll_1 : decode cX4_obeyAsOneOfAll 1 = .ok (.bipush 17, 2) := by decide +kernel
theorem dX4_obeyAsOneOfAll_3 : decode cX4_obeyAsOneOfAll 3 = .ok (.if_icmp .ne 11, 3) := by decide +kernel
theorem dX4_obeyAsOneOfAll_6 : decode cX4_obeyAsOneOfAll 6 = .ok (.aload_n 2, 1) := by decide +kernel
theorem dX4_obeyAsOneOfAll_7 : decode cX4_obeyAsOneOfAll 7 = .ok (.iconst 1, 1) := by decide +kernel
theorem dX4_obeyAsOneOfAll_8 : decode cX4_obeyAsOneOfAll 8 = .ok (.putfield 128, 3) := by decide +kernel
theorem dX4_obeyAsOneOfAll_11 : decode cX4_obeyAsOneOfAll 11 = .ok (.goto 22, 3) := by decide +kernel
theorem dX4_obeyAsOneOfAll_14 : decode cX4_obeyAsOneOfAll 14 = .ok (.iload_n 1, 1) := by decide +kernel
theorem dX4_obeyAsOneOfAll_15 : decode cX4_obeyAsOneOfAll 15 = .ok (.bipush 20, 2) := by decide +kernel
theorem dX4_obeyAsOneOfAll_17 : decode cX4_obeyAsOneOfAll 17 = .ok (.if_icmp .ne 10, 3) := by decide +kernel
theorem dX4_obeyAsOneOfAll_20 : decode cX4_obeyAsOneOfAll 20 = .ok (.aload_n 2, 1) := by decide +kernel
theorem dX4_obeyAsOneOfAll_21 : decode cX4_obeyAsOneOfAll 21 = .ok (.invokevirtual 235, 3) := by decide +kernel
theorem dX4_obeyAsOneOfAll_24 : decode cX4_obeyAsOneOfAll 24 = .ok (.goto 9, 3) := by decide +kernel
theorem dX4_obeyAsOneOfAll_27 : decode cX4_obeyAsOneOfAll 27 = .ok (.aload_n 2, 1) := by decide +kernel
theorem dX4_obeyAsOneOfAll_28 : decode cX4_obeyAsOneOfAll 28 = .ok (.bipush (-4), 2) := by decide +kernel
theorem dX4_obeyAsOneOfAll_30 : decode cX4_obeyAsOneOfAll 30 = .ok (.putfield 238, 3) := by decide +kernel
theorem dX4_obeyAsOneOfAll_33 : decode cX4_obeyAsOneOfAll 33 = .ok (.return_, 1) := by decide +kernel
theorem dX4_obeyAsListener_0 : decode cX4_obeyAsListener 0 = .ok (.iload_n 1, 1) := by decide +kernel
theorem dX4_obeyAsListener_1 : decode cX4_obeyAsListener 1 = .ok (.iconst 1, 1) := by decide +kernel
theorem dX4_obeyAsListener_2 : decode cX4_obeyAsListener 2 = .ok (.if_icmp .ne 11, 3) := by decide +kernel
theorem dX4_obeyAsListener_5 : decode cX4_obeyAsListener 5 = .ok (.aload_n 2, 1) := by decide +kernel
theorem dX4_obeyAsListener_6 : decode cX4_obeyAsListener 6 = .ok (.iconst 0, 1) := by decide +kernel
theorem dX4_obeyAsListener_7 : decode cX4_obeyAsListener 7 = .ok (.putfield 131, 3) := by decide +kernel
theorem dX4_obeyAsListener_10 : decode cX4_obeyAsListener 10 = .ok (.goto 39, 3) := by decide +kernel
theorem dX4_obeyAsListener_13 : decode cX4_obeyAsListener 13 = .ok (.iload_n 1, 1) := by decide +kernel
theorem dX4_obeyAsListener_14 : decode cX4_obeyAsListener 14 = .ok (.iconst 4, 1) := by decide +kernel
theorem dX4_obeyAsListener_15 : decode cX4_obeyAsListener 15 = .ok (.if_icmp .ne 10, 3) := by decide +kernel
theorem dX4_obeyAsListener_18 : decode cX4_obeyAsListener 18 = .ok (.aload_n 2, 1) := by decide +kernel
theorem dX4_obeyAsListener_19 : decode cX4_obeyAsListener 19 = .ok (.invokevirtual 235, 3) := by decide +kernel
theorem dX4_obeyAsListener_22 : decode cX4_obeyAsListener 22 = .ok (.goto 27, 3) := by decide +kernel
theorem dX4_obeyAsListener_25 : decode cX4_obeyAsListener 25 = .ok (.iload_n 1, 1) := by decide +kernel
theorem dX4_obeyAsListener_26 : decode cX4_obeyAsListener 26 = .ok (.iconst 5, 1) := by decide +kernel
theorem dX4_obeyAsListener_27 : decode cX4_obeyAsListener 27 = .ok (.if_icmp .ne 11, 3) := by decide +kernel
theorem dX4_obeyAsListener_30 : decode cX4_obeyAsListener 30 = .ok (.aload_n 2, 1) := by decide +kernel
theorem dX4_obeyAsListener_31 : decode cX4_obeyAsListener 31 = .ok (.iconst 1, 1) := by decide +kernel
theorem dX4_obeyAsListener_32 : decode cX4_obeyAsListener 32 = .ok (.putfield 241, 3) := by decide +kernel
theorem dX4_obeyAsListener_35 : decode cX4_obeyAsListener 35 = .ok (.goto 14, 3) := by decide +kernel
theorem dX4_obeyAsListener_38 : decode cX4_obeyAsListener 38 = .ok (.iload_n 1, 1) := by decide +kernel
theorem dX4_obeyAsListener_39 : decode cX4_obeyAsListener 39 = .ok (.bipush 8, 2) := by decide +kernel
theorem dX4_obeyAsListener_41 : decode cX4_obeyAsListener 41 = .ok (.if_icmp .ne 8, 3) := by decide +kernel
theorem dX4_obeyAsListener_44 : decode cX4_obeyAsListener 44 = .ok (.aload_n 0, 1) := by decide +kernel
theorem dX4_obeyAsListener_45 : decode cX4_obeyAsListener 45 = .ok (.aload_n 2, 1) := by decide +kernel
theorem dX4_obeyAsListener_46 : decode cX4_obeyAsListener 46 = .ok (.invokevirtual 244, 3) := by decide +kernel
theorem dX4_obeyAsListener_49 : decode cX4_obeyAsListener 49 = .ok (.return_, 1) := by decide +kernel
theorem dX4_triggerOne_0 : decode cX4_triggerOne 0 = .ok (.aload_n 0, 1) := by decide +kernel
theorem dX4_triggerOne_1 : decode cX4_triggerOne 1 = .ok (.getfield 30, 3) := by decide +kernel
theorem dX4_triggerOne_4 : decode cX4_triggerOne 4 = .ok (.bipush 7, 2) := by decide +kernel
theorem dX4_triggerOne_6 : decode cX4_triggerOne 6 = .ok (.dup2, 1) := by decide +kernel
theorem dX4_triggerOne_7 : decode cX4_triggerOne 7 = .ok (.iaload, 1) := by decide +kernel
theorem dX4_triggerOne_8 : decode cX4_triggerOne 8 = .ok (.iconst 1, 1) := by decide +kernel
theorem dX4_triggerOne_9 : decode cX4_triggerOne 9 = .ok (.iadd, 1) := by decide +kernel
theorem dX4_triggerOne_10 : decode cX4_triggerOne 10 = .ok (.iastore, 1) := by decide +kernel
theorem dX4_triggerOne_11 : decode cX4_triggerOne 11 = .ok (.aload_n 1, 1) := by decide +kernel
theorem dX4_triggerOne_12 : decode cX4_triggerOne 12 = .ok (.aload_n 0, 1) := by decide +kernel
theorem dX4_triggerOne_13 : decode cX4_triggerOne 13 = .ok (.getfield 70, 3) := by decide +kernel
theorem dX4_triggerOne_16 : decode cX4_triggerOne 16 = .ok (.invokevirtual 248, 3) := by decide +kernel
theorem dX4_triggerOne_19 : decode cX4_triggerOne 19 = .ok (.aload_n 1, 1) := by decide +kernel
theorem dX4_triggerOne_20 : decode cX4_triggerOne 20 = .ok (.aload_n 0, 1) := by decide +kernel
theorem dX4_triggerOne_21 : decode cX4_triggerOne 21 = .ok (.getfield 70, 3) := by decide +kernel
theorem dX4_triggerOne_24 : decode cX4_triggerOne 24 = .ok (.invokevirtual 186, 3) := by decide +kernel
theorem dX4_triggerOne_27 : decode cX4_triggerOne 27 = .ok (.ifCond .eq 17, 3) := by decide +kernel
theorem dX4_triggerOne_30 : decode cX4_triggerOne 30 = .ok (.aload_n 1, 1) := by decide +kernel
theorem dX4_triggerOne_31 : decode cX4_triggerOne 31 = .ok (.invokevirtual 189, 3) := by decide +kernel
theorem dX4_triggerOne_34 : decode cX4_triggerOne 34 = .ok (.aload_n 0, 1) := by decide +kernel
theorem dX4_triggerOne_35 : decode cX4_triggerOne 35 = .ok (.getfield 30, 3) := by decide +kernel
theorem dX4_triggerOne_38 : decode cX4_triggerOne 38 = .ok (.iconst 3, 1) := by decide +kernel
theorem dX4_triggerOne_39 : decode cX4_triggerOne 39 = .ok (.dup2, 1) := by decide +kernel
theorem dX4_triggerOne_40 : decode cX4_triggerOne 40 = .ok (.iaload, 1) := by decide +kernel
theorem dX4_triggerOne_41 : decode cX4_triggerOne 41 = .ok (.iconst 1, 1) := by decide +kernel
theorem dX4_triggerOne_42 : decode cX4_triggerOne 42 = .ok (.iadd, 1) := by decide +kernel
theorem dX4_triggerOne_43 : decode cX4_triggerOne 43 = .ok (.iastore, 1) := by decide +kernel
theorem dX4_triggerOne_44 : decode cX4_triggerOne 44 = .ok (.return_, 1) := by decide +kernel
theorem dX4_passCharge_0 : decode cX4_passCharge 0 = .ok (.aload_n 0, 1) := by decide +kernel
theorem dX4_passCharge_1 : decode cX4_passCharge 1 = .ok (.aload_n 0, 1) := by decide +kernel
theorem dX4_passCharge_2 : decode cX4_passCharge 2 = .ok (.getfield 89, 3) := by decide +kernel
theorem dX4_passCharge_5 : decode cX4_passCharge 5 = .ok (.invokevirtual 102, 3) := by decide +kernel
theorem dX4_passCharge_8 : decode cX4_passCharge 8 = .ok (.ifCond .eq 55, 3) := by decide +kernel
theorem dX4_passCharge_11 : decode cX4_passCharge 11 = .ok (.aload_n 0, 1) := by decide +kernel
theorem dX4_passCharge_12 : decode cX4_passCharge 12 = .ok (.getfield 89, 3) := by decide +kernel
theorem dX4_passCharge_15 : decode cX4_passCharge 15 = .ok (.aload_n 0, 1) := by decide +kernel
theorem dX4_passCharge_16 : decode cX4_passCharge 16 = .ok (.getfield 79, 3) := by decide +kernel
theorem dX4_passCharge_19 : decode cX4_passCharge 19 = .ok (.if_icmp .eq 44, 3) := by decide +kernel
theorem dX4_passCharge_22 : decode cX4_passCharge 22 = .ok (.aload_n 0, 1) := by decide +kernel
theorem dX4_passCharge_23 : decode cX4_passCharge 23 = .ok (.getfield 18, 3) := by decide +kernel
theorem dX4_passCharge_26 : decode cX4_passCharge 26 = .ok (.aload_n 0, 1) := by decide +kernel
theorem dX4_passCharge_27 : decode cX4_passCharge 27 = .ok (.getfield 89, 3) := by decide +kernel
theorem dX4_passCharge_30 : decode cX4_passCharge 30 = .ok (.aaload, 1) := by decide +kernel
theorem dX4_passCharge_31 : decode cX4_passCharge 31 = .ok (.getfield 251, 3) := by decide +kernel
theorem dX4_passCharge_34 : decode cX4_passCharge 34 = .ok (.iconst 2, 1) := by decide +kernel
theorem dX4_passCharge_35 : decode cX4_passCharge 35 = .ok (.if_icmp .ne 28, 3) := by decide +kernel
theorem dX4_passCharge_38 : decode cX4_passCharge 38 = .ok (.aload_n 0, 1) := by decide +kernel
theorem dX4_passCharge_39 : decode cX4_passCharge 39 = .ok (.aload_n 0, 1) := by decide +kernel
theorem dX4_passCharge_40 : decode cX4_passCharge 40 = .ok (.getfield 89, 3) := by decide +kernel
theorem dX4_passCharge_43 : decode cX4_passCharge 43 = .ok (.putfield 79, 3) := by decide +kernel
theorem dX4_passCharge_46 : decode cX4_passCharge 46 = .ok (.aload_n 0, 1) := by decide +kernel
theorem dX4_passCharge_47 : decode cX4_passCharge 47 = .ok (.bipush (-4), 2) := by decide +kernel
theorem dX4_passCharge_49 : decode cX4_passCharge 49 = .ok (.putfield 89, 3) := by decide +kernel
theorem dX4_passCharge_52 : decode cX4_passCharge 52 = .ok (.aload_n 0, 1) := by decide +kernel
theorem dX4_passCharge_53 : decode cX4_passCharge 53 = .ok (.getfield 30, 3) := by decide +kernel
theorem dX4_passCharge_56 : decode cX4_passCharge 56 = .ok (.bipush 6, 2) := by decide +kernel
theorem dX4_passCharge_58 : decode cX4_passCharge 58 = .ok (.dup2, 1) := by decide +kernel
theorem dX4_passCharge_59 : decode cX4_passCharge 59 = .ok (.iaload, 1) := by decide +kernel
theorem dX4_passCharge_60 : decode cX4_passCharge 60 = .ok (.iconst 1, 1) := by decide +kernel
theorem dX4_passCharge_61 : decode cX4_passCharge 61 = .ok (.iadd, 1) := by decide +kernel
theorem dX4_passCharge_62 : decode cX4_passCharge 62 = .ok (.iastore, 1) := by decide +kernel
theorem dX4_passCharge_63 : decode cX4_passCharge 63 = .ok (.return_, 1) := by decide +kernel
theorem dX4_callListener_0 : decode cX4_callListener 0 = .ok (.iconst 0, 1) := by decide +kernel
theorem dX4_callListener_1 : decode cX4_callListener 1 = .ok (.istore_n 2, 1) := by decide +kernel
theorem dX4_callListener_2 : decode cX4_callListener 2 = .ok (.iload_n 2, 1) := by decide +kernel
theorem dX4_callListener_3 : decode cX4_callListener 3 = .ok (.aload_n 0, 1) := by decide +kernel
theorem dX4_callListener_4 : decode cX4_callListener 4 = .ok (.getfield 63, 3) := by decide +kernel
theorem dX4_callListener_7 : decode cX4_callListener 7 = .ok (.if_icmp .ge 58, 3) := by decide +kernel
theorem dX4_callListener_10 : decode cX4_callListener 10 = .ok (.aload_n 0, 1) := by decide +kernel
theorem dX4_callListener_11 : decode cX4_callListener 11 = .ok (.getfield 18, 3) := by decide +kernel
theorem dX4_callListener_14 : decode cX4_callListener 14 = .ok (.iload_n 2, 1) := by decide +kernel
theorem dX4_callListener_15 : decode cX4_callListener 15 = .ok (.aaload, 1) := by decide +kernel
theorem dX4_callListener_16 : decode cX4_callListener 16 = .ok (.getfield 197, 3) := by decide +kernel
theorem dX4_callListener_19 : decode cX4_callListener 19 = .ok (.iload_n 1, 1) := by decide +kernel
theorem dX4_callListener_20 : decode cX4_callListener 20 = .ok (.if_icmp .ne 39, 3) := by decide +kernel
theorem dX4_callListener_23 : decode cX4_callListener 23 = .ok (.aload_n 0, 1) := by decide +kernel
theorem dX4_callListener_24 : decode cX4_callListener 24 = .ok (.getfield 18, 3) := by decide +kernel
theorem dX4_callListener_27 : decode cX4_callListener 27 = .ok (.iload_n 2, 1) := by decide +kernel
theorem dX4_callListener_28 : decode cX4_callListener 28 = .ok (.aaload, 1) := by decide +kernel
theorem dX4_callListener_29 : decode cX4_callListener 29 = .ok (.getfield 200, 3) := by decide +kernel
theorem dX4_callListener_32 : decode cX4_callListener 32 = .ok (.bipush 31, 2) := by decide +kernel
theorem dX4_callListener_34 : decode cX4_callListener 34 = .ok (.if_icmp .ne 15, 3) := by decide +kernel
theorem dX4_callListener_37 : decode cX4_callListener 37 = .ok (.aload_n 0, 1) := by decide +kernel
theorem dX4_callListener_38 : decode cX4_callListener 38 = .ok (.getfield 18, 3) := by decide +kernel
theorem dX4_callListener_41 : decode cX4_callListener 41 = .ok (.iload_n 2, 1) := by decide +kernel
theorem dX4_callListener_42 : decode cX4_callListener 42 = .ok (.aaload, 1) := by decide +kernel
theorem dX4_callListener_43 : decode cX4_callListener 43 = .ok (.invokevirtual 254, 3) := by decide +kernel
theorem dX4_callListener_46 : decode cX4_callListener 46 = .ok (.goto 13, 3) := by decide +kernel
theorem dX4_callListener_49 : decode cX4_callListener 49 = .ok (.aload_n 0, 1) := by decide +kernel
theorem dX4_callListener_50 : decode cX4_callListener 50 = .ok (.getfield 18, 3) := by decide +kernel
theorem dX4_callListener_53 : decode cX4_callListener 53 = .ok (.iload_n 2, 1) := by decide +kernel
theorem dX4_callListener_54 : decode cX4_callListener 54 = .ok (.aaload, 1) := by decide +kernel
theorem dX4_callListener_55 : decode cX4_callListener 55 = .ok (.iconst 1, 1) := by decide +kernel
theorem dX4_callListener_56 : decode cX4_callListener 56 = .ok (.putfield 257, 3) := by decide +kernel
theorem dX4_callListener_59 : decode cX4_callListener 59 = .ok (.iinc 2 1, 3) := by decide +kernel
theorem dX4_callListener_62 : decode cX4_callListener 62 = .ok (.goto (-60), 3) := by decide +kernel
theorem dX4_callListener_65 : decode cX4_callListener 65 = .ok (.return_, 1) := by decide +kernel
theorem dX4_callTalker_0 : decode cX4_callTalker 0 = .ok (.aload_n 0, 1) := by decide +kernel
theorem dX4_callTalker_1 : decode cX4_callTalker 1 = .ok (.bipush (-4), 2) := by decide +kernel
theorem dX4_callTalker_3 : decode cX4_callTalker 3 = .ok (.putfield 89, 3) := by decide +kernel
theorem dX4_callTalker_6 : decode cX4_callTalker 6 = .ok (.iconst 0, 1) := by decide +kernel
theorem dX4_callTalker_7 : decode cX4_callTalker 7 = .ok (.istore_n 2, 1) := by decide +kernel
theorem dX4_callTalker_8 : decode cX4_callTalker 8 = .ok (.iload_n 2, 1) := by decide +kernel
theorem dX4_callTalker_9 : decode cX4_callTalker 9 = .ok (.aload_n 0, 1) := by decide +kernel
theorem dX4_callTalker_10 : decode cX4_callTalker 10 = .ok (.getfield 63, 3) := by decide +kernel
theorem dX4_callTalker_13 : decode cX4_callTalker 13 = .ok (.if_icmp .ge 54, 3) := by decide +kernel
theorem dX4_callTalker_16 : decode cX4_callTalker 16 = .ok (.aload_n 0, 1) := by decide +kernel
theorem dX4_callTalker_17 : decode cX4_callTalker 17 = .ok (.getfield 18, 3) := by decide +kernel
theorem dX4_callTalker_20 : decode cX4_callTalker 20 = .ok (.iload_n 2, 1) := by decide +kernel
theorem dX4_callTalker_21 : decode cX4_callTalker 21 = .ok (.aaload, 1) := by decide +kernel
theorem dX4_callTalker_22 : decode cX4_callTalker 22 = .ok (.getfield 197, 3) := by decide +kernel
theorem dX4_callTalker_25 : decode cX4_callTalker 25 = .ok (.iload_n 1, 1) := by decide +kernel
theorem dX4_callTalker_26 : decode cX4_callTalker 26 = .ok (.if_icmp .ne 35, 3) := by decide +kernel
theorem dX4_callTalker_29 : decode cX4_callTalker 29 = .ok (.aload_n 0, 1) := by decide +kernel
theorem dX4_callTalker_30 : decode cX4_callTalker 30 = .ok (.getfield 18, 3) := by decide +kernel
theorem dX4_callTalker_33 : decode cX4_callTalker 33 = .ok (.iload_n 2, 1) := by decide +kernel
theorem dX4_callTalker_34 : decode cX4_callTalker 34 = .ok (.aaload, 1) := by decide +kernel
theorem dX4_callTalker_35 : decode cX4_callTalker 35 = .ok (.getfield 200, 3) := by decide +kernel
theorem dX4_callTalker_38 : decode cX4_callTalker 38 = .ok (.bipush 31, 2) := by decide +kernel
theorem dX4_callTalker_40 : decode cX4_callTalker 40 = .ok (.if_icmp .ne 11, 3) := by decide +kernel
theorem dX4_callTalker_43 : decode cX4_callTalker 43 = .ok (.aload_n 0, 1) := by decide +kernel
theorem dX4_callTalker_44 : decode cX4_callTalker 44 = .ok (.iload_n 2, 1) := by decide +kernel
theorem dX4_callTalker_45 : decode cX4_callTalker 45 = .ok (.putfield 89, 3) := by decide +kernel
theorem dX4_callTalker_48 : decode cX4_callTalker 48 = .ok (.goto 13, 3) := by decide +kernel
theorem dX4_callTalker_51 : decode cX4_callTalker 51 = .ok (.aload_n 0, 1) := by decide +kernel
theorem dX4_callTalker_52 : decode cX4_callTalker 52 = .ok (.getfield 18, 3) := by decide +kernel
theorem dX4_callTalker_55 : decode cX4_callTalker 55 = .ok (.iload_n 2, 1) := by decide +kernel
theorem dX4_callTalker_56 : decode cX4_callTalker 56 = .ok (.aaload, 1) := by decide +kernel
theorem dX4_callTalker_57 : decode cX4_callTalker 57 = .ok (.iconst 2, 1) := by decide +kernel
theorem dX4_callTalker_58 : decode cX4_callTalker 58 = .ok (.putfield 257, 3) := by decide +kernel
theorem dX4_callTalker_61 : decode cX4_callTalker 61 = .ok (.iinc 2 1, 3) := by decide +kernel
theorem dX4_callTalker_64 : decode cX4_callTalker 64 = .ok (.goto (-56), 3) := by decide +kernel
theorem dX4_callTalker_67 : decode cX4_callTalker 67 = .ok (.return_, 1) := by decide +kernel
theorem dX4_obeySecond_0 : decode cX4_obeySecond 0 = .ok (.aload_n 0, 1) := by decide +kernel
theorem dX4_obeySecond_1 : decode cX4_obeySecond 1 = .ok (.getfield 183, 3) := by decide +kernel
theorem dX4_obeySecond_4 : decode cX4_obeySecond 4 = .ok (.iconst 5, 1) := by decide +kernel
theorem dX4_obeySecond_5 : decode cX4_obeySecond 5 = .ok (.if_icmp .ne 11, 3) := by decide +kernel
theorem dX4_obeySecond_8 : decode cX4_obeySecond 8 = .ok (.aload_n 0, 1) := by decide +kernel
theorem dX4_obeySecond_9 : decode cX4_obeySecond 9 = .ok (.iload_n 1, 1) := by decide +kernel
theorem dX4_obeySecond_10 : decode cX4_obeySecond 10 = .ok (.invokevirtual 260, 3) := by decide +kernel
theorem dX4_obeySecond_13 : decode cX4_obeySecond 13 = .ok (.goto 14, 3) := by decide +kernel
theorem dX4_obeySecond_16 : decode cX4_obeySecond 16 = .ok (.iload_n 1, 1) := by decide +kernel
theorem dX4_obeySecond_17 : decode cX4_obeySecond 17 = .ok (.bipush 31, 2) := by decide +kernel
theorem dX4_obeySecond_19 : decode cX4_obeySecond 19 = .ok (.if_icmp .eq 8, 3) := by decide +kernel
theorem dX4_obeySecond_22 : decode cX4_obeySecond 22 = .ok (.aload_n 0, 1) := by decide +kernel
theorem dX4_obeySecond_23 : decode cX4_obeySecond 23 = .ok (.iload_n 1, 1) := by decide +kernel
theorem dX4_obeySecond_24 : decode cX4_obeySecond 24 = .ok (.invokevirtual 263, 3) := by decide +kernel
theorem dX4_obeySecond_27 : decode cX4_obeySecond 27 = .ok (.return_, 1) := by decide +kernel
theorem dX4_setLines_0 : decode cX4_setLines 0 = .ok (.iconst 0, 1) := by decide +kernel
theorem dX4_setLines_1 : decode cX4_setLines 1 = .ok (.istore_n 2, 1) := by decide +kernel
theorem dX4_setLines_2 : decode cX4_setLines 2 = .ok (.iload_n 2, 1) := by decide +kernel
theorem dX4_setLines_3 : decode cX4_setLines 3 = .ok (.aload_n 0, 1) := by decide +kernel
theorem dX4_setLines_4 : decode cX4_setLines 4 = .ok (.getfield 63, 3) := by decide +kernel
theorem dX4_setLines_7 : decode cX4_setLines 7 = .ok (.if_icmp .ge 66, 3) := by decide +kernel
theorem dX4_setLines_10 : decode cX4_setLines 10 = .ok (.aload_n 0, 1) := by decide +kernel
theorem dX4_setLines_11 : decode cX4_setLines 11 = .ok (.getfield 18, 3) := by decide +kernel
theorem dX4_setLines_14 : decode cX4_setLines 14 = .ok (.iload_n 2, 1) := by decide +kernel
theorem dX4_setLines_15 : decode cX4_setLines 15 = .ok (.aaload, 1) := by decide +kernel
theorem dX4_setLines_16 : decode cX4_setLines 16 = .ok (.getfield 241, 3) := by decide +kernel
theorem dX4_setLines_19 : decode cX4_setLines 19 = .ok (.ifCond .eq 48, 3) := by decide +kernel
theorem dX4_setLines_22 : decode cX4_setLines 22 = .ok (.iload_n 1, 1) := by decide +kernel
theorem dX4_setLines_23 : decode cX4_setLines 23 = .ok (.bipush 16, 2) := by decide +kernel
theorem dX4_setLines_25 : decode cX4_setLines 25 = .ok (.if_icmp .ge 31, 3) := by decide +kernel
theorem dX4_setLines_28 : decode cX4_setLines 28 = .ok (.aload_n 0, 1) := by decide +kernel
theorem dX4_setLines_29 : decode cX4_setLines 29 = .ok (.getfield 18, 3) := by decide +kernel
theorem dX4_setLines_32 : decode cX4_setLines 32 = .ok (.iload_n 2, 1) := by decide +kernel
theorem dX4_setLines_33 : decode cX4_setLines 33 = .ok (.aaload, 1) := by decide +kernel
theorem dX4_setLines_34 : decode cX4_setLines 34 = .ok (.iload_n 1, 1) := by decide +kernel
theorem dX4_setLines_35 : decode cX4_setLines 35 = .ok (.bipush 7, 2) := by decide +kernel
theorem dX4_setLines_37 : decode cX4_setLines 37 = .ok (.iand, 1) := by decide +kernel
theorem dX4_setLines_38 : decode cX4_setLines 38 = .ok (.putfield 238, 3) := by decide +kernel
theorem dX4_setLines_41 : decode cX4_setLines 41 = .ok (.aload_n 0, 1) := by decide +kernel
theorem dX4_setLines_42 : decode cX4_setLines 42 = .ok (.getfield 18, 3) := by decide +kernel
theorem dX4_setLines_45 : decode cX4_setLines 45 = .ok (.iload_n 2, 1) := by decide +kernel
theorem dX4_setLines_46 : decode cX4_setLines 46 = .ok (.aaload, 1) := by decide +kernel
theorem dX4_setLines_47 : decode cX4_setLines 47 = .ok (.iload_n 1, 1) := by decide +kernel
theorem dX4_setLines_48 : decode cX4_setLines 48 = .ok (.iconst 3, 1) := by decide +kernel
theorem dX4_setLines_49 : decode cX4_setLines 49 = .ok (.ishr, 1) := by decide +kernel
theorem dX4_setLines_50 : decode cX4_setLines 50 = .ok (.putfield 266, 3) := by decide +kernel
theorem dX4_setLines_53 : decode cX4_setLines 53 = .ok (.goto 14, 3) := by decide +kernel
theorem dX4_setLines_56 : decode cX4_setLines 56 = .ok (.aload_n 0, 1) := by decide +kernel
theorem dX4_setLines_57 : decode cX4_setLines 57 = .ok (.getfield 18, 3) := by decide +kernel
theorem dX4_setLines_60 : decode cX4_setLines 60 = .ok (.iload_n 2, 1) := by decide +kernel
theorem dX4_setLines_61 : decode cX4_setLines 61 = .ok (.aaload, 1) := by decide +kernel
theorem dX4_setLines_62 : decode cX4_setLines 62 = .ok (.bipush (-4), 2) := by decide +kernel
theorem dX4_setLines_64 : decode cX4_setLines 64 = .ok (.putfield 238, 3) := by decide +kernel
theorem dX4_setLines_67 : decode cX4_setLines 67 = .ok (.iinc 2 1, 3) := by decide +kernel
theorem dX4_setLines_70 : decode cX4_setLines 70 = .ok (.goto (-68), 3) := by decide +kernel
theorem dX4_setLines_73 : decode cX4_setLines 73 = .ok (.return_, 1) := by decide +kernel
theorem dX4_answerSecond_0 : decode cX4_answerSecond 0 = .ok (.iconst 0, 1) := by decide +kernel
theorem dX4_answerSecond_1 : decode cX4_answerSecond 1 = .ok (.istore_n 2, 1) := by decide +kernel
theorem dX4_answerSecond_2 : decode cX4_answerSecond 2 = .ok (.iload_n 2, 1) := by decide +kernel
theorem dX4_answerSecond_3 : decode cX4_answerSecond 3 = .ok (.aload_n 0, 1) := by decide +kernel
theorem dX4_answerSecond_4 : decode cX4_answerSecond 4 = .ok (.getfield 63, 3) := by decide +kernel
theorem dX4_answerSecond_7 : decode cX4_answerSecond 7 = .ok (.if_icmp .ge 65, 3) := by decide +kernel
theorem dX4_answerSecond_10 : decode cX4_answerSecond 10 = .ok (.aload_n 0, 1) := by decide +kernel
theorem dX4_answerSecond_11 : decode cX4_answerSecond 11 = .ok (.getfield 18, 3) := by decide +kernel
theorem dX4_answerSecond_14 : decode cX4_answerSecond 14 = .ok (.iload_n 2, 1) := by decide +kernel
theorem dX4_answerSecond_15 : decode cX4_answerSecond 15 = .ok (.aaload, 1) := by decide +kernel
theorem dX4_answerSecond_16 : decode cX4_answerSecond 16 = .ok (.getfield 200, 3) := by decide +kernel
theorem dX4_answerSecond_19 : decode cX4_answerSecond 19 = .ok (.iload_n 1, 1) := by decide +kernel
theorem dX4_answerSecond_20 : decode cX4_answerSecond 20 = .ok (.if_icmp .ne 46, 3) := by decide +kernel
theorem dX4_answerSecond_23 : decode cX4_answerSecond 23 = .ok (.aload_n 0, 1) := by decide +kernel
theorem dX4_answerSecond_24 : decode cX4_answerSecond 24 = .ok (.getfield 18, 3) := by decide +kernel
theorem dX4_answerSecond_27 : decode cX4_answerSecond 27 = .ok (.iload_n 2, 1) := by decide +kernel
theorem dX4_answerSecond_28 : decode cX4_answerSecond 28 = .ok (.aaload, 1) := by decide +kernel
theorem dX4_answerSecond_29 : decode cX4_answerSecond 29 = .ok (.getfield 257, 3) := by decide +kernel
theorem dX4_answerSecond_32 : decode cX4_answerSecond 32 = .ok (.iconst 1, 1) := by decide +kernel
theorem dX4_answerSecond_33 : decode cX4_answerSecond 33 = .ok (.if_icmp .ne 15, 3) := by decide +kernel
theorem dX4_answerSecond_36 : decode cX4_answerSecond 36 = .ok (.aload_n 0, 1) := by decide +kernel
theorem dX4_answerSecond_37 : decode cX4_answerSecond 37 = .ok (.getfield 18, 3) := by decide +kernel
theorem dX4_answerSecond_40 : decode cX4_answerSecond 40 = .ok (.iload_n 2, 1) := by decide +kernel
theorem dX4_answerSecond_41 : decode cX4_answerSecond 41 = .ok (.aaload, 1) := by decide +kernel
theorem dX4_answerSecond_42 : decode cX4_answerSecond 42 = .ok (.invokevirtual 254, 3) := by decide +kernel
theorem dX4_answerSecond_45 : decode cX4_answerSecond 45 = .ok (.goto 21, 3) := by decide +kernel
theorem dX4_answerSecond_48 : decode cX4_answerSecond 48 = .ok (.aload_n 0, 1) := by decide +kernel
theorem dX4_answerSecond_49 : decode cX4_answerSecond 49 = .ok (.getfield 18, 3) := by decide +kernel
theorem dX4_answerSecond_52 : decode cX4_answerSecond 52 = .ok (.iload_n 2, 1) := by decide +kernel
theorem dX4_answerSecond_53 : decode cX4_answerSecond 53 = .ok (.aaload, 1) := by decide +kernel
theorem dX4_answerSecond_54 : decode cX4_answerSecond 54 = .ok (.getfield 257, 3) := by decide +kernel
theorem dX4_answerSecond_57 : decode cX4_answerSecond 57 = .ok (.iconst 2, 1) := by decide +kernel
theorem dX4_answerSecond_58 : decode cX4_answerSecond 58 = .ok (.if_icmp .ne 8, 3) := by decide +kernel
theorem dX4_answerSecond_61 : decode cX4_answerSecond 61 = .ok (.aload_n 0, 1) := by decide +kernel
theorem dX4_answerSecond_62 : decode cX4_answerSecond 62 = .ok (.iload_n 2, 1) := by decide +kernel
theorem dX4_answerSecond_63 : decode cX4_answerSecond 63 = .ok (.putfield 89, 3) := by decide +kernel
theorem dX4_answerSecond_66 : decode cX4_answerSecond 66 = .ok (.iinc 2 1, 3) := by decide +kernel
theorem dX4_answerSecond_69 : decode cX4_answerSecond 69 = .ok (.goto (-67), 3) := by decide +kernel
theorem dX4_answerSecond_72 : decode cX4_answerSecond 72 = .ok (.return_, 1) := by decide +kernel
theorem dX4_endListening_0 : decode cX4_endListening 0 = .ok (.iconst 0, 1) := by decide +kernel
theorem dX4_endListening_1 : decode cX4_endListening 1 = .ok (.istore_n 1, 1) := by decide +kernel
theorem dX4_endListening_2 : decode cX4_endListening 2 = .ok (.iload_n 1, 1) := by decide +kernel
theorem dX4_endListening_3 : decode cX4_endListening 3 = .ok (.aload_n 0, 1) := by decide +kernel
theorem dX4_endListening_4 : decode cX4_endListening 4 = .ok (.getfield 63, 3) := by decide +kernel
theorem dX4_endListening_7 : decode cX4_endListening 7 = .ok (.if_icmp .ge 19, 3) := by decide +kernel
theorem dX4_endListening_10 : decode cX4_endListening 10 = .ok (.aload_n 0, 1) := by decide +kernel
theorem dX4_endListening_11 : decode cX4_endListening 11 = .ok (.getfield 18, 3) := by decide +kernel
theorem dX4_endListening_14 : decode cX4_endListening 14 = .ok (.iload_n 1, 1) := by decide +kernel
theorem dX4_endListening_15 : decode cX4_endListening 15 = .ok (.aaload, 1) := by decide +kernel
theorem dX4_endListening_16 : decode cX4_endListening 16 = .ok (.iconst 0, 1) := by decide +kernel
theorem dX4_endListening_17 : decode cX4_endListening 17 = .ok (.putfield 229, 3) := by decide +kernel
theorem dX4_endListening_20 : decode cX4_endListening 20 = .ok (.iinc 1 1, 3) := by decide +kernel
theorem dX4_endListening_23 : decode cX4_endListening 23 = .ok (.goto (-21), 3) := by decide +kernel
theorem dX4_endListening_26 : decode cX4_endListening 26 = .ok (.return_, 1) := by decide +kernel
theorem dX4_endNamedAndPrepared_0 : decode cX4_endNamedAndPrepared 0 = .ok (.iconst 0, 1) := by decide +kernel
theorem dX4_endNamedAndPrepared_1 : decode cX4_endNamedAndPrepared 1 = .ok (.istore_n 1, 1) := by decide +kernel
theorem dX4_endNamedAndPrepared_2 : decode cX4_endNamedAndPrepared 2 = .ok (.iload_n 1, 1) := by decide +kernel
theorem dX4_endNamedAndPrepared_3 : decode cX4_endNamedAndPrepared 3 = .ok (.aload_n 0, 1) := by decide +kernel
theorem dX4_endNamedAndPrepared_4 : decode cX4_endNamedAndPrepared 4 = .ok (.getfield 63, 3) := by decide +kernel
theorem dX4_endNamedAndPrepared_7 : decode cX4_endNamedAndPrepared 7 = .ok (.if_icmp .ge 29, 3) := by decide +kernel
theorem dX4_endNamedAndPrepared_10 : decode cX4_endNamedAndPrepared 10 = .ok (.aload_n 0, 1) := by decide +kernel
theorem dX4_endNamedAndPrepared_11 : decode cX4_endNamedAndPrepared 11 = .ok (.getfield 18, 3) := by decide +kernel
theorem dX4_endNamedAndPrepared_14 : decode cX4_endNamedAndPrepared 14 = .ok (.iload_n 1, 1) := by decide +kernel
theorem dX4_endNamedAndPrepared_15 : decode cX4_endNamedAndPrepared 15 = .ok (.aaload, 1) := by decide +kernel
theorem dX4_endNamedAndPrepared_16 : decode cX4_endNamedAndPrepared 16 = .ok (.iconst 0, 1) := by decide +kernel
theorem dX4_endNamedAndPrepared_17 : decode cX4_endNamedAndPrepared 17 = .ok (.putfield 257, 3) := by decide +kernel
theorem dX4_endNamedAndPrepared_20 : decode cX4_endNamedAndPrepared 20 = .ok (.aload_n 0, 1) := by decide +kernel
theorem dX4_endNamedAndPrepared_21 : decode cX4_endNamedAndPrepared 21 = .ok (.getfield 18, 3) := by decide +kernel
theorem dX4_endNamedAndPrepared_24 : decode cX4_endNamedAndPrepared 24 = .ok (.iload_n 1, 1) := by decide +kernel
theorem dX4_endNamedAndPrepared_25 : decode cX4_endNamedAndPrepared 25 = .ok (.aaload, 1) := by decide +kernel
theorem dX4_endNamedAndPrepared_26 : decode cX4_endNamedAndPrepared 26 = .ok (.iconst 0, 1) := by decide +kernel
theorem dX4_endNamedAndPrepared_27 : decode cX4_endNamedAndPrepared 27 = .ok (.putfield 241, 3) := by decide +kernel
theorem dX4_endNamedAndPrepared_30 : decode cX4_endNamedAndPrepared 30 = .ok (.iinc 1 1, 3) := by decide +kernel
theorem dX4_endNamedAndPrepared_33 : decode cX4_endNamedAndPrepared 33 = .ok (.goto (-31), 3) := by decide +kernel
theorem dX4_endNamedAndPrepared_36 : decode cX4_endNamedAndPrepared 36 = .ok (.return_, 1) := by decide +kernel
theorem dX4_takesBytes_0 : decode cX4_takesBytes 0 = .ok (.iload_n 1, 1) := by decide +kernel
theorem dX4_takesBytes_1 : decode cX4_takesBytes 1 = .ok (.aload_n 0, 1) := by decide +kernel
theorem dX4_takesBytes_2 : decode cX4_takesBytes 2 = .ok (.getfield 89, 3) := by decide +kernel
theorem dX4_takesBytes_5 : decode cX4_takesBytes 5 = .ok (.if_icmp .eq 19, 3) := by decide +kernel
theorem dX4_takesBytes_8 : decode cX4_takesBytes 8 = .ok (.aload_n 0, 1) := by decide +kernel
theorem dX4_takesBytes_9 : decode cX4_takesBytes 9 = .ok (.getfield 18, 3) := by decide +kernel
theorem dX4_takesBytes_12 : decode cX4_takesBytes 12 = .ok (.iload_n 1, 1) := by decide +kernel
theorem dX4_takesBytes_13 : decode cX4_takesBytes 13 = .ok (.aaload, 1) := by decide +kernel
theorem dX4_takesBytes_14 : decode cX4_takesBytes 14 = .ok (.getfield 229, 3) := by decide +kernel
theorem dX4_takesBytes_17 : decode cX4_takesBytes 17 = .ok (.ifCond .eq 7, 3) := by decide +kernel
theorem dX4_takesBytes_20 : decode cX4_takesBytes 20 = .ok (.iconst 1, 1) := by decide +kernel
theorem dX4_takesBytes_21 : decode cX4_takesBytes 21 = .ok (.goto 4, 3) := by decide +kernel
theorem dX4_takesBytes_24 : decode cX4_takesBytes 24 = .ok (.iconst 0, 1) := by decide +kernel
theorem dX4_takesBytes_25 : decode cX4_takesBytes 25 = .ok (.ireturn, 1) := by decide +kernel
theorem dX4_ticksOfNextByte_0 : decode cX4_ticksOfNextByte 0 = .ok (.aload_n 0, 1) := by decide +kernel
theorem dX4_ticksOfNextByte_1 : decode cX4_ticksOfNextByte 1 = .ok (.aload_n 0, 1) := by decide +kernel
theorem dX4_ticksOfNextByte_2 : decode cX4_ticksOfNextByte 2 = .ok (.getfield 89, 3) := by decide +kernel
theorem dX4_ticksOfNextByte_5 : decode cX4_ticksOfNextByte 5 = .ok (.invokevirtual 102, 3) := by decide +kernel
theorem dX4_ticksOfNextByte_8 : decode cX4_ticksOfNextByte 8 = .ok (.ifCond .eq 28, 3) := by decide +kernel
theorem dX4_ticksOfNextByte_11 : decode cX4_ticksOfNextByte 11 = .ok (.aload_n 0, 1) := by decide +kernel
theorem dX4_ticksOfNextByte_12 : decode cX4_ticksOfNextByte 12 = .ok (.getfield 98, 3) := by decide +kernel
theorem dX4_ticksOfNextByte_15 : decode cX4_ticksOfNextByte 15 = .ok (.ifCond .ne 24, 3) := by decide +kernel
theorem dX4_ticksOfNextByte_18 : decode cX4_ticksOfNextByte 18 = .ok (.aload_n 0, 1) := by decide +kernel
theorem dX4_ticksOfNextByte_19 : decode cX4_ticksOfNextByte 19 = .ok (.getfield 18, 3) := by decide +kernel
theorem dX4_ticksOfNextByte_22 : decode cX4_ticksOfNextByte 22 = .ok (.aload_n 0, 1) := by decide +kernel
theorem dX4_ticksOfNextByte_23 : decode cX4_ticksOfNextByte 23 = .ok (.getfield 89, 3) := by decide +kernel
theorem dX4_ticksOfNextByte_26 : decode cX4_ticksOfNextByte 26 = .ok (.aaload, 1) := by decide +kernel
theorem dX4_ticksOfNextByte_27 : decode cX4_ticksOfNextByte 27 = .ok (.getfield 106, 3) := by decide +kernel
theorem dX4_ticksOfNextByte_30 : decode cX4_ticksOfNextByte 30 = .ok (.getfield 269, 3) := by decide +kernel
theorem dX4_ticksOfNextByte_33 : decode cX4_ticksOfNextByte 33 = .ok (.ifCond .ne 6, 3) := by decide +kernel
theorem dX4_ticksOfNextByte_36 : decode cX4_ticksOfNextByte 36 = .ok (.bipush (-2), 2) := by decide +kernel
theorem dX4_ticksOfNextByte_38 : decode cX4_ticksOfNextByte 38 = .ok (.ireturn, 1) := by decide +kernel
theorem dX4_ticksOfNextByte_39 : decode cX4_ticksOfNextByte 39 = .ok (.iconst 0, 1) := by decide +kernel
theorem dX4_ticksOfNextByte_40 : decode cX4_ticksOfNextByte 40 = .ok (.istore_n 1, 1) := by decide +kernel
theorem dX4_ticksOfNextByte_41 : decode cX4_ticksOfNextByte 41 = .ok (.iconst 0, 1) := by decide +kernel
theorem dX4_ticksOfNextByte_42 : decode cX4_ticksOfNextByte 42 = .ok (.istore_n 2, 1) := by decide +kernel
theorem dX4_ticksOfNextByte_43 : decode cX4_ticksOfNextByte 43 = .ok (.iload_n 2, 1) := by decide +kernel
theorem dX4_ticksOfNextByte_44 : decode cX4_ticksOfNextByte 44 = .ok (.aload_n 0, 1) := by decide +kernel
theorem dX4_ticksOfNextByte_45 : decode cX4_ticksOfNextByte 45 = .ok (.getfield 63, 3) := by decide +kernel
theorem dX4_ticksOfNextByte_48 : decode cX4_ticksOfNextByte 48 = .ok (.if_icmp .ge 51, 3) := by decide +kernel
theorem dX4_ticksOfNextByte_51 : decode cX4_ticksOfNextByte 51 = .ok (.aload_n 0, 1) := by decide +kernel
theorem dX4_ticksOfNextByte_52 : decode cX4_ticksOfNextByte 52 = .ok (.iload_n 2, 1) := by decide +kernel
theorem dX4_ticksOfNextByte_53 : decode cX4_ticksOfNextByte 53 = .ok (.invokevirtual 270, 3) := by decide +kernel
theorem dX4_ticksOfNextByte_56 : decode cX4_ticksOfNextByte 56 = .ok (.ifCond .eq 37, 3) := by decide +kernel
theorem dX4_ticksOfNextByte_59 : decode cX4_ticksOfNextByte 59 = .ok (.aload_n 0, 1) := by decide +kernel
theorem dX4_ticksOfNextByte_60 : decode cX4_ticksOfNextByte 60 = .ok (.getfield 18, 3) := by decide +kernel
theorem dX4_ticksOfNextByte_63 : decode cX4_ticksOfNextByte 63 = .ok (.iload_n 2, 1) := by decide +kernel
theorem dX4_ticksOfNextByte_64 : decode cX4_ticksOfNextByte 64 = .ok (.aaload, 1) := by decide +kernel
theorem dX4_ticksOfNextByte_65 : decode cX4_ticksOfNextByte 65 = .ok (.getfield 113, 3) := by decide +kernel
theorem dX4_ticksOfNextByte_68 : decode cX4_ticksOfNextByte 68 = .ok (.getfield 269, 3) := by decide +kernel
theorem dX4_ticksOfNextByte_71 : decode cX4_ticksOfNextByte 71 = .ok (.bipush 12, 2) := by decide +kernel
theorem dX4_ticksOfNextByte_73 : decode cX4_ticksOfNextByte 73 = .ok (.if_icmp .lt 6, 3) := by decide +kernel
theorem dX4_ticksOfNextByte_76 : decode cX4_ticksOfNextByte 76 = .ok (.bipush (-2), 2) := by decide +kernel
theorem dX4_ticksOfNextByte_78 : decode cX4_ticksOfNextByte 78 = .ok (.ireturn, 1) := by decide +kernel
theorem dX4_ticksOfNextByte_79 : decode cX4_ticksOfNextByte 79 = .ok (.iload_n 1, 1) := by decide +kernel
theorem dX4_ticksOfNextByte_80 : decode cX4_ticksOfNextByte 80 = .ok (.aload_n 0, 1) := by decide +kernel
theorem dX4_ticksOfNextByte_81 : decode cX4_ticksOfNextByte 81 = .ok (.getfield 18, 3) := by decide +kernel
theorem dX4_ticksOfNextByte_84 : decode cX4_ticksOfNextByte 84 = .ok (.iload_n 2, 1) := by decide +kernel
theorem dX4_ticksOfNextByte_85 : decode cX4_ticksOfNextByte 85 = .ok (.aaload, 1) := by decide +kernel
theorem dX4_ticksOfNextByte_86 : decode cX4_ticksOfNextByte 86 = .ok (.getfield 144, 3) := by decide +kernel
theorem dX4_ticksOfNextByte_89 : decode cX4_ticksOfNextByte 89 = .ok (.invokestatic 192, 3) := by decide +kernel
theorem dX4_ticksOfNextByte_92 : decode cX4_ticksOfNextByte 92 = .ok (.istore_n 1, 1) := by decide +kernel
theorem dX4_ticksOfNextByte_93 : decode cX4_ticksOfNextByte 93 = .ok (.iinc 2 1, 3) := by decide +kernel
theorem dX4_ticksOfNextByte_96 : decode cX4_ticksOfNextByte 96 = .ok (.goto (-53), 3) := by decide +kernel
theorem dX4_ticksOfNextByte_99 : decode cX4_ticksOfNextByte 99 = .ok (.iload_n 1, 1) := by decide +kernel
theorem dX4_ticksOfNextByte_100 : decode cX4_ticksOfNextByte 100 = .ok (.ifCond .ne 8, 3) := by decide +kernel
theorem dX4_ticksOfNextByte_103 : decode cX4_ticksOfNextByte 103 = .ok (.bipush (-2), 2) := by decide +kernel
theorem dX4_ticksOfNextByte_105 : decode cX4_ticksOfNextByte 105 = .ok (.goto 6, 3) := by decide +kernel
theorem dX4_ticksOfNextByte_108 : decode cX4_ticksOfNextByte 108 = .ok (.iload_n 1, 1) := by decide +kernel
theorem dX4_ticksOfNextByte_109 : decode cX4_ticksOfNextByte 109 = .ok (.iconst 2, 1) := by decide +kernel
theorem dX4_ticksOfNextByte_110 : decode cX4_ticksOfNextByte 110 = .ok (.iadd, 1) := by decide +kernel
theorem dX4_ticksOfNextByte_111 : decode cX4_ticksOfNextByte 111 = .ok (.ireturn, 1) := by decide +kernel
theorem dX4_giveByte_0 : decode cX4_giveByte 0 = .ok (.aload_n 0, 1) := by decide +kernel
theorem dX4_giveByte_1 : decode cX4_giveByte 1 = .ok (.invokevirtual 166, 3) := by decide +kernel
theorem dX4_giveByte_4 : decode cX4_giveByte 4 = .ok (.istore_n 1, 1) := by decide +kernel
theorem dX4_giveByte_5 : decode cX4_giveByte 5 = .ok (.iload_n 1, 1) := by decide +kernel
theorem dX4_giveByte_6 : decode cX4_giveByte 6 = .ok (.bipush (-2), 2) := by decide +kernel
theorem dX4_giveByte_8 : decode cX4_giveByte 8 = .ok (.if_icmp .eq 14, 3) := by decide +kernel
theorem dX4_giveByte_11 : decode cX4_giveByte 11 = .ok (.aload_n 0, 1) := by decide +kernel
theorem dX4_giveByte_12 : decode cX4_giveByte 12 = .ok (.aload_n 0, 1) := by decide +kernel
theorem dX4_giveByte_13 : decode cX4_giveByte 13 = .ok (.getfield 89, 3) := by decide +kernel
theorem dX4_giveByte_16 : decode cX4_giveByte 16 = .ok (.invokevirtual 102, 3) := by decide +kernel
theorem dX4_giveByte_19 : decode cX4_giveByte 19 = .ok (.ifCond .ne 6, 3) := by decide +kernel
theorem dX4_giveByte_22 : decode cX4_giveByte 22 = .ok (.bipush (-2), 2) := by decide +kernel
theorem dX4_giveByte_24 : decode cX4_giveByte 24 = .ok (.ireturn, 1) := by decide +kernel
theorem dX4_giveByte_25 : decode cX4_giveByte 25 = .ok (.aload_n 0, 1) := by decide +kernel
theorem dX4_giveByte_26 : decode cX4_giveByte 26 = .ok (.iload_n 1, 1) := by decide +kernel
theorem dX4_giveByte_27 : decode cX4_giveByte 27 = .ok (.invokevirtual 76, 3) := by decide +kernel
theorem dX4_giveByte_30 : decode cX4_giveByte 30 = .ok (.aload_n 0, 1) := by decide +kernel
theorem dX4_giveByte_31 : decode cX4_giveByte 31 = .ok (.getfield 98, 3) := by decide +kernel
theorem dX4_giveByte_34 : decode cX4_giveByte 34 = .ok (.ifCond .eq 32, 3) := by decide +kernel
theorem dX4_giveByte_37 : decode cX4_giveByte 37 = .ok (.aload_n 0, 1) := by decide +kernel
theorem dX4_giveByte_38 : decode cX4_giveByte 38 = .ok (.getfield 18, 3) := by decide +kernel
theorem dX4_giveByte_41 : decode cX4_giveByte 41 = .ok (.aload_n 0, 1) := by decide +kernel
theorem dX4_giveByte_42 : decode cX4_giveByte 42 = .ok (.getfield 89, 3) := by decide +kernel
theorem dX4_giveByte_45 : decode cX4_giveByte 45 = .ok (.aaload, 1) := by decide +kernel
theorem dX4_giveByte_46 : decode cX4_giveByte 46 = .ok (.invokevirtual 119, 3) := by decide +kernel
theorem dX4_giveByte_49 : decode cX4_giveByte 49 = .ok (.istore_n 2, 1) := by decide +kernel
theorem dX4_giveByte_50 : decode cX4_giveByte 50 = .ok (.aload_n 0, 1) := by decide +kernel
theorem dX4_giveByte_51 : decode cX4_giveByte 51 = .ok (.getfield 18, 3) := by decide +kernel
theorem dX4_giveByte_54 : decode cX4_giveByte 54 = .ok (.aload_n 0, 1) := by decide +kernel
theorem dX4_giveByte_55 : decode cX4_giveByte 55 = .ok (.getfield 89, 3) := by decide +kernel
theorem dX4_giveByte_58 : decode cX4_giveByte 58 = .ok (.aaload, 1) := by decide +kernel
theorem dX4_giveByte_59 : decode cX4_giveByte 59 = .ok (.iconst 0, 1) := by decide +kernel
theorem dX4_giveByte_60 : decode cX4_giveByte 60 = .ok (.putfield 125, 3) := by decide +kernel
theorem dX4_giveByte_63 : decode cX4_giveByte 63 = .ok (.goto 19, 3) := by decide +kernel
theorem dX4_giveByte_66 : decode cX4_giveByte 66 = .ok (.aload_n 0, 1) := by decide +kernel
theorem dX4_giveByte_67 : decode cX4_giveByte 67 = .ok (.getfield 18, 3) := by decide +kernel
theorem dX4_giveByte_70 : decode cX4_giveByte 70 = .ok (.aload_n 0, 1) := by decide +kernel
theorem dX4_giveByte_71 : decode cX4_giveByte 71 = .ok (.getfield 89, 3) := by decide +kernel
theorem dX4_giveByte_74 : decode cX4_giveByte 74 = .ok (.aaload, 1) := by decide +kernel
theorem dX4_giveByte_75 : decode cX4_giveByte 75 = .ok (.getfield 106, 3) := by decide +kernel
theorem dX4_giveByte_78 : decode cX4_giveByte 78 = .ok (.invokevirtual 116, 3) := by decide +kernel
theorem dX4_giveByte_81 : decode cX4_giveByte 81 = .ok (.istore_n 2, 1) := by decide +kernel
theorem dX4_giveByte_82 : decode cX4_giveByte 82 = .ok (.iconst 0, 1) := by decide +kernel
theorem dX4_giveByte_83 : decode cX4_giveByte 83 = .ok (.istore_n 3, 1) := by decide +kernel
theorem dX4_giveByte_84 : decode cX4_giveByte 84 = .ok (.iload_n 3, 1) := by decide +kernel
theorem dX4_giveByte_85 : decode cX4_giveByte 85 = .ok (.aload_n 0, 1) := by decide +kernel
theorem dX4_giveByte_86 : decode cX4_giveByte 86 = .ok (.getfield 63, 3) := by decide +kernel
theorem dX4_giveByte_89 : decode cX4_giveByte 89 = .ok (.if_icmp .ge 41, 3) := by decide +kernel
theorem dX4_giveByte_92 : decode cX4_giveByte 92 = .ok (.aload_n 0, 1) := by decide +kernel
theorem dX4_giveByte_93 : decode cX4_giveByte 93 = .ok (.iload_n 3, 1) := by decide +kernel
theorem dX4_giveByte_94 : decode cX4_giveByte 94 = .ok (.invokevirtual 270, 3) := by decide +kernel
theorem dX4_giveByte_97 : decode cX4_giveByte 97 = .ok (.ifCond .eq 27, 3) := by decide +kernel
theorem dX4_giveByte_100 : decode cX4_giveByte 100 = .ok (.aload_n 0, 1) := by decide +kernel
theorem dX4_giveByte_101 : decode cX4_giveByte 101 = .ok (.getfield 18, 3) := by decide +kernel
theorem dX4_giveByte_104 : decode cX4_giveByte 104 = .ok (.iload_n 3, 1) := by decide +kernel
theorem dX4_giveByte_105 : decode cX4_giveByte 105 = .ok (.aaload, 1) := by decide +kernel
theorem dX4_giveByte_106 : decode cX4_giveByte 106 = .ok (.getfield 113, 3) := by decide +kernel
theorem dX4_giveByte_109 : decode cX4_giveByte 109 = .ok (.iload_n 2, 1) := by decide +kernel
theorem dX4_giveByte_110 : decode cX4_giveByte 110 = .ok (.invokevirtual 110, 3) := by decide +kernel
theorem dX4_giveByte_113 : decode cX4_giveByte 113 = .ok (.pop, 1) := by decide +kernel
theorem dX4_giveByte_114 : decode cX4_giveByte 114 = .ok (.aload_n 0, 1) := by decide +kernel
theorem dX4_giveByte_115 : decode cX4_giveByte 115 = .ok (.getfield 30, 3) := by decide +kernel
theorem dX4_giveByte_118 : decode cX4_giveByte 118 = .ok (.iconst 2, 1) := by decide +kernel
theorem dX4_giveByte_119 : decode cX4_giveByte 119 = .ok (.dup2, 1) := by decide +kernel
theorem dX4_giveByte_120 : decode cX4_giveByte 120 = .ok (.iaload, 1) := by decide +kernel
theorem dX4_giveByte_121 : decode cX4_giveByte 121 = .ok (.iconst 1, 1) := by decide +kernel
theorem dX4_giveByte_122 : decode cX4_giveByte 122 = .ok (.iadd, 1) := by decide +kernel
theorem dX4_giveByte_123 : decode cX4_giveByte 123 = .ok (.iastore, 1) := by decide +kernel
theorem dX4_giveByte_124 : decode cX4_giveByte 124 = .ok (.iinc 3 1, 3) := by decide +kernel
theorem dX4_giveByte_127 : decode cX4_giveByte 127 = .ok (.goto (-43), 3) := by decide +kernel
theorem dX4_giveByte_130 : decode cX4_giveByte 130 = .ok (.aload_n 0, 1) := by decide +kernel
theorem dX4_giveByte_131 : decode cX4_giveByte 131 = .ok (.getfield 30, 3) := by decide +kernel
theorem dX4_giveByte_134 : decode cX4_giveByte 134 = .ok (.iconst 1, 1) := by decide +kernel
theorem dX4_giveByte_135 : decode cX4_giveByte 135 = .ok (.dup2, 1) := by decide +kernel
theorem dX4_giveByte_136 : decode cX4_giveByte 136 = .ok (.iaload, 1) := by decide +kernel
theorem dX4_giveByte_137 : decode cX4_giveByte 137 = .ok (.iconst 1, 1) := by decide +kernel
theorem dX4_giveByte_138 : decode cX4_giveByte 138 = .ok (.iadd, 1) := by decide +kernel
theorem dX4_giveByte_139 : decode cX4_giveByte 139 = .ok (.iastore, 1) := by decide +kernel
theorem dX4_giveByte_140 : decode cX4_giveByte 140 = .ok (.iload_n 2, 1) := by decide +kernel
theorem dX4_giveByte_141 : decode cX4_giveByte 141 = .ok (.ireturn, 1) := by decide +kernel
theorem dX4_listenerBits_0 : decode cX4_listenerBits 0 = .ok (.iconst 0, 1) := by decide +kernel
theorem dX4_listenerBits_1 : decode cX4_listenerBits 1 = .ok (.istore_n 1, 1) := by decide +kernel
theorem dX4_listenerBits_2 : decode cX4_listenerBits 2 = .ok (.iconst 0, 1) := by decide +kernel
theorem dX4_listenerBits_3 : decode cX4_listenerBits 3 = .ok (.istore_n 2, 1) := by decide +kernel
theorem dX4_listenerBits_4 : decode cX4_listenerBits 4 = .ok (.iload_n 2, 1) := by decide +kernel
theorem dX4_listenerBits_5 : decode cX4_listenerBits 5 = .ok (.aload_n 0, 1) := by decide +kernel
theorem dX4_listenerBits_6 : decode cX4_listenerBits 6 = .ok (.getfield 63, 3) := by decide +kernel
theorem dX4_listenerBits_9 : decode cX4_listenerBits 9 = .ok (.if_icmp .ge 27, 3) := by decide +kernel
theorem dX4_listenerBits_12 : decode cX4_listenerBits 12 = .ok (.aload_n 0, 1) := by decide +kernel
theorem dX4_listenerBits_13 : decode cX4_listenerBits 13 = .ok (.getfield 18, 3) := by decide +kernel
theorem dX4_listenerBits_16 : decode cX4_listenerBits 16 = .ok (.iload_n 2, 1) := by decide +kernel
theorem dX4_listenerBits_17 : decode cX4_listenerBits 17 = .ok (.aaload, 1) := by decide +kernel
theorem dX4_listenerBits_18 : decode cX4_listenerBits 18 = .ok (.getfield 229, 3) := by decide +kernel
theorem dX4_listenerBits_21 : decode cX4_listenerBits 21 = .ok (.ifCond .eq 9, 3) := by decide +kernel
theorem dX4_listenerBits_24 : decode cX4_listenerBits 24 = .ok (.iload_n 1, 1) := by decide +kernel
theorem dX4_listenerBits_25 : decode cX4_listenerBits 25 = .ok (.iconst 1, 1) := by decide +kernel
theorem dX4_listenerBits_26 : decode cX4_listenerBits 26 = .ok (.iload_n 2, 1) := by decide +kernel
theorem dX4_listenerBits_27 : decode cX4_listenerBits 27 = .ok (.ishl, 1) := by decide +kernel
theorem dX4_listenerBits_28 : decode cX4_listenerBits 28 = .ok (.ior, 1) := by decide +kernel
theorem dX4_listenerBits_29 : decode cX4_listenerBits 29 = .ok (.istore_n 1, 1) := by decide +kernel
theorem dX4_listenerBits_30 : decode cX4_listenerBits 30 = .ok (.iinc 2 1, 3) := by decide +kernel
theorem dX4_listenerBits_33 : decode cX4_listenerBits 33 = .ok (.goto (-29), 3) := by decide +kernel
theorem dX4_listenerBits_36 : decode cX4_listenerBits 36 = .ok (.iload_n 1, 1) := by decide +kernel
theorem dX4_listenerBits_37 : decode cX4_listenerBits 37 = .ok (.ireturn, 1) := by decide +kernel
theorem dX4_someoneAsks_0 : decode cX4_someoneAsks 0 = .ok (.iconst 0, 1) := by decide +kernel
theorem dX4_someoneAsks_1 : decode cX4_someoneAsks 1 = .ok (.istore_n 1, 1) := by decide +kernel
theorem dX4_someoneAsks_2 : decode cX4_someoneAsks 2 = .ok (.iload_n 1, 1) := by decide +kernel
theorem dX4_someoneAsks_3 : decode cX4_someoneAsks 3 = .ok (.aload_n 0, 1) := by decide +kernel
theorem dX4_someoneAsks_4 : decode cX4_someoneAsks 4 = .ok (.getfield 63, 3) := by decide +kernel
theorem dX4_someoneAsks_7 : decode cX4_someoneAsks 7 = .ok (.if_icmp .ge 23, 3) := by decide +kernel
theorem dX4_someoneAsks_10 : decode cX4_someoneAsks 10 = .ok (.aload_n 0, 1) := by decide +kernel
theorem dX4_someoneAsks_11 : decode cX4_someoneAsks 11 = .ok (.getfield 18, 3) := by decide +kernel
theorem dX4_someoneAsks_14 : decode cX4_someoneAsks 14 = .ok (.iload_n 1, 1) := by decide +kernel
theorem dX4_someoneAsks_15 : decode cX4_someoneAsks 15 = .ok (.aaload, 1) := by decide +kernel
theorem dX4_someoneAsks_16 : decode cX4_someoneAsks 16 = .ok (.getfield 125, 3) := by decide +kernel
theorem dX4_someoneAsks_19 : decode cX4_someoneAsks 19 = .ok (.ifCond .eq 5, 3) := by decide +kernel
theorem dX4_someoneAsks_22 : decode cX4_someoneAsks 22 = .ok (.iconst 1, 1) := by decide +kernel
theorem dX4_someoneAsks_23 : decode cX4_someoneAsks 23 = .ok (.ireturn, 1) := by decide +kernel
theorem dX4_someoneAsks_24 : decode cX4_someoneAsks 24 = .ok (.iinc 1 1, 3) := by decide +kernel
theorem dX4_someoneAsks_27 : decode cX4_someoneAsks 27 = .ok (.goto (-25), 3) := by decide +kernel
theorem dX4_someoneAsks_30 : decode cX4_someoneAsks 30 = .ok (.iconst 0, 1) := by decide +kernel
theorem dX4_someoneAsks_31 : decode cX4_someoneAsks 31 = .ok (.ireturn, 1) := by decide +kernel
