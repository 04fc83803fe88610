theorem dX0_init_0 : decode cX0_init 0 = .ok (.aload_n 0, 1) := by decide +kernel
theorem dX0_init_1 : decode cX0_init 1 = .ok (.invokespecial 3, 3) := by decide +kernel
theorem dX0_init_4 : decode cX0_init 4 = .ok (.aload_n 0, 1) := by decide +kernel
theorem dX0_init_5 : decode cX0_init 5 = .ok (.bipush 10, 2) := by decide +kernel
theorem dX0_init_7 : decode cX0_init 7 = .ok (.anewarray 9, 3) := by decide +kernel
theorem dX0_init_10 : decode cX0_init 10 = .ok (.putfield 11, 3) := by decide +kernel
theorem dX0_init_13 : decode cX0_init 13 = .ok (.aload_n 0, 1) := by decide +kernel
theorem dX0_init_14 : decode cX0_init 14 = .ok (.bipush 6, 2) := by decide +kernel
theorem dX0_init_16 : decode cX0_init 16 = .ok (.newarray .int, 2) := by decide +kernel
theorem dX0_init_18 : decode cX0_init 18 = .ok (.putfield 17, 3) := by decide +kernel
theorem dX0_init_21 : decode cX0_init 21 = .ok (.aload_n 0, 1) := by decide +kernel
theorem dX0_init_22 : decode cX0_init 22 = .ok (.bipush 6, 2) := by decide +kernel
theorem dX0_init_24 : decode cX0_init 24 = .ok (.newarray .int, 2) := by decide +kernel
theorem dX0_init_26 : decode cX0_init 26 = .ok (.putfield 21, 3) := by decide +kernel
theorem dX0_init_29 : decode cX0_init 29 = .ok (.aload_n 0, 1) := by decide +kernel
theorem dX0_init_30 : decode cX0_init 30 = .ok (.bipush 60, 2) := by decide +kernel
theorem dX0_init_32 : decode cX0_init 32 = .ok (.putfield 24, 3) := by decide +kernel
theorem dX0_init_35 : decode cX0_init 35 = .ok (.aload_n 0, 1) := by decide +kernel
theorem dX0_init_36 : decode cX0_init 36 = .ok (.iconst 3, 1) := by decide +kernel
theorem dX0_init_37 : decode cX0_init 37 = .ok (.newarray .int, 2) := by decide +kernel
theorem dX0_init_39 : decode cX0_init 39 = .ok (.putfield 28, 3) := by decide +kernel
theorem dX0_init_42 : decode cX0_init 42 = .ok (.return_, 1) := by decide +kernel
theorem dX0_find_0 : decode cX0_find 0 = .ok (.iload_n 1, 1) := by decide +kernel
theorem dX0_find_1 : decode cX0_find 1 = .ok (.ifCond .lt 26, 3) := by decide +kernel
theorem dX0_find_4 : decode cX0_find 4 = .ok (.iload_n 1, 1) := by decide +kernel
theorem dX0_find_5 : decode cX0_find 5 = .ok (.aload_n 0, 1) := by decide +kernel
theorem dX0_find_6 : decode cX0_find 6 = .ok (.getfield 31, 3) := by decide +kernel
theorem dX0_find_9 : decode cX0_find 9 = .ok (.if_icmp .ge 18, 3) := by decide +kernel
theorem dX0_find_12 : decode cX0_find 12 = .ok (.iload_n 1, 1) := by decide +kernel
theorem dX0_find_13 : decode cX0_find 13 = .ok (.bipush 10, 2) := by decide +kernel
theorem dX0_find_15 : decode cX0_find 15 = .ok (.if_icmp .ge 12, 3) := by decide +kernel
theorem dX0_find_18 : decode cX0_find 18 = .ok (.aload_n 0, 1) := by decide +kernel
theorem dX0_find_19 : decode cX0_find 19 = .ok (.getfield 11, 3) := by decide +kernel
theorem dX0_find_22 : decode cX0_find 22 = .ok (.iload_n 1, 1) := by decide +kernel
theorem dX0_find_23 : decode cX0_find 23 = .ok (.aaload, 1) := by decide +kernel
theorem dX0_find_24 : decode cX0_find 24 = .ok (.goto 4, 3) := by decide +kernel
theorem dX0_find_27 : decode cX0_find 27 = .ok (.aconst_null, 1) := by decide +kernel
theorem dX0_find_28 : decode cX0_find 28 = .ok (.areturn, 1) := by decide +kernel
theorem dX0_grow_0 : decode cX0_grow 0 = .ok (.aload_n 0, 1) := by decide +kernel
theorem dX0_grow_1 : decode cX0_grow 1 = .ok (.getfield 31, 3) := by decide +kernel
theorem dX0_grow_4 : decode cX0_grow 4 = .ok (.ifCond .lt 12, 3) := by decide +kernel
theorem dX0_grow_7 : decode cX0_grow 7 = .ok (.aload_n 0, 1) := by decide +kernel
theorem dX0_grow_8 : decode cX0_grow 8 = .ok (.getfield 31, 3) := by decide +kernel
theorem dX0_grow_11 : decode cX0_grow 11 = .ok (.bipush 10, 2) := by decide +kernel
theorem dX0_grow_13 : decode cX0_grow 13 = .ok (.if_icmp .lt 5, 3) := by decide +kernel
theorem dX0_grow_16 : decode cX0_grow 16 = .ok (.aconst_null, 1) := by decide +kernel
theorem dX0_grow_17 : decode cX0_grow 17 = .ok (.areturn, 1) := by decide +kernel
theorem dX0_grow_18 : decode cX0_grow 18 = .ok (.aload_n 0, 1) := by decide +kernel
theorem dX0_grow_19 : decode cX0_grow 19 = .ok (.getfield 11, 3) := by decide +kernel
theorem dX0_grow_22 : decode cX0_grow 22 = .ok (.aload_n 0, 1) := by decide +kernel
theorem dX0_grow_23 : decode cX0_grow 23 = .ok (.getfield 31, 3) := by decide +kernel
theorem dX0_grow_26 : decode cX0_grow 26 = .ok (.aaload, 1) := by decide +kernel
theorem dX0_grow_27 : decode cX0_grow 27 = .ok (.astore_n 1, 1) := by decide +kernel
theorem dX0_grow_28 : decode cX0_grow 28 = .ok (.aload_n 1, 1) := by decide +kernel
theorem dX0_grow_29 : decode cX0_grow 29 = .ok (.ifnonnull 21, 3) := by decide +kernel
theorem dX0_grow_32 : decode cX0_grow 32 = .ok (.new 9, 3) := by decide +kernel
theorem dX0_grow_35 : decode cX0_grow 35 = .ok (.dup, 1) := by decide +kernel
theorem dX0_grow_36 : decode cX0_grow 36 = .ok (.invokespecial 34, 3) := by decide +kernel
theorem dX0_grow_39 : decode cX0_grow 39 = .ok (.astore_n 1, 1) := by decide +kernel
theorem dX0_grow_40 : decode cX0_grow 40 = .ok (.aload_n 0, 1) := by decide +kernel
theorem dX0_grow_41 : decode cX0_grow 41 = .ok (.getfield 11, 3) := by decide +kernel
theorem dX0_grow_44 : decode cX0_grow 44 = .ok (.aload_n 0, 1) := by decide +kernel
theorem dX0_grow_45 : decode cX0_grow 45 = .ok (.getfield 31, 3) := by decide +kernel
theorem dX0_grow_48 : decode cX0_grow 48 = .ok (.aload_n 1, 1) := by decide +kernel
theorem dX0_grow_49 : decode cX0_grow 49 = .ok (.aastore, 1) := by decide +kernel
theorem dX0_grow_50 : decode cX0_grow 50 = .ok (.aload_n 0, 1) := by decide +kernel
theorem dX0_grow_51 : decode cX0_grow 51 = .ok (.dup, 1) := by decide +kernel
theorem dX0_grow_52 : decode cX0_grow 52 = .ok (.getfield 31, 3) := by decide +kernel
theorem dX0_grow_55 : decode cX0_grow 55 = .ok (.iconst 1, 1) := by decide +kernel
theorem dX0_grow_56 : decode cX0_grow 56 = .ok (.iadd, 1) := by decide +kernel
theorem dX0_grow_57 : decode cX0_grow 57 = .ok (.putfield 31, 3) := by decide +kernel
theorem dX0_grow_60 : decode cX0_grow 60 = .ok (.aload_n 1, 1) := by decide +kernel
theorem dX0_grow_61 : decode cX0_grow 61 = .ok (.areturn, 1) := by decide +kernel
theorem dX0_hasRoute_0 : decode cX0_hasRoute 0 = .ok (.iload_n 1, 1) := by decide +kernel
theorem dX0_hasRoute_1 : decode cX0_hasRoute 1 = .ok (.ifCond .lt 21, 3) := by decide +kernel
theorem dX0_hasRoute_4 : decode cX0_hasRoute 4 = .ok (.iload_n 1, 1) := by decide +kernel
theorem dX0_hasRoute_5 : decode cX0_hasRoute 5 = .ok (.aload_n 0, 1) := by decide +kernel
theorem dX0_hasRoute_6 : decode cX0_hasRoute 6 = .ok (.getfield 39, 3) := by decide +kernel
theorem dX0_hasRoute_9 : decode cX0_hasRoute 9 = .ok (.if_icmp .ge 13, 3) := by decide +kernel
theorem dX0_hasRoute_12 : decode cX0_hasRoute 12 = .ok (.iload_n 1, 1) := by decide +kernel
theorem dX0_hasRoute_13 : decode cX0_hasRoute 13 = .ok (.bipush 6, 2) := by decide +kernel
theorem dX0_hasRoute_15 : decode cX0_hasRoute 15 = .ok (.if_icmp .ge 7, 3) := by decide +kernel
theorem dX0_hasRoute_18 : decode cX0_hasRoute 18 = .ok (.iconst 1, 1) := by decide +kernel
theorem dX0_hasRoute_19 : decode cX0_hasRoute 19 = .ok (.goto 4, 3) := by decide +kernel
theorem dX0_hasRoute_22 : decode cX0_hasRoute 22 = .ok (.iconst 0, 1) := by decide +kernel
theorem dX0_hasRoute_23 : decode cX0_hasRoute 23 = .ok (.ireturn, 1) := by decide +kernel
theorem dX0_firstPlace_0 : decode cX0_firstPlace 0 = .ok (.aload_n 0, 1) := by decide +kernel
theorem dX0_firstPlace_1 : decode cX0_firstPlace 1 = .ok (.iload_n 1, 1) := by decide +kernel
theorem dX0_firstPlace_2 : decode cX0_firstPlace 2 = .ok (.invokevirtual 42, 3) := by decide +kernel
theorem dX0_firstPlace_5 : decode cX0_firstPlace 5 = .ok (.ifCond .eq 12, 3) := by decide +kernel
theorem dX0_firstPlace_8 : decode cX0_firstPlace 8 = .ok (.aload_n 0, 1) := by decide +kernel
theorem dX0_firstPlace_9 : decode cX0_firstPlace 9 = .ok (.getfield 17, 3) := by decide +kernel
theorem dX0_firstPlace_12 : decode cX0_firstPlace 12 = .ok (.iload_n 1, 1) := by decide +kernel
theorem dX0_firstPlace_13 : decode cX0_firstPlace 13 = .ok (.iaload, 1) := by decide +kernel
theorem dX0_firstPlace_14 : decode cX0_firstPlace 14 = .ok (.goto 4, 3) := by decide +kernel
theorem dX0_firstPlace_17 : decode cX0_firstPlace 17 = .ok (.iconst 0, 1) := by decide +kernel
theorem dX0_firstPlace_18 : decode cX0_firstPlace 18 = .ok (.ireturn, 1) := by decide +kernel
theorem dX0_lastPlace_0 : decode cX0_lastPlace 0 = .ok (.aload_n 0, 1) := by decide +kernel
theorem dX0_lastPlace_1 : decode cX0_lastPlace 1 = .ok (.iload_n 1, 1) := by decide +kernel
theorem dX0_lastPlace_2 : decode cX0_lastPlace 2 = .ok (.invokevirtual 42, 3) := by decide +kernel
theorem dX0_lastPlace_5 : decode cX0_lastPlace 5 = .ok (.ifCond .eq 12, 3) := by decide +kernel
theorem dX0_lastPlace_8 : decode cX0_lastPlace 8 = .ok (.aload_n 0, 1) := by decide +kernel
theorem dX0_lastPlace_9 : decode cX0_lastPlace 9 = .ok (.getfield 21, 3) := by decide +kernel
theorem dX0_lastPlace_12 : decode cX0_lastPlace 12 = .ok (.iload_n 1, 1) := by decide +kernel
theorem dX0_lastPlace_13 : decode cX0_lastPlace 13 = .ok (.iaload, 1) := by decide +kernel
theorem dX0_lastPlace_14 : decode cX0_lastPlace 14 = .ok (.goto 4, 3) := by decide +kernel
theorem dX0_lastPlace_17 : decode cX0_lastPlace 17 = .ok (.iconst 0, 1) := by decide +kernel
theorem dX0_lastPlace_18 : decode cX0_lastPlace 18 = .ok (.ireturn, 1) := by decide +kernel
theorem dX0_appendRoute_0 : decode cX0_appendRoute 0 = .ok (.aload_n 0, 1) := by decide +kernel
theorem dX0_appendRoute_1 : decode cX0_appendRoute 1 = .ok (.getfield 39, 3) := by decide +kernel
theorem dX0_appendRoute_4 : decode cX0_appendRoute 4 = .ok (.ifCond .lt 42, 3) := by decide +kernel
theorem dX0_appendRoute_7 : decode cX0_appendRoute 7 = .ok (.aload_n 0, 1) := by decide +kernel
theorem dX0_appendRoute_8 : decode cX0_appendRoute 8 = .ok (.getfield 39, 3) := by decide +kernel
theorem dX0_appendRoute_11 : decode cX0_appendRoute 11 = .ok (.bipush 6, 2) := by decide +kernel
theorem dX0_appendRoute_13 : decode cX0_appendRoute 13 = .ok (.if_icmp .ge 33, 3) := by decide +kernel
theorem dX0_appendRoute_16 : decode cX0_appendRoute 16 = .ok (.aload_n 0, 1) := by decide +kernel
theorem dX0_appendRoute_17 : decode cX0_appendRoute 17 = .ok (.getfield 17, 3) := by decide +kernel
theorem dX0_appendRoute_20 : decode cX0_appendRoute 20 = .ok (.aload_n 0, 1) := by decide +kernel
theorem dX0_appendRoute_21 : decode cX0_appendRoute 21 = .ok (.getfield 39, 3) := by decide +kernel
theorem dX0_appendRoute_24 : decode cX0_appendRoute 24 = .ok (.iload_n 1, 1) := by decide +kernel
theorem dX0_appendRoute_25 : decode cX0_appendRoute 25 = .ok (.iastore, 1) := by decide +kernel
theorem dX0_appendRoute_26 : decode cX0_appendRoute 26 = .ok (.aload_n 0, 1) := by decide +kernel
theorem dX0_appendRoute_27 : decode cX0_appendRoute 27 = .ok (.getfield 21, 3) := by decide +kernel
theorem dX0_appendRoute_30 : decode cX0_appendRoute 30 = .ok (.aload_n 0, 1) := by decide +kernel
theorem dX0_appendRoute_31 : decode cX0_appendRoute 31 = .ok (.getfield 39, 3) := by decide +kernel
theorem dX0_appendRoute_34 : decode cX0_appendRoute 34 = .ok (.iload_n 2, 1) := by decide +kernel
theorem dX0_appendRoute_35 : decode cX0_appendRoute 35 = .ok (.iastore, 1) := by decide +kernel
theorem dX0_appendRoute_36 : decode cX0_appendRoute 36 = .ok (.aload_n 0, 1) := by decide +kernel
theorem dX0_appendRoute_37 : decode cX0_appendRoute 37 = .ok (.dup, 1) := by decide +kernel
theorem dX0_appendRoute_38 : decode cX0_appendRoute 38 = .ok (.getfield 39, 3) := by decide +kernel
theorem dX0_appendRoute_41 : decode cX0_appendRoute 41 = .ok (.iconst 1, 1) := by decide +kernel
theorem dX0_appendRoute_42 : decode cX0_appendRoute 42 = .ok (.iadd, 1) := by decide +kernel
theorem dX0_appendRoute_43 : decode cX0_appendRoute 43 = .ok (.putfield 39, 3) := by decide +kernel
theorem dX0_appendRoute_46 : decode cX0_appendRoute 46 = .ok (.return_, 1) := by decide +kernel
theorem dX0_copyFrom_0 : decode cX0_copyFrom 0 = .ok (.aload_n 0, 1) := by decide +kernel
theorem dX0_copyFrom_1 : decode cX0_copyFrom 1 = .ok (.aload_n 1, 1) := by decide +kernel
theorem dX0_copyFrom_2 : decode cX0_copyFrom 2 = .ok (.invokevirtual 46, 3) := by decide +kernel
theorem dX0_copyFrom_5 : decode cX0_copyFrom 5 = .ok (.aload_n 0, 1) := by decide +kernel
theorem dX0_copyFrom_6 : decode cX0_copyFrom 6 = .ok (.aload_n 1, 1) := by decide +kernel
theorem dX0_copyFrom_7 : decode cX0_copyFrom 7 = .ok (.getfield 24, 3) := by decide +kernel
theorem dX0_copyFrom_10 : decode cX0_copyFrom 10 = .ok (.putfield 24, 3) := by decide +kernel
theorem dX0_copyFrom_13 : decode cX0_copyFrom 13 = .ok (.aload_n 0, 1) := by decide +kernel
theorem dX0_copyFrom_14 : decode cX0_copyFrom 14 = .ok (.aload_n 1, 1) := by decide +kernel
theorem dX0_copyFrom_15 : decode cX0_copyFrom 15 = .ok (.getfield 50, 3) := by decide +kernel
theorem dX0_copyFrom_18 : decode cX0_copyFrom 18 = .ok (.putfield 50, 3) := by decide +kernel
theorem dX0_copyFrom_21 : decode cX0_copyFrom 21 = .ok (.aload_n 0, 1) := by decide +kernel
theorem dX0_copyFrom_22 : decode cX0_copyFrom 22 = .ok (.aload_n 1, 1) := by decide +kernel
theorem dX0_copyFrom_23 : decode cX0_copyFrom 23 = .ok (.getfield 53, 3) := by decide +kernel
theorem dX0_copyFrom_26 : decode cX0_copyFrom 26 = .ok (.putfield 53, 3) := by decide +kernel
theorem dX0_copyFrom_29 : decode cX0_copyFrom 29 = .ok (.aload_n 0, 1) := by decide +kernel
theorem dX0_copyFrom_30 : decode cX0_copyFrom 30 = .ok (.aload_n 1, 1) := by decide +kernel
theorem dX0_copyFrom_31 : decode cX0_copyFrom 31 = .ok (.getfield 56, 3) := by decide +kernel
theorem dX0_copyFrom_34 : decode cX0_copyFrom 34 = .ok (.putfield 56, 3) := by decide +kernel
theorem dX0_copyFrom_37 : decode cX0_copyFrom 37 = .ok (.iconst 0, 1) := by decide +kernel
theorem dX0_copyFrom_38 : decode cX0_copyFrom 38 = .ok (.istore_n 2, 1) := by decide +kernel
theorem dX0_copyFrom_39 : decode cX0_copyFrom 39 = .ok (.iload_n 2, 1) := by decide +kernel
theorem dX0_copyFrom_40 : decode cX0_copyFrom 40 = .ok (.iconst 2, 1) := by decide +kernel
theorem dX0_copyFrom_41 : decode cX0_copyFrom 41 = .ok (.if_icmp .gt 21, 3) := by decide +kernel
theorem dX0_copyFrom_44 : decode cX0_copyFrom 44 = .ok (.aload_n 0, 1) := by decide +kernel
theorem dX0_copyFrom_45 : decode cX0_copyFrom 45 = .ok (.getfield 28, 3) := by decide +kernel
theorem dX0_copyFrom_48 : decode cX0_copyFrom 48 = .ok (.iload_n 2, 1) := by decide +kernel
theorem dX0_copyFrom_49 : decode cX0_copyFrom 49 = .ok (.aload_n 1, 1) := by decide +kernel
theorem dX0_copyFrom_50 : decode cX0_copyFrom 50 = .ok (.getfield 28, 3) := by decide +kernel
theorem dX0_copyFrom_53 : decode cX0_copyFrom 53 = .ok (.iload_n 2, 1) := by decide +kernel
theorem dX0_copyFrom_54 : decode cX0_copyFrom 54 = .ok (.iaload, 1) := by decide +kernel
theorem dX0_copyFrom_55 : decode cX0_copyFrom 55 = .ok (.iastore, 1) := by decide +kernel
theorem dX0_copyFrom_56 : decode cX0_copyFrom 56 = .ok (.iinc 2 1, 3) := by decide +kernel
theorem dX0_copyFrom_59 : decode cX0_copyFrom 59 = .ok (.goto (-20), 3) := by decide +kernel
theorem dX0_copyFrom_62 : decode cX0_copyFrom 62 = .ok (.return_, 1) := by decide +kernel
theorem dX0_copyLayout_0 : decode cX0_copyLayout 0 = .ok (.aload_n 0, 1) := by decide +kernel
theorem dX0_copyLayout_1 : decode cX0_copyLayout 1 = .ok (.iconst 0, 1) := by decide +kernel
theorem dX0_copyLayout_2 : decode cX0_copyLayout 2 = .ok (.putfield 31, 3) := by decide +kernel
theorem dX0_copyLayout_5 : decode cX0_copyLayout 5 = .ok (.iconst 0, 1) := by decide +kernel
theorem dX0_copyLayout_6 : decode cX0_copyLayout 6 = .ok (.istore_n 2, 1) := by decide +kernel
theorem dX0_copyLayout_7 : decode cX0_copyLayout 7 = .ok (.iload_n 2, 1) := by decide +kernel
theorem dX0_copyLayout_8 : decode cX0_copyLayout 8 = .ok (.aload_n 1, 1) := by decide +kernel
theorem dX0_copyLayout_9 : decode cX0_copyLayout 9 = .ok (.getfield 31, 3) := by decide +kernel
theorem dX0_copyLayout_12 : decode cX0_copyLayout 12 = .ok (.if_icmp .ge 36, 3) := by decide +kernel
theorem dX0_copyLayout_15 : decode cX0_copyLayout 15 = .ok (.aload_n 1, 1) := by decide +kernel
theorem dX0_copyLayout_16 : decode cX0_copyLayout 16 = .ok (.iload_n 2, 1) := by decide +kernel
theorem dX0_copyLayout_17 : decode cX0_copyLayout 17 = .ok (.invokevirtual 35, 3) := by decide +kernel
theorem dX0_copyLayout_20 : decode cX0_copyLayout 20 = .ok (.astore_n 3, 1) := by decide +kernel
theorem dX0_copyLayout_21 : decode cX0_copyLayout 21 = .ok (.aload_n 0, 1) := by decide +kernel
theorem dX0_copyLayout_22 : decode cX0_copyLayout 22 = .ok (.invokevirtual 59, 3) := by decide +kernel
theorem dX0_copyLayout_25 : decode cX0_copyLayout 25 = .ok (.astore 4, 2) := by decide +kernel
theorem dX0_copyLayout_27 : decode cX0_copyLayout 27 = .ok (.aload_n 3, 1) := by decide +kernel
theorem dX0_copyLayout_28 : decode cX0_copyLayout 28 = .ok (.ifnull 14, 3) := by decide +kernel
theorem dX0_copyLayout_31 : decode cX0_copyLayout 31 = .ok (.aload 4, 2) := by decide +kernel
theorem dX0_copyLayout_33 : decode cX0_copyLayout 33 = .ok (.ifnull 9, 3) := by decide +kernel
theorem dX0_copyLayout_36 : decode cX0_copyLayout 36 = .ok (.aload 4, 2) := by decide +kernel
theorem dX0_copyLayout_38 : decode cX0_copyLayout 38 = .ok (.aload_n 3, 1) := by decide +kernel
theorem dX0_copyLayout_39 : decode cX0_copyLayout 39 = .ok (.invokevirtual 63, 3) := by decide +kernel
theorem dX0_copyLayout_42 : decode cX0_copyLayout 42 = .ok (.iinc 2 1, 3) := by decide +kernel
theorem dX0_copyLayout_45 : decode cX0_copyLayout 45 = .ok (.goto (-38), 3) := by decide +kernel
theorem dX0_copyLayout_48 : decode cX0_copyLayout 48 = .ok (.aload_n 0, 1) := by decide +kernel
theorem dX0_copyLayout_49 : decode cX0_copyLayout 49 = .ok (.iconst 0, 1) := by decide +kernel
theorem dX0_copyLayout_50 : decode cX0_copyLayout 50 = .ok (.putfield 39, 3) := by decide +kernel
theorem dX0_copyLayout_53 : decode cX0_copyLayout 53 = .ok (.iconst 0, 1) := by decide +kernel
theorem dX0_copyLayout_54 : decode cX0_copyLayout 54 = .ok (.istore_n 2, 1) := by decide +kernel
theorem dX0_copyLayout_55 : decode cX0_copyLayout 55 = .ok (.iload_n 2, 1) := by decide +kernel
theorem dX0_copyLayout_56 : decode cX0_copyLayout 56 = .ok (.aload_n 1, 1) := by decide +kernel
theorem dX0_copyLayout_57 : decode cX0_copyLayout 57 = .ok (.getfield 39, 3) := by decide +kernel
theorem dX0_copyLayout_60 : decode cX0_copyLayout 60 = .ok (.if_icmp .ge 23, 3) := by decide +kernel
theorem dX0_copyLayout_63 : decode cX0_copyLayout 63 = .ok (.aload_n 0, 1) := by decide +kernel
theorem dX0_copyLayout_64 : decode cX0_copyLayout 64 = .ok (.aload_n 1, 1) := by decide +kernel
theorem dX0_copyLayout_65 : decode cX0_copyLayout 65 = .ok (.iload_n 2, 1) := by decide +kernel
theorem dX0_copyLayout_66 : decode cX0_copyLayout 66 = .ok (.invokevirtual 67, 3) := by decide +kernel
theorem dX0_copyLayout_69 : decode cX0_copyLayout 69 = .ok (.aload_n 1, 1) := by decide +kernel
theorem dX0_copyLayout_70 : decode cX0_copyLayout 70 = .ok (.iload_n 2, 1) := by decide +kernel
theorem dX0_copyLayout_71 : decode cX0_copyLayout 71 = .ok (.invokevirtual 71, 3) := by decide +kernel
theorem dX0_copyLayout_74 : decode cX0_copyLayout 74 = .ok (.invokevirtual 74, 3) := by decide +kernel
theorem dX0_copyLayout_77 : decode cX0_copyLayout 77 = .ok (.iinc 2 1, 3) := by decide +kernel
theorem dX0_copyLayout_80 : decode cX0_copyLayout 80 = .ok (.goto (-25), 3) := by decide +kernel
theorem dX0_copyLayout_83 : decode cX0_copyLayout 83 = .ok (.return_, 1) := by decide +kernel
theorem dX0_stockOf_0 : decode cX0_stockOf 0 = .ok (.iload_n 1, 1) := by decide +kernel
theorem dX0_stockOf_1 : decode cX0_stockOf 1 = .ok (.invokestatic 78, 3) := by decide +kernel
theorem dX0_stockOf_4 : decode cX0_stockOf 4 = .ok (.ifCond .eq 12, 3) := by decide +kernel
theorem dX0_stockOf_7 : decode cX0_stockOf 7 = .ok (.aload_n 0, 1) := by decide +kernel
theorem dX0_stockOf_8 : decode cX0_stockOf 8 = .ok (.getfield 28, 3) := by decide +kernel
theorem dX0_stockOf_11 : decode cX0_stockOf 11 = .ok (.iload_n 1, 1) := by decide +kernel
theorem dX0_stockOf_12 : decode cX0_stockOf 12 = .ok (.iaload, 1) := by decide +kernel
theorem dX0_stockOf_13 : decode cX0_stockOf 13 = .ok (.goto 4, 3) := by decide +kernel
theorem dX0_stockOf_16 : decode cX0_stockOf 16 = .ok (.iconst 0, 1) := by decide +kernel
theorem dX0_stockOf_17 : decode cX0_stockOf 17 = .ok (.ireturn, 1) := by decide +kernel
theorem dX0_changeStock_0 : decode cX0_changeStock 0 = .ok (.iload_n 1, 1) := by decide +kernel
theorem dX0_changeStock_1 : decode cX0_changeStock 1 = .ok (.invokestatic 78, 3) := by decide +kernel
theorem dX0_changeStock_4 : decode cX0_changeStock 4 = .ok (.ifCond .eq 13, 3) := by decide +kernel
theorem dX0_changeStock_7 : decode cX0_changeStock 7 = .ok (.aload_n 0, 1) := by decide +kernel
theorem dX0_changeStock_8 : decode cX0_changeStock 8 = .ok (.getfield 28, 3) := by decide +kernel
theorem dX0_changeStock_11 : decode cX0_changeStock 11 = .ok (.iload_n 1, 1) := by decide +kernel
theorem dX0_changeStock_12 : decode cX0_changeStock 12 = .ok (.dup2, 1) := by decide +kernel
theorem dX0_changeStock_13 : decode cX0_changeStock 13 = .ok (.iaload, 1) := by decide +kernel
theorem dX0_changeStock_14 : decode cX0_changeStock 14 = .ok (.iload_n 2, 1) := by decide +kernel
theorem dX0_changeStock_15 : decode cX0_changeStock 15 = .ok (.iadd, 1) := by decide +kernel
theorem dX0_changeStock_16 : decode cX0_changeStock 16 = .ok (.iastore, 1) := by decide +kernel
theorem dX0_changeStock_17 : decode cX0_changeStock 17 = .ok (.return_, 1) := by decide +kernel
theorem dX0_holds_0 : decode cX0_holds 0 = .ok (.iload_n 1, 1) := by decide +kernel
theorem dX0_holds_1 : decode cX0_holds 1 = .ok (.ifCond .lt 17, 3) := by decide +kernel
theorem dX0_holds_4 : decode cX0_holds 4 = .ok (.iload_n 1, 1) := by decide +kernel
theorem dX0_holds_5 : decode cX0_holds 5 = .ok (.iconst 1, 1) := by decide +kernel
theorem dX0_holds_6 : decode cX0_holds 6 = .ok (.aload_n 0, 1) := by decide +kernel
theorem dX0_holds_7 : decode cX0_holds 7 = .ok (.getfield 31, 3) := by decide +kernel
theorem dX0_holds_10 : decode cX0_holds 10 = .ok (.ishl, 1) := by decide +kernel
theorem dX0_holds_11 : decode cX0_holds 11 = .ok (.if_icmp .ge 7, 3) := by decide +kernel
theorem dX0_holds_14 : decode cX0_holds 14 = .ok (.iconst 1, 1) := by decide +kernel
theorem dX0_holds_15 : decode cX0_holds 15 = .ok (.goto 4, 3) := by decide +kernel
theorem dX0_holds_18 : decode cX0_holds 18 = .ok (.iconst 0, 1) := by decide +kernel
theorem dX0_holds_19 : decode cX0_holds 19 = .ok (.ireturn, 1) := by decide +kernel
theorem dX0_withoutCircuit_0 : decode cX0_withoutCircuit 0 = .ok (.iconst 0, 1) := by decide +kernel
theorem dX0_withoutCircuit_1 : decode cX0_withoutCircuit 1 = .ok (.istore_n 2, 1) := by decide +kernel
theorem dX0_withoutCircuit_2 : decode cX0_withoutCircuit 2 = .ok (.iconst 0, 1) := by decide +kernel
theorem dX0_withoutCircuit_3 : decode cX0_withoutCircuit 3 = .ok (.istore_n 3, 1) := by decide +kernel
theorem dX0_withoutCircuit_4 : decode cX0_withoutCircuit 4 = .ok (.iload_n 3, 1) := by decide +kernel
theorem dX0_withoutCircuit_5 : decode cX0_withoutCircuit 5 = .ok (.aload_n 0, 1) := by decide +kernel
theorem dX0_withoutCircuit_6 : decode cX0_withoutCircuit 6 = .ok (.getfield 31, 3) := by decide +kernel
theorem dX0_withoutCircuit_9 : decode cX0_withoutCircuit 9 = .ok (.if_icmp .ge 36, 3) := by decide +kernel
theorem dX0_withoutCircuit_12 : decode cX0_withoutCircuit 12 = .ok (.aload_n 0, 1) := by decide +kernel
theorem dX0_withoutCircuit_13 : decode cX0_withoutCircuit 13 = .ok (.iload_n 3, 1) := by decide +kernel
theorem dX0_withoutCircuit_14 : decode cX0_withoutCircuit 14 = .ok (.invokevirtual 35, 3) := by decide +kernel
theorem dX0_withoutCircuit_17 : decode cX0_withoutCircuit 17 = .ok (.astore 4, 2) := by decide +kernel
theorem dX0_withoutCircuit_19 : decode cX0_withoutCircuit 19 = .ok (.aload 4, 2) := by decide +kernel
theorem dX0_withoutCircuit_21 : decode cX0_withoutCircuit 21 = .ok (.ifnull 18, 3) := by decide +kernel
theorem dX0_withoutCircuit_24 : decode cX0_withoutCircuit 24 = .ok (.aload 4, 2) := by decide +kernel
theorem dX0_withoutCircuit_26 : decode cX0_withoutCircuit 26 = .ok (.getfield 81, 3) := by decide +kernel
theorem dX0_withoutCircuit_29 : decode cX0_withoutCircuit 29 = .ok (.iload_n 1, 1) := by decide +kernel
theorem dX0_withoutCircuit_30 : decode cX0_withoutCircuit 30 = .ok (.if_icmp .eq 9, 3) := by decide +kernel
theorem dX0_withoutCircuit_33 : decode cX0_withoutCircuit 33 = .ok (.iload_n 2, 1) := by decide +kernel
theorem dX0_withoutCircuit_34 : decode cX0_withoutCircuit 34 = .ok (.iconst 1, 1) := by decide +kernel
theorem dX0_withoutCircuit_35 : decode cX0_withoutCircuit 35 = .ok (.iload_n 3, 1) := by decide +kernel
theorem dX0_withoutCircuit_36 : decode cX0_withoutCircuit 36 = .ok (.ishl, 1) := by decide +kernel
theorem dX0_withoutCircuit_37 : decode cX0_withoutCircuit 37 = .ok (.ior, 1) := by decide +kernel
theorem dX0_withoutCircuit_38 : decode cX0_withoutCircuit 38 = .ok (.istore_n 2, 1) := by decide +kernel
theorem dX0_withoutCircuit_39 : decode cX0_withoutCircuit 39 = .ok (.iinc 3 1, 3) := by decide +kernel
theorem dX0_withoutCircuit_42 : decode cX0_withoutCircuit 42 = .ok (.goto (-38), 3) := by decide +kernel
theorem dX0_withoutCircuit_45 : decode cX0_withoutCircuit 45 = .ok (.iload_n 2, 1) := by decide +kernel
theorem dX0_withoutCircuit_46 : decode cX0_withoutCircuit 46 = .ok (.ireturn, 1) := by decide +kernel
theorem dX0_countReady_0 : decode cX0_countReady 0 = .ok (.iconst 0, 1) := by decide +kernel
theorem dX0_countReady_1 : decode cX0_countReady 1 = .ok (.istore_n 1, 1) := by decide +kernel
theorem dX0_countReady_2 : decode cX0_countReady 2 = .ok (.iconst 0, 1) := by decide +kernel
theorem dX0_countReady_3 : decode cX0_countReady 3 = .ok (.istore_n 2, 1) := by decide +kernel
theorem dX0_countReady_4 : decode cX0_countReady 4 = .ok (.iload_n 2, 1) := by decide +kernel
theorem dX0_countReady_5 : decode cX0_countReady 5 = .ok (.aload_n 0, 1) := by decide +kernel
theorem dX0_countReady_6 : decode cX0_countReady 6 = .ok (.getfield 31, 3) := by decide +kernel
theorem dX0_countReady_9 : decode cX0_countReady 9 = .ok (.if_icmp .ge 33, 3) := by decide +kernel
theorem dX0_countReady_12 : decode cX0_countReady 12 = .ok (.aload_n 0, 1) := by decide +kernel
theorem dX0_countReady_13 : decode cX0_countReady 13 = .ok (.iload_n 2, 1) := by decide +kernel
theorem dX0_countReady_14 : decode cX0_countReady 14 = .ok (.invokevirtual 35, 3) := by decide +kernel
theorem dX0_countReady_17 : decode cX0_countReady 17 = .ok (.astore_n 3, 1) := by decide +kernel
theorem dX0_countReady_18 : decode cX0_countReady 18 = .ok (.aload_n 3, 1) := by decide +kernel
theorem dX0_countReady_19 : decode cX0_countReady 19 = .ok (.ifnull 17, 3) := by decide +kernel
theorem dX0_countReady_22 : decode cX0_countReady 22 = .ok (.aload_n 3, 1) := by decide +kernel
theorem dX0_countReady_23 : decode cX0_countReady 23 = .ok (.aload_n 0, 1) := by decide +kernel
theorem dX0_countReady_24 : decode cX0_countReady 24 = .ok (.getfield 24, 3) := by decide +kernel
theorem dX0_countReady_27 : decode cX0_countReady 27 = .ok (.invokevirtual 84, 3) := by decide +kernel
theorem dX0_countReady_30 : decode cX0_countReady 30 = .ok (.ifCond .eq 6, 3) := by decide +kernel
theorem dX0_countReady_33 : decode cX0_countReady 33 = .ok (.iinc 1 1, 3) := by decide +kernel
theorem dX0_countReady_36 : decode cX0_countReady 36 = .ok (.iinc 2 1, 3) := by decide +kernel
theorem dX0_countReady_39 : decode cX0_countReady 39 = .ok (.goto (-35), 3) := by decide +kernel
theorem dX0_countReady_42 : decode cX0_countReady 42 = .ok (.iload_n 1, 1) := by decide +kernel
theorem dX0_countReady_43 : decode cX0_countReady 43 = .ok (.ireturn, 1) := by decide +kernel
theorem dX0_countBurntOut_0 : decode cX0_countBurntOut 0 = .ok (.iconst 0, 1) := by decide +kernel
theorem dX0_countBurntOut_1 : decode cX0_countBurntOut 1 = .ok (.istore_n 1, 1) := by decide +kernel
theorem dX0_countBurntOut_2 : decode cX0_countBurntOut 2 = .ok (.iconst 0, 1) := by decide +kernel
theorem dX0_countBurntOut_3 : decode cX0_countBurntOut 3 = .ok (.istore_n 2, 1) := by decide +kernel
theorem dX0_countBurntOut_4 : decode cX0_countBurntOut 4 = .ok (.iload_n 2, 1) := by decide +kernel
theorem dX0_countBurntOut_5 : decode cX0_countBurntOut 5 = .ok (.aload_n 0, 1) := by decide +kernel
theorem dX0_countBurntOut_6 : decode cX0_countBurntOut 6 = .ok (.getfield 31, 3) := by decide +kernel
theorem dX0_countBurntOut_9 : decode cX0_countBurntOut 9 = .ok (.if_icmp .ge 29, 3) := by decide +kernel
theorem dX0_countBurntOut_12 : decode cX0_countBurntOut 12 = .ok (.aload_n 0, 1) := by decide +kernel
theorem dX0_countBurntOut_13 : decode cX0_countBurntOut 13 = .ok (.iload_n 2, 1) := by decide +kernel
theorem dX0_countBurntOut_14 : decode cX0_countBurntOut 14 = .ok (.invokevirtual 35, 3) := by decide +kernel
theorem dX0_countBurntOut_17 : decode cX0_countBurntOut 17 = .ok (.astore_n 3, 1) := by decide +kernel
theorem dX0_countBurntOut_18 : decode cX0_countBurntOut 18 = .ok (.aload_n 3, 1) := by decide +kernel
theorem dX0_countBurntOut_19 : decode cX0_countBurntOut 19 = .ok (.ifnull 13, 3) := by decide +kernel
theorem dX0_countBurntOut_22 : decode cX0_countBurntOut 22 = .ok (.aload_n 3, 1) := by decide +kernel
theorem dX0_countBurntOut_23 : decode cX0_countBurntOut 23 = .ok (.getfield 87, 3) := by decide +kernel
theorem dX0_countBurntOut_26 : decode cX0_countBurntOut 26 = .ok (.ifCond .ne 6, 3) := by decide +kernel
theorem dX0_countBurntOut_29 : decode cX0_countBurntOut 29 = .ok (.iinc 1 1, 3) := by decide +kernel
theorem dX0_countBurntOut_32 : decode cX0_countBurntOut 32 = .ok (.iinc 2 1, 3) := by decide +kernel
theorem dX0_countBurntOut_35 : decode cX0_countBurntOut 35 = .ok (.goto (-31), 3) := by decide +kernel
theorem dX0_countBurntOut_38 : decode cX0_countBurntOut 38 = .ok (.iload_n 1, 1) := by decide +kernel
theorem dX0_countBurntOut_39 : decode cX0_countBurntOut 39 = .ok (.ireturn, 1) := by decide +kernel
theorem dX0_countReaching_0 : decode cX0_countReaching 0 = .ok (.iconst 0, 1) := by decide +kernel
theorem dX0_countReaching_1 : decode cX0_countReaching 1 = .ok (.istore_n 3, 1) := by decide +kernel
theorem dX0_countReaching_2 : decode cX0_countReaching 2 = .ok (.iconst 0, 1) := by decide +kernel
theorem dX0_countReaching_3 : decode cX0_countReaching 3 = .ok (.istore 4, 2) := by decide +kernel
theorem dX0_countReaching_5 : decode cX0_countReaching 5 = .ok (.iload 4, 2) := by decide +kernel
theorem dX0_countReaching_7 : decode cX0_countReaching 7 = .ok (.aload_n 0, 1) := by decide +kernel
theorem dX0_countReaching_8 : decode cX0_countReaching 8 = .ok (.getfield 31, 3) := by decide +kernel
theorem dX0_countReaching_11 : decode cX0_countReaching 11 = .ok (.if_icmp .ge 50, 3) := by decide +kernel
theorem dX0_countReaching_14 : decode cX0_countReaching 14 = .ok (.aload_n 0, 1) := by decide +kernel
theorem dX0_countReaching_15 : decode cX0_countReaching 15 = .ok (.iload 4, 2) := by decide +kernel
theorem dX0_countReaching_17 : decode cX0_countReaching 17 = .ok (.invokevirtual 35, 3) := by decide +kernel
theorem dX0_countReaching_20 : decode cX0_countReaching 20 = .ok (.astore 5, 2) := by decide +kernel
theorem dX0_countReaching_22 : decode cX0_countReaching 22 = .ok (.aload 5, 2) := by decide +kernel
theorem dX0_countReaching_24 : decode cX0_countReaching 24 = .ok (.ifnull 31, 3) := by decide +kernel
theorem dX0_countReaching_27 : decode cX0_countReaching 27 = .ok (.aload 5, 2) := by decide +kernel
theorem dX0_countReaching_29 : decode cX0_countReaching 29 = .ok (.iload_n 1, 1) := by decide +kernel
theorem dX0_countReaching_30 : decode cX0_countReaching 30 = .ok (.invokevirtual 90, 3) := by decide +kernel
theorem dX0_countReaching_33 : decode cX0_countReaching 33 = .ok (.ifCond .eq 22, 3) := by decide +kernel
theorem dX0_countReaching_36 : decode cX0_countReaching 36 = .ok (.iload_n 2, 1) := by decide +kernel
theorem dX0_countReaching_37 : decode cX0_countReaching 37 = .ok (.ifCond .eq 15, 3) := by decide +kernel
theorem dX0_countReaching_40 : decode cX0_countReaching 40 = .ok (.aload 5, 2) := by decide +kernel
theorem dX0_countReaching_42 : decode cX0_countReaching 42 = .ok (.aload_n 0, 1) := by decide +kernel
theorem dX0_countReaching_43 : decode cX0_countReaching 43 = .ok (.getfield 24, 3) := by decide +kernel
theorem dX0_countReaching_46 : decode cX0_countReaching 46 = .ok (.invokevirtual 84, 3) := by decide +kernel
theorem dX0_countReaching_49 : decode cX0_countReaching 49 = .ok (.ifCond .eq 6, 3) := by decide +kernel
theorem dX0_countReaching_52 : decode cX0_countReaching 52 = .ok (.iinc 3 1, 3) := by decide +kernel
theorem dX0_countReaching_55 : decode cX0_countReaching 55 = .ok (.iinc 4 1, 3) := by decide +kernel
theorem dX0_countReaching_58 : decode cX0_countReaching 58 = .ok (.goto (-53), 3) := by decide +kernel
theorem dX0_countReaching_61 : decode cX0_countReaching 61 = .ok (.iload_n 3, 1) := by decide +kernel
theorem dX0_countReaching_62 : decode cX0_countReaching 62 = .ok (.ireturn, 1) := by decide +kernel
theorem dX0_burn_0 : decode cX0_burn 0 = .ok (.iconst 0, 1) := by decide +kernel
theorem dX0_burn_1 : decode cX0_burn 1 = .ok (.istore_n 2, 1) := by decide +kernel
theorem dX0_burn_2 : decode cX0_burn 2 = .ok (.iload_n 2, 1) := by decide +kernel
theorem dX0_burn_3 : decode cX0_burn 3 = .ok (.aload_n 0, 1) := by decide +kernel
theorem dX0_burn_4 : decode cX0_burn 4 = .ok (.getfield 31, 3) := by decide +kernel
theorem dX0_burn_7 : decode cX0_burn 7 = .ok (.if_icmp .ge 58, 3) := by decide +kernel
theorem dX0_burn_10 : decode cX0_burn 10 = .ok (.aload_n 0, 1) := by decide +kernel
theorem dX0_burn_11 : decode cX0_burn 11 = .ok (.iload_n 2, 1) := by decide +kernel
theorem dX0_burn_12 : decode cX0_burn 12 = .ok (.invokevirtual 35, 3) := by decide +kernel
theorem dX0_burn_15 : decode cX0_burn 15 = .ok (.astore_n 3, 1) := by decide +kernel
theorem dX0_burn_16 : decode cX0_burn 16 = .ok (.aload_n 3, 1) := by decide +kernel
theorem dX0_burn_17 : decode cX0_burn 17 = .ok (.ifnull 42, 3) := by decide +kernel
theorem dX0_burn_20 : decode cX0_burn 20 = .ok (.iload_n 1, 1) := by decide +kernel
theorem dX0_burn_21 : decode cX0_burn 21 = .ok (.iload_n 2, 1) := by decide +kernel
theorem dX0_burn_22 : decode cX0_burn 22 = .ok (.ishr, 1) := by decide +kernel
theorem dX0_burn_23 : decode cX0_burn 23 = .ok (.iconst 1, 1) := by decide +kernel
theorem dX0_burn_24 : decode cX0_burn 24 = .ok (.iand, 1) := by decide +kernel
theorem dX0_burn_25 : decode cX0_burn 25 = .ok (.iconst 1, 1) := by decide +kernel
theorem dX0_burn_26 : decode cX0_burn 26 = .ok (.if_icmp .ne 33, 3) := by decide +kernel
theorem dX0_burn_29 : decode cX0_burn 29 = .ok (.aload_n 3, 1) := by decide +kernel
theorem dX0_burn_30 : decode cX0_burn 30 = .ok (.invokevirtual 112, 3) := by decide +kernel
theorem dX0_burn_33 : decode cX0_burn 33 = .ok (.ifCond .eq 16, 3) := by decide +kernel
theorem dX0_burn_36 : decode cX0_burn 36 = .ok (.aload_n 0, 1) := by decide +kernel
theorem dX0_burn_37 : decode cX0_burn 37 = .ok (.dup, 1) := by decide +kernel
theorem dX0_burn_38 : decode cX0_burn 38 = .ok (.getfield 53, 3) := by decide +kernel
theorem dX0_burn_41 : decode cX0_burn 41 = .ok (.iconst 1, 1) := by decide +kernel
theorem dX0_burn_42 : decode cX0_burn 42 = .ok (.iadd, 1) := by decide +kernel
theorem dX0_burn_43 : decode cX0_burn 43 = .ok (.putfield 53, 3) := by decide +kernel
theorem dX0_burn_46 : decode cX0_burn 46 = .ok (.goto 13, 3) := by decide +kernel
theorem dX0_burn_49 : decode cX0_burn 49 = .ok (.aload_n 0, 1) := by decide +kernel
theorem dX0_burn_50 : decode cX0_burn 50 = .ok (.dup, 1) := by decide +kernel
theorem dX0_burn_51 : decode cX0_burn 51 = .ok (.getfield 56, 3) := by decide +kernel
theorem dX0_burn_54 : decode cX0_burn 54 = .ok (.iconst 1, 1) := by decide +kernel
theorem dX0_burn_55 : decode cX0_burn 55 = .ok (.iadd, 1) := by decide +kernel
theorem dX0_burn_56 : decode cX0_burn 56 = .ok (.putfield 56, 3) := by decide +kernel
theorem dX0_burn_59 : decode cX0_burn 59 = .ok (.iinc 2 1, 3) := by decide +kernel
theorem dX0_burn_62 : decode cX0_burn 62 = .ok (.goto (-60), 3) := by decide +kernel
theorem dX0_burn_65 : decode cX0_burn 65 = .ok (.return_, 1) := by decide +kernel
theorem dX0_letHoursPass_0 : decode cX0_letHoursPass 0 = .ok (.iload_n 1, 1) := by decide +kernel
theorem dX0_letHoursPass_1 : decode cX0_letHoursPass 1 = .ok (.sipush 1000, 3) := by decide +kernel
theorem dX0_letHoursPass_4 : decode cX0_letHoursPass 4 = .ok (.aload_n 0, 1) := by decide +kernel
theorem dX0_letHoursPass_5 : decode cX0_letHoursPass 5 = .ok (.getfield 50, 3) := by decide +kernel
theorem dX0_letHoursPass_8 : decode cX0_letHoursPass 8 = .ok (.sipush 1000, 3) := by decide +kernel
theorem dX0_letHoursPass_11 : decode cX0_letHoursPass 11 = .ok (.irem, 1) := by decide +kernel
theorem dX0_letHoursPass_12 : decode cX0_letHoursPass 12 = .ok (.isub, 1) := by decide +kernel
theorem dX0_letHoursPass_13 : decode cX0_letHoursPass 13 = .ok (.invokestatic 116, 3) := by decide +kernel
theorem dX0_letHoursPass_16 : decode cX0_letHoursPass 16 = .ok (.istore_n 2, 1) := by decide +kernel
theorem dX0_letHoursPass_17 : decode cX0_letHoursPass 17 = .ok (.aload_n 0, 1) := by decide +kernel
theorem dX0_letHoursPass_18 : decode cX0_letHoursPass 18 = .ok (.iload_n 2, 1) := by decide +kernel
theorem dX0_letHoursPass_19 : decode cX0_letHoursPass 19 = .ok (.invokevirtual 122, 3) := by decide +kernel
theorem dX0_letHoursPass_22 : decode cX0_letHoursPass 22 = .ok (.iload_n 1, 1) := by decide +kernel
theorem dX0_letHoursPass_23 : decode cX0_letHoursPass 23 = .ok (.iload_n 2, 1) := by decide +kernel
theorem dX0_letHoursPass_24 : decode cX0_letHoursPass 24 = .ok (.isub, 1) := by decide +kernel
theorem dX0_letHoursPass_25 : decode cX0_letHoursPass 25 = .ok (.istore_n 3, 1) := by decide +kernel
theorem dX0_letHoursPass_26 : decode cX0_letHoursPass 26 = .ok (.iload_n 3, 1) := by decide +kernel
theorem dX0_letHoursPass_27 : decode cX0_letHoursPass 27 = .ok (.ifCond .le 23, 3) := by decide +kernel
theorem dX0_letHoursPass_30 : decode cX0_letHoursPass 30 = .ok (.aload_n 0, 1) := by decide +kernel
theorem dX0_letHoursPass_31 : decode cX0_letHoursPass 31 = .ok (.iload_n 3, 1) := by decide +kernel
theorem dX0_letHoursPass_32 : decode cX0_letHoursPass 32 = .ok (.sipush 1000, 3) := by decide +kernel
theorem dX0_letHoursPass_35 : decode cX0_letHoursPass 35 = .ok (.invokestatic 116, 3) := by decide +kernel
theorem dX0_letHoursPass_38 : decode cX0_letHoursPass 38 = .ok (.invokevirtual 122, 3) := by decide +kernel
theorem dX0_letHoursPass_41 : decode cX0_letHoursPass 41 = .ok (.iinc 3 (-1000), 6) := by decide +kernel
theorem dX0_letHoursPass_47 : decode cX0_letHoursPass 47 = .ok (.goto (-21), 3) := by decide +kernel
theorem dX0_letHoursPass_50 : decode cX0_letHoursPass 50 = .ok (.return_, 1) := by decide +kernel
theorem dX0_letStretchPass_0 : decode cX0_letStretchPass 0 = .ok (.aload_n 0, 1) := by decide +kernel
theorem dX0_letStretchPass_1 : decode cX0_letStretchPass 1 = .ok (.dup, 1) := by decide +kernel
theorem dX0_letStretchPass_2 : decode cX0_letStretchPass 2 = .ok (.getfield 50, 3) := by decide +kernel
theorem dX0_letStretchPass_5 : decode cX0_letStretchPass 5 = .ok (.iload_n 1, 1) := by decide +kernel
theorem dX0_letStretchPass_6 : decode cX0_letStretchPass 6 = .ok (.iadd, 1) := by decide +kernel
theorem dX0_letStretchPass_7 : decode cX0_letStretchPass 7 = .ok (.putfield 50, 3) := by decide +kernel
theorem dX0_letStretchPass_10 : decode cX0_letStretchPass 10 = .ok (.iconst 0, 1) := by decide +kernel
theorem dX0_letStretchPass_11 : decode cX0_letStretchPass 11 = .ok (.istore_n 2, 1) := by decide +kernel
theorem dX0_letStretchPass_12 : decode cX0_letStretchPass 12 = .ok (.iload_n 2, 1) := by decide +kernel
theorem dX0_letStretchPass_13 : decode cX0_letStretchPass 13 = .ok (.aload_n 0, 1) := by decide +kernel
theorem dX0_letStretchPass_14 : decode cX0_letStretchPass 14 = .ok (.getfield 31, 3) := by decide +kernel
theorem dX0_letStretchPass_17 : decode cX0_letStretchPass 17 = .ok (.if_icmp .ge 40, 3) := by decide +kernel
theorem dX0_letStretchPass_20 : decode cX0_letStretchPass 20 = .ok (.aload_n 0, 1) := by decide +kernel
theorem dX0_letStretchPass_21 : decode cX0_letStretchPass 21 = .ok (.iload_n 2, 1) := by decide +kernel
theorem dX0_letStretchPass_22 : decode cX0_letStretchPass 22 = .ok (.invokevirtual 35, 3) := by decide +kernel
theorem dX0_letStretchPass_25 : decode cX0_letStretchPass 25 = .ok (.astore_n 3, 1) := by decide +kernel
theorem dX0_letStretchPass_26 : decode cX0_letStretchPass 26 = .ok (.aload_n 3, 1) := by decide +kernel
theorem dX0_letStretchPass_27 : decode cX0_letStretchPass 27 = .ok (.ifnull 24, 3) := by decide +kernel
theorem dX0_letStretchPass_30 : decode cX0_letStretchPass 30 = .ok (.aload_n 3, 1) := by decide +kernel
theorem dX0_letStretchPass_31 : decode cX0_letStretchPass 31 = .ok (.iload_n 1, 1) := by decide +kernel
theorem dX0_letStretchPass_32 : decode cX0_letStretchPass 32 = .ok (.invokevirtual 125, 3) := by decide +kernel
theorem dX0_letStretchPass_35 : decode cX0_letStretchPass 35 = .ok (.aload_n 0, 1) := by decide +kernel
theorem dX0_letStretchPass_36 : decode cX0_letStretchPass 36 = .ok (.getfield 50, 3) := by decide +kernel
theorem dX0_letStretchPass_39 : decode cX0_letStretchPass 39 = .ok (.sipush 1000, 3) := by decide +kernel
theorem dX0_letStretchPass_42 : decode cX0_letStretchPass 42 = .ok (.irem, 1) := by decide +kernel
theorem dX0_letStretchPass_43 : decode cX0_letStretchPass 43 = .ok (.ifCond .ne 8, 3) := by decide +kernel
theorem dX0_letStretchPass_46 : decode cX0_letStretchPass 46 = .ok (.aload_n 3, 1) := by decide +kernel
theorem dX0_letStretchPass_47 : decode cX0_letStretchPass 47 = .ok (.iconst 1, 1) := by decide +kernel
theorem dX0_letStretchPass_48 : decode cX0_letStretchPass 48 = .ok (.invokevirtual 128, 3) := by decide +kernel
theorem dX0_letStretchPass_51 : decode cX0_letStretchPass 51 = .ok (.iinc 2 1, 3) := by decide +kernel
theorem dX0_letStretchPass_54 : decode cX0_letStretchPass 54 = .ok (.goto (-42), 3) := by decide +kernel
theorem dX0_letStretchPass_57 : decode cX0_letStretchPass 57 = .ok (.return_, 1) := by decide +kernel
theorem dX1_init_0 : decode cX1_init 0 = .ok (.aload_n 0, 1) := by decide +kernel
theorem dX1_init_1 : decode cX1_init 1 = .ok (.invokespecial 3, 3) := by decide +kernel
theorem dX1_init_4 : decode cX1_init 4 = .ok (.aload_n 0, 1) := by decide +kernel
theorem dX1_init_5 : decode cX1_init 5 = .ok (.bipush 8, 2) := by decide +kernel
theorem dX1_init_7 : decode cX1_init 7 = .ok (.anewarray 9, 3) := by decide +kernel
theorem dX1_init_10 : decode cX1_init 10 = .ok (.putfield 11, 3) := by decide +kernel
theorem dX1_init_13 : decode cX1_init 13 = .ok (.return_, 1) := by decide +kernel
theorem dX1_keep_0 : decode cX1_keep 0 = .ok (.aload_n 0, 1) := by decide +kernel
theorem dX1_keep_1 : decode cX1_keep 1 = .ok (.aload_n 0, 1) := by decide +kernel
theorem dX1_keep_2 : decode cX1_keep 2 = .ok (.getfield 17, 3) := by decide +kernel
theorem dX1_keep_5 : decode cX1_keep 5 = .ok (.invokevirtual 21, 3) := by decide +kernel
theorem dX1_keep_8 : decode cX1_keep 8 = .ok (.aload_n 1, 1) := by decide +kernel
theorem dX1_keep_9 : decode cX1_keep 9 = .ok (.invokevirtual 25, 3) := by decide +kernel
theorem dX1_keep_12 : decode cX1_keep 12 = .ok (.aload_n 0, 1) := by decide +kernel
theorem dX1_keep_13 : decode cX1_keep 13 = .ok (.aload_n 0, 1) := by decide +kernel
theorem dX1_keep_14 : decode cX1_keep 14 = .ok (.getfield 17, 3) := by decide +kernel
theorem dX1_keep_17 : decode cX1_keep 17 = .ok (.iconst 1, 1) := by decide +kernel
theorem dX1_keep_18 : decode cX1_keep 18 = .ok (.iadd, 1) := by decide +kernel
theorem dX1_keep_19 : decode cX1_keep 19 = .ok (.bipush 8, 2) := by decide +kernel
theorem dX1_keep_21 : decode cX1_keep 21 = .ok (.irem, 1) := by decide +kernel
theorem dX1_keep_22 : decode cX1_keep 22 = .ok (.putfield 17, 3) := by decide +kernel
theorem dX1_keep_25 : decode cX1_keep 25 = .ok (.aload_n 0, 1) := by decide +kernel
theorem dX1_keep_26 : decode cX1_keep 26 = .ok (.aload_n 0, 1) := by decide +kernel
theorem dX1_keep_27 : decode cX1_keep 27 = .ok (.getfield 29, 3) := by decide +kernel
theorem dX1_keep_30 : decode cX1_keep 30 = .ok (.iconst 1, 1) := by decide +kernel
theorem dX1_keep_31 : decode cX1_keep 31 = .ok (.iadd, 1) := by decide +kernel
theorem dX1_keep_32 : decode cX1_keep 32 = .ok (.bipush 8, 2) := by decide +kernel
theorem dX1_keep_34 : decode cX1_keep 34 = .ok (.invokestatic 32, 3) := by decide +kernel
theorem dX1_keep_37 : decode cX1_keep 37 = .ok (.putfield 29, 3) := by decide +kernel
theorem dX1_keep_40 : decode cX1_keep 40 = .ok (.return_, 1) := by decide +kernel
theorem dX1_restore_0 : decode cX1_restore 0 = .ok (.aload_n 0, 1) := by decide +kernel
theorem dX1_restore_1 : decode cX1_restore 1 = .ok (.getfield 29, 3) := by decide +kernel
theorem dX1_restore_4 : decode cX1_restore 4 = .ok (.ifCond .le 41, 3) := by decide +kernel
theorem dX1_restore_7 : decode cX1_restore 7 = .ok (.aload_n 0, 1) := by decide +kernel
theorem dX1_restore_8 : decode cX1_restore 8 = .ok (.aload_n 0, 1) := by decide +kernel
theorem dX1_restore_9 : decode cX1_restore 9 = .ok (.getfield 17, 3) := by decide +kernel
theorem dX1_restore_12 : decode cX1_restore 12 = .ok (.bipush 8, 2) := by decide +kernel
theorem dX1_restore_14 : decode cX1_restore 14 = .ok (.iadd, 1) := by decide +kernel
theorem dX1_restore_15 : decode cX1_restore 15 = .ok (.iconst 1, 1) := by decide +kernel
theorem dX1_restore_16 : decode cX1_restore 16 = .ok (.isub, 1) := by decide +kernel
theorem dX1_restore_17 : decode cX1_restore 17 = .ok (.bipush 8, 2) := by decide +kernel
theorem dX1_restore_19 : decode cX1_restore 19 = .ok (.irem, 1) := by decide +kernel
theorem dX1_restore_20 : decode cX1_restore 20 = .ok (.putfield 17, 3) := by decide +kernel
theorem dX1_restore_23 : decode cX1_restore 23 = .ok (.aload_n 0, 1) := by decide +kernel
theorem dX1_restore_24 : decode cX1_restore 24 = .ok (.dup, 1) := by decide +kernel
theorem dX1_restore_25 : decode cX1_restore 25 = .ok (.getfield 29, 3) := by decide +kernel
theorem dX1_restore_28 : decode cX1_restore 28 = .ok (.iconst 1, 1) := by decide +kernel
theorem dX1_restore_29 : decode cX1_restore 29 = .ok (.isub, 1) := by decide +kernel
theorem dX1_restore_30 : decode cX1_restore 30 = .ok (.putfield 29, 3) := by decide +kernel
theorem dX1_restore_33 : decode cX1_restore 33 = .ok (.aload_n 1, 1) := by decide +kernel
theorem dX1_restore_34 : decode cX1_restore 34 = .ok (.aload_n 0, 1) := by decide +kernel
theorem dX1_restore_35 : decode cX1_restore 35 = .ok (.aload_n 0, 1) := by decide +kernel
theorem dX1_restore_36 : decode cX1_restore 36 = .ok (.getfield 17, 3) := by decide +kernel
theorem dX1_restore_39 : decode cX1_restore 39 = .ok (.invokevirtual 21, 3) := by decide +kernel
theorem dX1_restore_42 : decode cX1_restore 42 = .ok (.invokevirtual 25, 3) := by decide +kernel
theorem dX1_restore_45 : decode cX1_restore 45 = .ok (.return_, 1) := by decide +kernel
theorem dX1_slot_0 : decode cX1_slot 0 = .ok (.iload_n 1, 1) := by decide +kernel
theorem dX1_slot_1 : decode cX1_slot 1 = .ok (.bipush 8, 2) := by decide +kernel
theorem dX1_slot_3 : decode cX1_slot 3 = .ok (.invokestatic 38, 3) := by decide +kernel
theorem dX1_slot_6 : decode cX1_slot 6 = .ok (.istore_n 2, 1) := by decide +kernel
theorem dX1_slot_7 : decode cX1_slot 7 = .ok (.aload_n 0, 1) := by decide +kernel
theorem dX1_slot_8 : decode cX1_slot 8 = .ok (.getfield 11, 3) := by decide +kernel
theorem dX1_slot_11 : decode cX1_slot 11 = .ok (.iload_n 2, 1) := by decide +kernel
theorem dX1_slot_12 : decode cX1_slot 12 = .ok (.aaload, 1) := by decide +kernel
theorem dX1_slot_13 : decode cX1_slot 13 = .ok (.astore_n 3, 1) := by decide +kernel
theorem dX1_slot_14 : decode cX1_slot 14 = .ok (.aload_n 3, 1) := by decide +kernel
theorem dX1_slot_15 : decode cX1_slot 15 = .ok (.ifnonnull 18, 3) := by decide +kernel
theorem dX1_slot_18 : decode cX1_slot 18 = .ok (.new 9, 3) := by decide +kernel
theorem dX1_slot_21 : decode cX1_slot 21 = .ok (.dup, 1) := by decide +kernel
theorem dX1_slot_22 : decode cX1_slot 22 = .ok (.invokespecial 41, 3) := by decide +kernel
theorem dX1_slot_25 : decode cX1_slot 25 = .ok (.astore_n 3, 1) := by decide +kernel
theorem dX1_slot_26 : decode cX1_slot 26 = .ok (.aload_n 0, 1) := by decide +kernel
theorem dX1_slot_27 : decode cX1_slot 27 = .ok (.getfield 11, 3) := by decide +kernel
theorem dX1_slot_30 : decode cX1_slot 30 = .ok (.iload_n 2, 1) := by decide +kernel
theorem dX1_slot_31 : decode cX1_slot 31 = .ok (.aload_n 3, 1) := by decide +kernel
theorem dX1_slot_32 : decode cX1_slot 32 = .ok (.aastore, 1) := by decide +kernel
theorem dX1_slot_33 : decode cX1_slot 33 = .ok (.aload_n 3, 1) := by decide +kernel
theorem dX1_slot_34 : decode cX1_slot 34 = .ok (.areturn, 1) := by decide +kernel
theorem dX2_init_0 : decode cX2_init 0 = .ok (.aload_n 0, 1) := by decide +kernel
theorem dX2_init_1 : decode cX2_init 1 = .ok (.invokespecial 3, 3) := by decide +kernel
theorem dX2_init_4 : decode cX2_init 4 = .ok (.return_, 1) := by decide +kernel
theorem dX2_begin_0 : decode cX2_begin 0 = .ok (.aload_n 0, 1) := by decide +kernel
theorem dX2_begin_1 : decode cX2_begin 1 = .ok (.iload_n 1, 1) := by decide +kernel
theorem dX2_begin_2 : decode cX2_begin 2 = .ok (.putfield 9, 3) := by decide +kernel
theorem dX2_begin_5 : decode cX2_begin 5 = .ok (.aload_n 0, 1) := by decide +kernel
theorem dX2_begin_6 : decode cX2_begin 6 = .ok (.iload_n 2, 1) := by decide +kernel
theorem dX2_begin_7 : decode cX2_begin 7 = .ok (.putfield 15, 3) := by decide +kernel
theorem dX2_begin_10 : decode cX2_begin 10 = .ok (.aload_n 0, 1) := by decide +kernel
theorem dX2_begin_11 : decode cX2_begin 11 = .ok (.iload_n 3, 1) := by decide +kernel
theorem dX2_begin_12 : decode cX2_begin 12 = .ok (.putfield 18, 3) := by decide +kernel
theorem dX2_begin_15 : decode cX2_begin 15 = .ok (.aload_n 0, 1) := by decide +kernel
theorem dX2_begin_16 : decode cX2_begin 16 = .ok (.iload 5, 2) := by decide +kernel
theorem dX2_begin_18 : decode cX2_begin 18 = .ok (.putfield 21, 3) := by decide +kernel
theorem dX2_begin_21 : decode cX2_begin 21 = .ok (.aload_n 0, 1) := by decide +kernel
theorem dX2_begin_22 : decode cX2_begin 22 = .ok (.sipush 1000, 3) := by decide +kernel
theorem dX2_begin_25 : decode cX2_begin 25 = .ok (.putfield 25, 3) := by decide +kernel
theorem dX2_begin_28 : decode cX2_begin 28 = .ok (.aload_n 0, 1) := by decide +kernel
theorem dX2_begin_29 : decode cX2_begin 29 = .ok (.aload_n 0, 1) := by decide +kernel
theorem dX2_begin_30 : decode cX2_begin 30 = .ok (.invokevirtual 28, 3) := by decide +kernel
theorem dX2_begin_33 : decode cX2_begin 33 = .ok (.putfield 32, 3) := by decide +kernel
theorem dX2_begin_36 : decode cX2_begin 36 = .ok (.aload_n 0, 1) := by decide +kernel
theorem dX2_begin_37 : decode cX2_begin 37 = .ok (.bipush (-9), 2) := by decide +kernel
theorem dX2_begin_39 : decode cX2_begin 39 = .ok (.putfield 35, 3) := by decide +kernel
theorem dX2_begin_42 : decode cX2_begin 42 = .ok (.aload_n 0, 1) := by decide +kernel
theorem dX2_begin_43 : decode cX2_begin 43 = .ok (.iload 4, 2) := by decide +kernel
theorem dX2_begin_45 : decode cX2_begin 45 = .ok (.invokevirtual 38, 3) := by decide +kernel
theorem dX2_begin_48 : decode cX2_begin 48 = .ok (.return_, 1) := by decide +kernel
theorem dX2_copyFrom_0 : decode cX2_copyFrom 0 = .ok (.aload_n 0, 1) := by decide +kernel
theorem dX2_copyFrom_1 : decode cX2_copyFrom 1 = .ok (.aload_n 1, 1) := by decide +kernel
theorem dX2_copyFrom_2 : decode cX2_copyFrom 2 = .ok (.getfield 9, 3) := by decide +kernel
theorem dX2_copyFrom_5 : decode cX2_copyFrom 5 = .ok (.putfield 9, 3) := by decide +kernel
theorem dX2_copyFrom_8 : decode cX2_copyFrom 8 = .ok (.aload_n 0, 1) := by decide +kernel
theorem dX2_copyFrom_9 : decode cX2_copyFrom 9 = .ok (.aload_n 1, 1) := by decide +kernel
theorem dX2_copyFrom_10 : decode cX2_copyFrom 10 = .ok (.getfield 15, 3) := by decide +kernel
theorem dX2_copyFrom_13 : decode cX2_copyFrom 13 = .ok (.putfield 15, 3) := by decide +kernel
theorem dX2_copyFrom_16 : decode cX2_copyFrom 16 = .ok (.aload_n 0, 1) := by decide +kernel
theorem dX2_copyFrom_17 : decode cX2_copyFrom 17 = .ok (.aload_n 1, 1) := by decide +kernel
theorem dX2_copyFrom_18 : decode cX2_copyFrom 18 = .ok (.getfield 18, 3) := by decide +kernel
theorem dX2_copyFrom_21 : decode cX2_copyFrom 21 = .ok (.putfield 18, 3) := by decide +kernel
theorem dX2_copyFrom_24 : decode cX2_copyFrom 24 = .ok (.aload_n 0, 1) := by decide +kernel
theorem dX2_copyFrom_25 : decode cX2_copyFrom 25 = .ok (.aload_n 1, 1) := by decide +kernel
theorem dX2_copyFrom_26 : decode cX2_copyFrom 26 = .ok (.getfield 42, 3) := by decide +kernel
theorem dX2_copyFrom_29 : decode cX2_copyFrom 29 = .ok (.putfield 42, 3) := by decide +kernel
theorem dX2_copyFrom_32 : decode cX2_copyFrom 32 = .ok (.aload_n 0, 1) := by decide +kernel
theorem dX2_copyFrom_33 : decode cX2_copyFrom 33 = .ok (.aload_n 1, 1) := by decide +kernel
theorem dX2_copyFrom_34 : decode cX2_copyFrom 34 = .ok (.getfield 21, 3) := by decide +kernel
theorem dX2_copyFrom_37 : decode cX2_copyFrom 37 = .ok (.putfield 21, 3) := by decide +kernel
theorem dX2_copyFrom_40 : decode cX2_copyFrom 40 = .ok (.aload_n 0, 1) := by decide +kernel
theorem dX2_copyFrom_41 : decode cX2_copyFrom 41 = .ok (.aload_n 1, 1) := by decide +kernel
theorem dX2_copyFrom_42 : decode cX2_copyFrom 42 = .ok (.getfield 25, 3) := by decide +kernel
theorem dX2_copyFrom_45 : decode cX2_copyFrom 45 = .ok (.putfield 25, 3) := by decide +kernel
theorem dX2_copyFrom_48 : decode cX2_copyFrom 48 = .ok (.aload_n 0, 1) := by decide +kernel
theorem dX2_copyFrom_49 : decode cX2_copyFrom 49 = .ok (.aload_n 1, 1) := by decide +kernel
theorem dX2_copyFrom_50 : decode cX2_copyFrom 50 = .ok (.getfield 32, 3) := by decide +kernel
theorem dX2_copyFrom_53 : decode cX2_copyFrom 53 = .ok (.putfield 32, 3) := by decide +kernel
theorem dX2_copyFrom_56 : decode cX2_copyFrom 56 = .ok (.aload_n 0, 1) := by decide +kernel
theorem dX2_copyFrom_57 : decode cX2_copyFrom 57 = .ok (.aload_n 1, 1) := by decide +kernel
theorem dX2_copyFrom_58 : decode cX2_copyFrom 58 = .ok (.getfield 45, 3) := by decide +kernel
theorem dX2_copyFrom_61 : decode cX2_copyFrom 61 = .ok (.putfield 45, 3) := by decide +kernel
theorem dX2_copyFrom_64 : decode cX2_copyFrom 64 = .ok (.aload_n 0, 1) := by decide +kernel
theorem dX2_copyFrom_65 : decode cX2_copyFrom 65 = .ok (.aload_n 1, 1) := by decide +kernel
theorem dX2_copyFrom_66 : decode cX2_copyFrom 66 = .ok (.getfield 35, 3) := by decide +kernel
theorem dX2_copyFrom_69 : decode cX2_copyFrom 69 = .ok (.putfield 35, 3) := by decide +kernel
theorem dX2_copyFrom_72 : decode cX2_copyFrom 72 = .ok (.return_, 1) := by decide +kernel
theorem dX2_putLamp_0 : decode cX2_putLamp 0 = .ok (.aload_n 0, 1) := by decide +kernel
theorem dX2_putLamp_1 : decode cX2_putLamp 1 = .ok (.iload_n 1, 1) := by decide +kernel
theorem dX2_putLamp_2 : decode cX2_putLamp 2 = .ok (.putfield 42, 3) := by decide +kernel
theorem dX2_putLamp_5 : decode cX2_putLamp 5 = .ok (.aload_n 0, 1) := by decide +kernel
theorem dX2_putLamp_6 : decode cX2_putLamp 6 = .ok (.aload_n 0, 1) := by decide +kernel
theorem dX2_putLamp_7 : decode cX2_putLamp 7 = .ok (.invokevirtual 48, 3) := by decide +kernel
theorem dX2_putLamp_10 : decode cX2_putLamp 10 = .ok (.putfield 45, 3) := by decide +kernel
theorem dX2_putLamp_13 : decode cX2_putLamp 13 = .ok (.return_, 1) := by decide +kernel
theorem dX2_ratedTime_0 : decode cX2_ratedTime 0 = .ok (.aload_n 0, 1) := by decide +kernel
theorem dX2_ratedTime_1 : decode cX2_ratedTime 1 = .ok (.getfield 18, 3) := by decide +kernel
theorem dX2_ratedTime_4 : decode cX2_ratedTime 4 = .ok (.tableswitch 37 0 2 #[28, 31, 34], 28) := by decide +kernel
theorem dX2_ratedTime_32 : decode cX2_ratedTime 32 = .ok (.bipush 60, 2) := by decide +kernel
theorem dX2_ratedTime_34 : decode cX2_ratedTime 34 = .ok (.ireturn, 1) := by decide +kernel
theorem dX2_ratedTime_35 : decode cX2_ratedTime 35 = .ok (.bipush 90, 2) := by decide +kernel
theorem dX2_ratedTime_37 : decode cX2_ratedTime 37 = .ok (.ireturn, 1) := by decide +kernel
theorem dX2_ratedTime_38 : decode cX2_ratedTime 38 = .ok (.bipush 120, 2) := by decide +kernel
theorem dX2_ratedTime_40 : decode cX2_ratedTime 40 = .ok (.ireturn, 1) := by decide +kernel
theorem dX2_ratedTime_41 : decode cX2_ratedTime 41 = .ok (.sipush 180, 3) := by decide +kernel
theorem dX2_ratedTime_44 : decode cX2_ratedTime 44 = .ok (.ireturn, 1) := by decide +kernel
theorem dX2_wear_0 : decode cX2_wear 0 = .ok (.aload_n 0, 1) := by decide +kernel
theorem dX2_wear_1 : decode cX2_wear 1 = .ok (.getfield 18, 3) := by decide +kernel
theorem dX2_wear_4 : decode cX2_wear 4 = .ok (.tableswitch 34 0 2 #[28, 30, 32], 28) := by decide +kernel
theorem dX2_wear_32 : decode cX2_wear 32 = .ok (.iconst 5, 1) := by decide +kernel
theorem dX2_wear_33 : decode cX2_wear 33 = .ok (.ireturn, 1) := by decide +kernel
theorem dX2_wear_34 : decode cX2_wear 34 = .ok (.iconst 4, 1) := by decide +kernel
theorem dX2_wear_35 : decode cX2_wear 35 = .ok (.ireturn, 1) := by decide +kernel
theorem dX2_wear_36 : decode cX2_wear 36 = .ok (.iconst 3, 1) := by decide +kernel
theorem dX2_wear_37 : decode cX2_wear 37 = .ok (.ireturn, 1) := by decide +kernel
theorem dX2_wear_38 : decode cX2_wear 38 = .ok (.iconst 2, 1) := by decide +kernel
theorem dX2_wear_39 : decode cX2_wear 39 = .ok (.ireturn, 1) := by decide +kernel
theorem dX2_life_0 : decode cX2_life 0 = .ok (.aload_n 0, 1) := by decide +kernel
theorem dX2_life_1 : decode cX2_life 1 = .ok (.getfield 42, 3) := by decide +kernel
theorem dX2_life_4 : decode cX2_life 4 = .ok (.lookupswitch 36 #[(0, 28), (1, 32)], 28) := by decide +kernel
theorem dX2_life_32 : decode cX2_life 32 = .ok (.sipush 3000, 3) := by decide +kernel
theorem dX2_life_35 : decode cX2_life 35 = .ok (.ireturn, 1) := by decide +kernel
theorem dX2_life_36 : decode cX2_life 36 = .ok (.sipush 6000, 3) := by decide +kernel
theorem dX2_life_39 : decode cX2_life 39 = .ok (.ireturn, 1) := by decide +kernel
theorem dX2_life_40 : decode cX2_life 40 = .ok (.sipush 9000, 3) := by decide +kernel
theorem dX2_life_43 : decode cX2_life 43 = .ok (.ireturn, 1) := by decide +kernel
theorem dX2_width_0 : decode cX2_width 0 = .ok (.aload_n 0, 1) := by decide +kernel
theorem dX2_width_1 : decode cX2_width 1 = .ok (.getfield 42, 3) := by decide +kernel
theorem dX2_width_4 : decode cX2_width 4 = .ok (.invokestatic 51, 3) := by decide +kernel
theorem dX2_width_7 : decode cX2_width 7 = .ok (.ireturn, 1) := by decide +kernel
theorem dX2_widthOf_0 : decode cX2_widthOf 0 = .ok (.iload_n 0, 1) := by decide +kernel
theorem dX2_widthOf_1 : decode cX2_widthOf 1 = .ok (.lookupswitch 32 #[(0, 27), (1, 29)], 27) := by decide +kernel
theorem dX2_widthOf_28 : decode cX2_widthOf 28 = .ok (.iconst 4, 1) := by decide +kernel
theorem dX2_widthOf_29 : decode cX2_widthOf 29 = .ok (.ireturn, 1) := by decide +kernel
theorem dX2_widthOf_30 : decode cX2_widthOf 30 = .ok (.bipush 6, 2) := by decide +kernel
theorem dX2_widthOf_32 : decode cX2_widthOf 32 = .ok (.ireturn, 1) := by decide +kernel
theorem dX2_widthOf_33 : decode cX2_widthOf 33 = .ok (.bipush 9, 2) := by decide +kernel
theorem dX2_widthOf_35 : decode cX2_widthOf 35 = .ok (.ireturn, 1) := by decide +kernel
theorem dX2_capacity_0 : decode cX2_capacity 0 = .ok (.iconst 5, 1) := by decide +kernel
theorem dX2_capacity_1 : decode cX2_capacity 1 = .ok (.aload_n 0, 1) := by decide +kernel
theorem dX2_capacity_2 : decode cX2_capacity 2 = .ok (.invokevirtual 55, 3) := by decide +kernel
theorem dX2_capacity_5 : decode cX2_capacity 5 = .ok (.imul, 1) := by decide +kernel
theorem dX2_capacity_6 : decode cX2_capacity 6 = .ok (.aload_n 0, 1) := by decide +kernel
theorem dX2_capacity_7 : decode cX2_capacity 7 = .ok (.getfield 25, 3) := by decide +kernel
theorem dX2_capacity_10 : decode cX2_capacity 10 = .ok (.imul, 1) := by decide +kernel
theorem dX2_capacity_11 : decode cX2_capacity 11 = .ok (.sipush 4000, 3) := by decide +kernel
theorem dX2_capacity_14 : decode cX2_capacity 14 = .ok (.idiv, 1) := by decide +kernel
theorem dX2_capacity_15 : decode cX2_capacity 15 = .ok (.ireturn, 1) := by decide +kernel
theorem dX2_fullCharge_0 : decode cX2_fullCharge 0 = .ok (.bipush 24, 2) := by decide +kernel
theorem dX2_fullCharge_2 : decode cX2_fullCharge 2 = .ok (.aload_n 0, 1) := by decide +kernel
theorem dX2_fullCharge_3 : decode cX2_fullCharge 3 = .ok (.invokevirtual 58, 3) := by decide +kernel
theorem dX2_fullCharge_6 : decode cX2_fullCharge 6 = .ok (.imul, 1) := by decide +kernel
theorem dX2_fullCharge_7 : decode cX2_fullCharge 7 = .ok (.ireturn, 1) := by decide +kernel
theorem dX2_endurance_0 : decode cX2_endurance 0 = .ok (.aload_n 0, 1) := by decide +kernel
theorem dX2_endurance_1 : decode cX2_endurance 1 = .ok (.getfield 32, 3) := by decide +kernel
theorem dX2_endurance_4 : decode cX2_endurance 4 = .ok (.bipush 24, 2) := by decide +kernel
theorem dX2_endurance_6 : decode cX2_endurance 6 = .ok (.idiv, 1) := by decide +kernel
theorem dX2_endurance_7 : decode cX2_endurance 7 = .ok (.aload_n 0, 1) := by decide +kernel
theorem dX2_endurance_8 : decode cX2_endurance 8 = .ok (.getfield 45, 3) := by decide +kernel
theorem dX2_endurance_11 : decode cX2_endurance 11 = .ok (.invokestatic 61, 3) := by decide +kernel
theorem dX2_endurance_14 : decode cX2_endurance 14 = .ok (.ireturn, 1) := by decide +kernel
theorem dX2_isReady_0 : decode cX2_isReady 0 = .ok (.aload_n 0, 1) := by decide +kernel
theorem dX2_isReady_1 : decode cX2_isReady 1 = .ok (.invokevirtual 67, 3) := by decide +kernel
theorem dX2_isReady_4 : decode cX2_isReady 4 = .ok (.iload_n 1, 1) := by decide +kernel
theorem dX2_isReady_5 : decode cX2_isReady 5 = .ok (.if_icmp .lt 7, 3) := by decide +kernel
theorem dX2_isReady_8 : decode cX2_isReady 8 = .ok (.iconst 1, 1) := by decide +kernel
theorem dX2_isReady_9 : decode cX2_isReady 9 = .ok (.goto 4, 3) := by decide +kernel
theorem dX2_isReady_12 : decode cX2_isReady 12 = .ok (.iconst 0, 1) := by decide +kernel
theorem dX2_isReady_13 : decode cX2_isReady 13 = .ok (.ireturn, 1) := by decide +kernel
theorem dX2_reaches_0 : decode cX2_reaches 0 = .ok (.iload_n 1, 1) := by decide +kernel
theorem dX2_reaches_1 : decode cX2_reaches 1 = .ok (.aload_n 0, 1) := by decide +kernel
theorem dX2_reaches_2 : decode cX2_reaches 2 = .ok (.getfield 9, 3) := by decide +kernel
theorem dX2_reaches_5 : decode cX2_reaches 5 = .ok (.isub, 1) := by decide +kernel
theorem dX2_reaches_6 : decode cX2_reaches 6 = .ok (.invokestatic 70, 3) := by decide +kernel
theorem dX2_reaches_9 : decode cX2_reaches 9 = .ok (.aload_n 0, 1) := by decide +kernel
theorem dX2_reaches_10 : decode cX2_reaches 10 = .ok (.invokevirtual 73, 3) := by decide +kernel
theorem dX2_reaches_13 : decode cX2_reaches 13 = .ok (.if_icmp .gt 7, 3) := by decide +kernel
theorem dX2_reaches_16 : decode cX2_reaches 16 = .ok (.iconst 1, 1) := by decide +kernel
theorem dX2_reaches_17 : decode cX2_reaches 17 = .ok (.goto 4, 3) := by decide +kernel
theorem dX2_reaches_20 : decode cX2_reaches 20 = .ok (.iconst 0, 1) := by decide +kernel
theorem dX2_reaches_21 : decode cX2_reaches 21 = .ok (.ireturn, 1) := by decide +kernel
theorem dX2_letHoursPass_0 : decode cX2_letHoursPass 0 = .ok (.aload_n 0, 1) := by decide +kernel
theorem dX2_letHoursPass_1 : decode cX2_letHoursPass 1 = .ok (.getfield 21, 3) := by decide +kernel
theorem dX2_letHoursPass_4 : decode cX2_letHoursPass 4 = .ok (.ifCond .eq 20, 3) := by decide +kernel
theorem dX2_letHoursPass_7 : decode cX2_letHoursPass 7 = .ok (.aload_n 0, 1) := by decide +kernel
theorem dX2_letHoursPass_8 : decode cX2_letHoursPass 8 = .ok (.iconst 0, 1) := by decide +kernel
theorem dX2_letHoursPass_9 : decode cX2_letHoursPass 9 = .ok (.aload_n 0, 1) := by decide +kernel
theorem dX2_letHoursPass_10 : decode cX2_letHoursPass 10 = .ok (.getfield 45, 3) := by decide +kernel
theorem dX2_letHoursPass_13 : decode cX2_letHoursPass 13 = .ok (.bipush 60, 2) := by decide +kernel
theorem dX2_letHoursPass_15 : decode cX2_letHoursPass 15 = .ok (.iload_n 1, 1) := by decide +kernel
theorem dX2_letHoursPass_16 : decode cX2_letHoursPass 16 = .ok (.imul, 1) := by decide +kernel
theorem dX2_letHoursPass_17 : decode cX2_letHoursPass 17 = .ok (.isub, 1) := by decide +kernel
theorem dX2_letHoursPass_18 : decode cX2_letHoursPass 18 = .ok (.invokestatic 76, 3) := by decide +kernel
theorem dX2_letHoursPass_21 : decode cX2_letHoursPass 21 = .ok (.putfield 45, 3) := by decide +kernel
theorem dX2_letHoursPass_24 : decode cX2_letHoursPass 24 = .ok (.aload_n 0, 1) := by decide +kernel
theorem dX2_letHoursPass_25 : decode cX2_letHoursPass 25 = .ok (.aload_n 0, 1) := by decide +kernel
theorem dX2_letHoursPass_26 : decode cX2_letHoursPass 26 = .ok (.invokevirtual 28, 3) := by decide +kernel
theorem dX2_letHoursPass_29 : decode cX2_letHoursPass 29 = .ok (.aload_n 0, 1) := by decide +kernel
theorem dX2_letHoursPass_30 : decode cX2_letHoursPass 30 = .ok (.getfield 32, 3) := by decide +kernel
theorem dX2_letHoursPass_33 : decode cX2_letHoursPass 33 = .ok (.iload_n 1, 1) := by decide +kernel
theorem dX2_letHoursPass_34 : decode cX2_letHoursPass 34 = .ok (.aload_n 0, 1) := by decide +kernel
theorem dX2_letHoursPass_35 : decode cX2_letHoursPass 35 = .ok (.invokevirtual 58, 3) := by decide +kernel
theorem dX2_letHoursPass_38 : decode cX2_letHoursPass 38 = .ok (.imul, 1) := by decide +kernel
theorem dX2_letHoursPass_39 : decode cX2_letHoursPass 39 = .ok (.iadd, 1) := by decide +kernel
theorem dX2_letHoursPass_40 : decode cX2_letHoursPass 40 = .ok (.invokestatic 61, 3) := by decide +kernel
theorem dX2_letHoursPass_43 : decode cX2_letHoursPass 43 = .ok (.putfield 32, 3) := by decide +kernel
theorem dX2_letHoursPass_46 : decode cX2_letHoursPass 46 = .ok (.return_, 1) := by decide +kernel
theorem dX2_age_0 : decode cX2_age 0 = .ok (.aload_n 0, 1) := by decide +kernel
theorem dX2_age_1 : decode cX2_age 1 = .ok (.iconst 0, 1) := by decide +kernel
theorem dX2_age_2 : decode cX2_age 2 = .ok (.aload_n 0, 1) := by decide +kernel
theorem dX2_age_3 : decode cX2_age 3 = .ok (.getfield 25, 3) := by decide +kernel
theorem dX2_age_6 : decode cX2_age 6 = .ok (.iload_n 1, 1) := by decide +kernel
theorem dX2_age_7 : decode cX2_age 7 = .ok (.isub, 1) := by decide +kernel
theorem dX2_age_8 : decode cX2_age 8 = .ok (.invokestatic 76, 3) := by decide +kernel
theorem dX2_age_11 : decode cX2_age 11 = .ok (.putfield 25, 3) := by decide +kernel
theorem dX2_age_14 : decode cX2_age 14 = .ok (.aload_n 0, 1) := by decide +kernel
theorem dX2_age_15 : decode cX2_age 15 = .ok (.aload_n 0, 1) := by decide +kernel
theorem dX2_age_16 : decode cX2_age 16 = .ok (.getfield 32, 3) := by decide +kernel
theorem dX2_age_19 : decode cX2_age 19 = .ok (.aload_n 0, 1) := by decide +kernel
theorem dX2_age_20 : decode cX2_age 20 = .ok (.invokevirtual 28, 3) := by decide +kernel
theorem dX2_age_23 : decode cX2_age 23 = .ok (.invokestatic 61, 3) := by decide +kernel
theorem dX2_age_26 : decode cX2_age 26 = .ok (.putfield 32, 3) := by decide +kernel
theorem dX2_age_29 : decode cX2_age 29 = .ok (.return_, 1) := by decide +kernel
theorem dX2_burn_0 : decode cX2_burn 0 = .ok (.aload_n 0, 1) := by decide +kernel
theorem dX2_burn_1 : decode cX2_burn 1 = .ok (.invokevirtual 67, 3) := by decide +kernel
theorem dX2_burn_4 : decode cX2_burn 4 = .ok (.aload_n 0, 1) := by decide +kernel
theorem dX2_burn_5 : decode cX2_burn 5 = .ok (.invokevirtual 55, 3) := by decide +kernel
theorem dX2_burn_8 : decode cX2_burn 8 = .ok (.invokestatic 61, 3) := by decide +kernel
theorem dX2_burn_11 : decode cX2_burn 11 = .ok (.istore_n 1, 1) := by decide +kernel
theorem dX2_burn_12 : decode cX2_burn 12 = .ok (.aload_n 0, 1) := by decide +kernel
theorem dX2_burn_13 : decode cX2_burn 13 = .ok (.dup, 1) := by decide +kernel
theorem dX2_burn_14 : decode cX2_burn 14 = .ok (.getfield 45, 3) := by decide +kernel
theorem dX2_burn_17 : decode cX2_burn 17 = .ok (.iload_n 1, 1) := by decide +kernel
theorem dX2_burn_18 : decode cX2_burn 18 = .ok (.isub, 1) := by decide +kernel
theorem dX2_burn_19 : decode cX2_burn 19 = .ok (.putfield 45, 3) := by decide +kernel
theorem dX2_burn_22 : decode cX2_burn 22 = .ok (.aload_n 0, 1) := by decide +kernel
theorem dX2_burn_23 : decode cX2_burn 23 = .ok (.dup, 1) := by decide +kernel
theorem dX2_burn_24 : decode cX2_burn 24 = .ok (.getfield 32, 3) := by decide +kernel
theorem dX2_burn_27 : decode cX2_burn 27 = .ok (.bipush 24, 2) := by decide +kernel
theorem dX2_burn_29 : decode cX2_burn 29 = .ok (.iload_n 1, 1) := by decide +kernel
theorem dX2_burn_30 : decode cX2_burn 30 = .ok (.imul, 1) := by decide +kernel
theorem dX2_burn_31 : decode cX2_burn 31 = .ok (.isub, 1) := by decide +kernel
theorem dX2_burn_32 : decode cX2_burn 32 = .ok (.putfield 32, 3) := by decide +kernel
theorem dX2_burn_35 : decode cX2_burn 35 = .ok (.aload_n 0, 1) := by decide +kernel
theorem dX2_burn_36 : decode cX2_burn 36 = .ok (.aload_n 0, 1) := by decide +kernel
theorem dX2_burn_37 : decode cX2_burn 37 = .ok (.invokevirtual 79, 3) := by decide +kernel
theorem dX2_burn_40 : decode cX2_burn 40 = .ok (.invokevirtual 82, 3) := by decide +kernel
theorem dX2_burn_43 : decode cX2_burn 43 = .ok (.aload_n 0, 1) := by decide +kernel
theorem dX2_burn_44 : decode cX2_burn 44 = .ok (.iload_n 1, 1) := by decide +kernel
theorem dX2_burn_45 : decode cX2_burn 45 = .ok (.putfield 35, 3) := by decide +kernel
theorem dX2_burn_48 : decode cX2_burn 48 = .ok (.iload_n 1, 1) := by decide +kernel
theorem dX2_burn_49 : decode cX2_burn 49 = .ok (.aload_n 0, 1) := by decide +kernel
theorem dX2_burn_50 : decode cX2_burn 50 = .ok (.invokevirtual 55, 3) := by decide +kernel
theorem dX2_burn_53 : decode cX2_burn 53 = .ok (.if_icmp .ne 7, 3) := by decide +kernel
theorem dX2_burn_56 : decode cX2_burn 56 = .ok (.iconst 1, 1) := by decide +kernel
theorem dX2_burn_57 : decode cX2_burn 57 = .ok (.goto 4, 3) := by decide +kernel
theorem dX2_burn_60 : decode cX2_burn 60 = .ok (.iconst 0, 1) := by decide +kernel
theorem dX2_burn_61 : decode cX2_burn 61 = .ok (.ireturn, 1) := by decide +kernel
theorem dX2_property_0 : decode cX2_property 0 = .ok (.iload_n 1, 1) := by decide +kernel
theorem dX2_property_1 : decode cX2_property 1 = .ok (.tableswitch 131 0 10 #[59, 64, 69, 74, 79, 92, 97, 102, 107, 112, 117], 59) := by decide +kernel
theorem dX2_property_60 : decode cX2_property 60 = .ok (.aload_n 0, 1) := by decide +kernel
theorem dX2_property_61 : decode cX2_property 61 = .ok (.getfield 9, 3) := by decide +kernel
theorem dX2_property_64 : decode cX2_property 64 = .ok (.ireturn, 1) := by decide +kernel
theorem dX2_property_65 : decode cX2_property 65 = .ok (.aload_n 0, 1) := by decide +kernel
theorem dX2_property_66 : decode cX2_property 66 = .ok (.getfield 15, 3) := by decide +kernel
theorem dX2_property_69 : decode cX2_property 69 = .ok (.ireturn, 1) := by decide +kernel
theorem dX2_property_70 : decode cX2_property 70 = .ok (.aload_n 0, 1) := by decide +kernel
theorem dX2_property_71 : decode cX2_property 71 = .ok (.getfield 18, 3) := by decide +kernel
theorem dX2_property_74 : decode cX2_property 74 = .ok (.ireturn, 1) := by decide +kernel
theorem dX2_property_75 : decode cX2_property 75 = .ok (.aload_n 0, 1) := by decide +kernel
theorem dX2_property_76 : decode cX2_property 76 = .ok (.getfield 42, 3) := by decide +kernel
theorem dX2_property_79 : decode cX2_property 79 = .ok (.ireturn, 1) := by decide +kernel
theorem dX2_property_80 : decode cX2_property 80 = .ok (.aload_n 0, 1) := by decide +kernel
theorem dX2_property_81 : decode cX2_property 81 = .ok (.getfield 21, 3) := by decide +kernel
theorem dX2_property_84 : decode cX2_property 84 = .ok (.ifCond .eq 7, 3) := by decide +kernel
theorem dX2_property_87 : decode cX2_property 87 = .ok (.iconst 1, 1) := by decide +kernel
theorem dX2_property_88 : decode cX2_property 88 = .ok (.goto 4, 3) := by decide +kernel
theorem dX2_property_91 : decode cX2_property 91 = .ok (.iconst 0, 1) := by decide +kernel
theorem dX2_property_92 : decode cX2_property 92 = .ok (.ireturn, 1) := by decide +kernel
theorem dX2_property_93 : decode cX2_property 93 = .ok (.aload_n 0, 1) := by decide +kernel
theorem dX2_property_94 : decode cX2_property 94 = .ok (.getfield 25, 3) := by decide +kernel
theorem dX2_property_97 : decode cX2_property 97 = .ok (.ireturn, 1) := by decide +kernel
theorem dX2_property_98 : decode cX2_property 98 = .ok (.aload_n 0, 1) := by decide +kernel
theorem dX2_property_99 : decode cX2_property 99 = .ok (.invokevirtual 58, 3) := by decide +kernel
theorem dX2_property_102 : decode cX2_property 102 = .ok (.ireturn, 1) := by decide +kernel
theorem dX2_property_103 : decode cX2_property 103 = .ok (.aload_n 0, 1) := by decide +kernel
theorem dX2_property_104 : decode cX2_property 104 = .ok (.getfield 32, 3) := by decide +kernel
theorem dX2_property_107 : decode cX2_property 107 = .ok (.ireturn, 1) := by decide +kernel
theorem dX2_property_108 : decode cX2_property 108 = .ok (.aload_n 0, 1) := by decide +kernel
theorem dX2_property_109 : decode cX2_property 109 = .ok (.getfield 45, 3) := by decide +kernel
theorem dX2_property_112 : decode cX2_property 112 = .ok (.ireturn, 1) := by decide +kernel
theorem dX2_property_113 : decode cX2_property 113 = .ok (.aload_n 0, 1) := by decide +kernel
theorem dX2_property_114 : decode cX2_property 114 = .ok (.invokevirtual 67, 3) := by decide +kernel
theorem dX2_property_117 : decode cX2_property 117 = .ok (.ireturn, 1) := by decide +kernel
theorem dX2_property_118 : decode cX2_property 118 = .ok (.aload_n 0, 1) := by decide +kernel
theorem dX2_property_119 : decode cX2_property 119 = .ok (.iload_n 2, 1) := by decide +kernel
theorem dX2_property_120 : decode cX2_property 120 = .ok (.invokevirtual 85, 3) := by decide +kernel
theorem dX2_property_123 : decode cX2_property 123 = .ok (.ifCond .eq 7, 3) := by decide +kernel
theorem dX2_property_126 : decode cX2_property 126 = .ok (.iconst 1, 1) := by decide +kernel
theorem dX2_property_127 : decode cX2_property 127 = .ok (.goto 4, 3) := by decide +kernel
theorem dX2_property_130 : decode cX2_property 130 = .ok (.iconst 0, 1) := by decide +kernel
theorem dX2_property_131 : decode cX2_property 131 = .ok (.ireturn, 1) := by decide +kernel
theorem dX2_property_132 : decode cX2_property 132 = .ok (.aload_n 0, 1) := by decide +kernel
theorem dX2_property_133 : decode cX2_property 133 = .ok (.getfield 35, 3) := by decide +kernel
theorem dX2_property_136 : decode cX2_property 136 = .ok (.ireturn, 1) := by decide +kernel
theorem dX3_init_0 : decode cX3_init 0 = .ok (.aload_n 0, 1) := by decide +kernel
theorem dX3_init_1 : decode cX3_init 1 = .ok (.invokespecial 3, 3) := by decide +kernel
theorem dX3_init_4 : decode cX3_init 4 = .ok (.aload_n 0, 1) := by decide +kernel
theorem dX3_init_5 : decode cX3_init 5 = .ok (.sipush 1024, 3) := by decide +kernel
theorem dX3_init_8 : decode cX3_init 8 = .ok (.newarray .byte, 2) := by decide +kernel
theorem dX3_init_10 : decode cX3_init 10 = .ok (.putfield 9, 3) := by decide +kernel
theorem dX3_init_13 : decode cX3_init 13 = .ok (.aload_n 0, 1) := by decide +kernel
theorem dX3_init_14 : decode cX3_init 14 = .ok (.bipush 10, 2) := by decide +kernel
theorem dX3_init_16 : decode cX3_init 16 = .ok (.newarray .int, 2) := by decide +kernel
theorem dX3_init_18 : decode cX3_init 18 = .ok (.putfield 15, 3) := by decide +kernel
theorem dX3_init_21 : decode cX3_init 21 = .ok (.return_, 1) := by decide +kernel
theorem dX3_forget_0 : decode cX3_forget 0 = .ok (.aload_n 0, 1) := by decide +kernel
theorem dX3_forget_1 : decode cX3_forget 1 = .ok (.iconst 0, 1) := by decide +kernel
theorem dX3_forget_2 : decode cX3_forget 2 = .ok (.putfield 19, 3) := by decide +kernel
theorem dX3_forget_5 : decode cX3_forget 5 = .ok (.return_, 1) := by decide +kernel
theorem dX3_setOn_0 : decode cX3_setOn 0 = .ok (.iload_n 1, 1) := by decide +kernel
theorem dX3_setOn_1 : decode cX3_setOn 1 = .ok (.ifCond .lt 26, 3) := by decide +kernel
theorem dX3_setOn_4 : decode cX3_setOn 4 = .ok (.iload_n 1, 1) := by decide +kernel
theorem dX3_setOn_5 : decode cX3_setOn 5 = .ok (.aload_n 0, 1) := by decide +kernel
theorem dX3_setOn_6 : decode cX3_setOn 6 = .ok (.getfield 23, 3) := by decide +kernel
theorem dX3_setOn_9 : decode cX3_setOn 9 = .ok (.if_icmp .ge 18, 3) := by decide +kernel
theorem dX3_setOn_12 : decode cX3_setOn 12 = .ok (.iload_n 1, 1) := by decide +kernel
theorem dX3_setOn_13 : decode cX3_setOn 13 = .ok (.bipush 10, 2) := by decide +kernel
theorem dX3_setOn_15 : decode cX3_setOn 15 = .ok (.if_icmp .ge 12, 3) := by decide +kernel
theorem dX3_setOn_18 : decode cX3_setOn 18 = .ok (.aload_n 0, 1) := by decide +kernel
theorem dX3_setOn_19 : decode cX3_setOn 19 = .ok (.getfield 15, 3) := by decide +kernel
theorem dX3_setOn_22 : decode cX3_setOn 22 = .ok (.iload_n 1, 1) := by decide +kernel
theorem dX3_setOn_23 : decode cX3_setOn 23 = .ok (.iaload, 1) := by decide +kernel
theorem dX3_setOn_24 : decode cX3_setOn 24 = .ok (.goto 5, 3) := by decide +kernel
theorem dX3_setOn_27 : decode cX3_setOn 27 = .ok (.bipush (-9), 2) := by decide +kernel
theorem dX3_setOn_29 : decode cX3_setOn 29 = .ok (.ireturn, 1) := by decide +kernel
theorem dX3_dayOf_0 : decode cX3_dayOf 0 = .ok (.iconst 0, 1) := by decide +kernel
theorem dX3_dayOf_1 : decode cX3_dayOf 1 = .ok (.istore_n 2, 1) := by decide +kernel
theorem dX3_dayOf_2 : decode cX3_dayOf 2 = .ok (.iload_n 2, 1) := by decide +kernel
theorem dX3_dayOf_3 : decode cX3_dayOf 3 = .ok (.aload_n 0, 1) := by decide +kernel
theorem dX3_dayOf_4 : decode cX3_dayOf 4 = .ok (.getfield 23, 3) := by decide +kernel
theorem dX3_dayOf_7 : decode cX3_dayOf 7 = .ok (.if_icmp .ge 24, 3) := by decide +kernel
theorem dX3_dayOf_10 : decode cX3_dayOf 10 = .ok (.aload_n 0, 1) := by decide +kernel
theorem dX3_dayOf_11 : decode cX3_dayOf 11 = .ok (.iload_n 2, 1) := by decide +kernel
theorem dX3_dayOf_12 : decode cX3_dayOf 12 = .ok (.invokevirtual 27, 3) := by decide +kernel
theorem dX3_dayOf_15 : decode cX3_dayOf 15 = .ok (.iload_n 1, 1) := by decide +kernel
theorem dX3_dayOf_16 : decode cX3_dayOf 16 = .ok (.ishr, 1) := by decide +kernel
theorem dX3_dayOf_17 : decode cX3_dayOf 17 = .ok (.iconst 1, 1) := by decide +kernel
theorem dX3_dayOf_18 : decode cX3_dayOf 18 = .ok (.iand, 1) := by decide +kernel
theorem dX3_dayOf_19 : decode cX3_dayOf 19 = .ok (.iconst 1, 1) := by decide +kernel
theorem dX3_dayOf_20 : decode cX3_dayOf 20 = .ok (.if_icmp .ne 5, 3) := by decide +kernel
theorem dX3_dayOf_23 : decode cX3_dayOf 23 = .ok (.iload_n 2, 1) := by decide +kernel
theorem dX3_dayOf_24 : decode cX3_dayOf 24 = .ok (.ireturn, 1) := by decide +kernel
theorem dX3_dayOf_25 : decode cX3_dayOf 25 = .ok (.iinc 2 1, 3) := by decide +kernel
theorem dX3_dayOf_28 : decode cX3_dayOf 28 = .ok (.goto (-26), 3) := by decide +kernel
theorem dX3_dayOf_31 : decode cX3_dayOf 31 = .ok (.bipush (-9), 2) := by decide +kernel
theorem dX3_dayOf_33 : decode cX3_dayOf 33 = .ok (.ireturn, 1) := by decide +kernel
theorem dX3_follow_0 : decode cX3_follow 0 = .ok (.aload_n 0, 1) := by decide +kernel
theorem dX3_follow_1 : decode cX3_follow 1 = .ok (.getfield 19, 3) := by decide +kernel
theorem dX3_follow_4 : decode cX3_follow 4 = .ok (.ifCond .eq 4, 3) := by decide +kernel
theorem dX3_follow_7 : decode cX3_follow 7 = .ok (.return_, 1) := by decide +kernel
theorem dX3_follow_8 : decode cX3_follow 8 = .ok (.aload_n 0, 1) := by decide +kernel
theorem dX3_follow_9 : decode cX3_follow 9 = .ok (.aload_n 0, 1) := by decide +kernel
theorem dX3_follow_10 : decode cX3_follow 10 = .ok (.aload_n 1, 1) := by decide +kernel
theorem dX3_follow_11 : decode cX3_follow 11 = .ok (.aload_n 2, 1) := by decide +kernel
theorem dX3_follow_12 : decode cX3_follow 12 = .ok (.invokevirtual 31, 3) := by decide +kernel
theorem dX3_follow_15 : decode cX3_follow 15 = .ok (.putfield 23, 3) := by decide +kernel
theorem dX3_follow_18 : decode cX3_follow 18 = .ok (.iconst 1, 1) := by decide +kernel
theorem dX3_follow_19 : decode cX3_follow 19 = .ok (.aload_n 1, 1) := by decide +kernel
theorem dX3_follow_20 : decode cX3_follow 20 = .ok (.getfield 35, 3) := by decide +kernel
theorem dX3_follow_23 : decode cX3_follow 23 = .ok (.ishl, 1) := by decide +kernel
theorem dX3_follow_24 : decode cX3_follow 24 = .ok (.iconst 1, 1) := by decide +kernel
theorem dX3_follow_25 : decode cX3_follow 25 = .ok (.isub, 1) := by decide +kernel
theorem dX3_follow_26 : decode cX3_follow 26 = .ok (.istore_n 3, 1) := by decide +kernel
theorem dX3_follow_27 : decode cX3_follow 27 = .ok (.iconst 0, 1) := by decide +kernel
theorem dX3_follow_28 : decode cX3_follow 28 = .ok (.istore 4, 2) := by decide +kernel
theorem dX3_follow_30 : decode cX3_follow 30 = .ok (.iload 4, 2) := by decide +kernel
theorem dX3_follow_32 : decode cX3_follow 32 = .ok (.aload_n 0, 1) := by decide +kernel
theorem dX3_follow_33 : decode cX3_follow 33 = .ok (.getfield 23, 3) := by decide +kernel
theorem dX3_follow_36 : decode cX3_follow 36 = .ok (.if_icmp .ge 38, 3) := by decide +kernel
theorem dX3_follow_39 : decode cX3_follow 39 = .ok (.iload 4, 2) := by decide +kernel
theorem dX3_follow_41 : decode cX3_follow 41 = .ok (.bipush 10, 2) := by decide +kernel
theorem dX3_follow_43 : decode cX3_follow 43 = .ok (.if_icmp .ge 31, 3) := by decide +kernel
theorem dX3_follow_46 : decode cX3_follow 46 = .ok (.aload_n 0, 1) := by decide +kernel
theorem dX3_follow_47 : decode cX3_follow 47 = .ok (.getfield 15, 3) := by decide +kernel
theorem dX3_follow_50 : decode cX3_follow 50 = .ok (.iload 4, 2) := by decide +kernel
theorem dX3_follow_52 : decode cX3_follow 52 = .ok (.aload_n 0, 1) := by decide +kernel
theorem dX3_follow_53 : decode cX3_follow 53 = .ok (.iload_n 3, 1) := by decide +kernel
theorem dX3_follow_54 : decode cX3_follow 54 = .ok (.invokevirtual 40, 3) := by decide +kernel
theorem dX3_follow_57 : decode cX3_follow 57 = .ok (.iastore, 1) := by decide +kernel
theorem dX3_follow_58 : decode cX3_follow 58 = .ok (.iload_n 3, 1) := by decide +kernel
theorem dX3_follow_59 : decode cX3_follow 59 = .ok (.aload_n 0, 1) := by decide +kernel
theorem dX3_follow_60 : decode cX3_follow 60 = .ok (.getfield 15, 3) := by decide +kernel
theorem dX3_follow_63 : decode cX3_follow 63 = .ok (.iload 4, 2) := by decide +kernel
theorem dX3_follow_65 : decode cX3_follow 65 = .ok (.iaload, 1) := by decide +kernel
theorem dX3_follow_66 : decode cX3_follow 66 = .ok (.ixor, 1) := by decide +kernel
theorem dX3_follow_67 : decode cX3_follow 67 = .ok (.istore_n 3, 1) := by decide +kernel
theorem dX3_follow_68 : decode cX3_follow 68 = .ok (.iinc 4 1, 3) := by decide +kernel
theorem dX3_follow_71 : decode cX3_follow 71 = .ok (.goto (-41), 3) := by decide +kernel
theorem dX3_follow_74 : decode cX3_follow 74 = .ok (.aload_n 0, 1) := by decide +kernel
theorem dX3_follow_75 : decode cX3_follow 75 = .ok (.iconst 1, 1) := by decide +kernel
theorem dX3_follow_76 : decode cX3_follow 76 = .ok (.putfield 19, 3) := by decide +kernel
theorem dX3_follow_79 : decode cX3_follow 79 = .ok (.return_, 1) := by decide +kernel
theorem dX3_fewestDays_0 : decode cX3_fewestDays 0 = .ok (.sipush 1023, 3) := by decide +kernel
theorem dX3_fewestDays_3 : decode cX3_fewestDays 3 = .ok (.iconst 1, 1) := by decide +kernel
theorem dX3_fewestDays_4 : decode cX3_fewestDays 4 = .ok (.aload_n 1, 1) := by decide +kernel
theorem dX3_fewestDays_5 : decode cX3_fewestDays 5 = .ok (.getfield 35, 3) := by decide +kernel
theorem dX3_fewestDays_8 : decode cX3_fewestDays 8 = .ok (.ishl, 1) := by decide +kernel
theorem dX3_fewestDays_9 : decode cX3_fewestDays 9 = .ok (.iconst 1, 1) := by decide +kernel
theorem dX3_fewestDays_10 : decode cX3_fewestDays 10 = .ok (.isub, 1) := by decide +kernel
theorem dX3_fewestDays_11 : decode cX3_fewestDays 11 = .ok (.invokestatic 43, 3) := by decide +kernel
theorem dX3_fewestDays_14 : decode cX3_fewestDays 14 = .ok (.istore_n 3, 1) := by decide +kernel
theorem dX3_fewestDays_15 : decode cX3_fewestDays 15 = .ok (.aload_n 2, 1) := by decide +kernel
theorem dX3_fewestDays_16 : decode cX3_fewestDays 16 = .ok (.aload_n 1, 1) := by decide +kernel
theorem dX3_fewestDays_17 : decode cX3_fewestDays 17 = .ok (.invokevirtual 49, 3) := by decide +kernel
theorem dX3_fewestDays_20 : decode cX3_fewestDays 20 = .ok (.aload_n 0, 1) := by decide +kernel
theorem dX3_fewestDays_21 : decode cX3_fewestDays 21 = .ok (.aload_n 1, 1) := by decide +kernel
theorem dX3_fewestDays_22 : decode cX3_fewestDays 22 = .ok (.aload_n 2, 1) := by decide +kernel
theorem dX3_fewestDays_23 : decode cX3_fewestDays 23 = .ok (.iload_n 3, 1) := by decide +kernel
theorem dX3_fewestDays_24 : decode cX3_fewestDays 24 = .ok (.invokevirtual 55, 3) := by decide +kernel
theorem dX3_fewestDays_27 : decode cX3_fewestDays 27 = .ok (.iconst 0, 1) := by decide +kernel
theorem dX3_fewestDays_28 : decode cX3_fewestDays 28 = .ok (.istore 4, 2) := by decide +kernel
theorem dX3_fewestDays_30 : decode cX3_fewestDays 30 = .ok (.iload 4, 2) := by decide +kernel
theorem dX3_fewestDays_32 : decode cX3_fewestDays 32 = .ok (.aload_n 1, 1) := by decide +kernel
theorem dX3_fewestDays_33 : decode cX3_fewestDays 33 = .ok (.getfield 35, 3) := by decide +kernel
theorem dX3_fewestDays_36 : decode cX3_fewestDays 36 = .ok (.if_icmp .ge 24, 3) := by decide +kernel
theorem dX3_fewestDays_39 : decode cX3_fewestDays 39 = .ok (.aload_n 0, 1) := by decide +kernel
theorem dX3_fewestDays_40 : decode cX3_fewestDays 40 = .ok (.iconst 1, 1) := by decide +kernel
theorem dX3_fewestDays_41 : decode cX3_fewestDays 41 = .ok (.iload 4, 2) := by decide +kernel
theorem dX3_fewestDays_43 : decode cX3_fewestDays 43 = .ok (.ishl, 1) := by decide +kernel
theorem dX3_fewestDays_44 : decode cX3_fewestDays 44 = .ok (.invokevirtual 59, 3) := by decide +kernel
theorem dX3_fewestDays_47 : decode cX3_fewestDays 47 = .ok (.iconst 1, 1) := by decide +kernel
theorem dX3_fewestDays_48 : decode cX3_fewestDays 48 = .ok (.if_icmp .le 6, 3) := by decide +kernel
theorem dX3_fewestDays_51 : decode cX3_fewestDays 51 = .ok (.bipush (-9), 2) := by decide +kernel
theorem dX3_fewestDays_53 : decode cX3_fewestDays 53 = .ok (.ireturn, 1) := by decide +kernel
theorem dX3_fewestDays_54 : decode cX3_fewestDays 54 = .ok (.iinc 4 1, 3) := by decide +kernel
theorem dX3_fewestDays_57 : decode cX3_fewestDays 57 = .ok (.goto (-27), 3) := by decide +kernel
theorem dX3_fewestDays_60 : decode cX3_fewestDays 60 = .ok (.iconst 1, 1) := by decide +kernel
theorem dX3_fewestDays_61 : decode cX3_fewestDays 61 = .ok (.istore 4, 2) := by decide +kernel
theorem dX3_fewestDays_63 : decode cX3_fewestDays 63 = .ok (.iload 4, 2) := by decide +kernel
theorem dX3_fewestDays_65 : decode cX3_fewestDays 65 = .ok (.iload_n 3, 1) := by decide +kernel
theorem dX3_fewestDays_66 : decode cX3_fewestDays 66 = .ok (.if_icmp .gt 43, 3) := by decide +kernel
theorem dX3_fewestDays_69 : decode cX3_fewestDays 69 = .ok (.aload_n 0, 1) := by decide +kernel
theorem dX3_fewestDays_70 : decode cX3_fewestDays 70 = .ok (.getfield 9, 3) := by decide +kernel
theorem dX3_fewestDays_73 : decode cX3_fewestDays 73 = .ok (.iload 4, 2) := by decide +kernel
theorem dX3_fewestDays_75 : decode cX3_fewestDays 75 = .ok (.baload, 1) := by decide +kernel
theorem dX3_fewestDays_76 : decode cX3_fewestDays 76 = .ok (.iconst 1, 1) := by decide +kernel
theorem dX3_fewestDays_77 : decode cX3_fewestDays 77 = .ok (.if_icmp .gt 12, 3) := by decide +kernel
theorem dX3_fewestDays_80 : decode cX3_fewestDays 80 = .ok (.aload_n 0, 1) := by decide +kernel
theorem dX3_fewestDays_81 : decode cX3_fewestDays 81 = .ok (.iload 4, 2) := by decide +kernel
theorem dX3_fewestDays_83 : decode cX3_fewestDays 83 = .ok (.invokevirtual 62, 3) := by decide +kernel
theorem dX3_fewestDays_86 : decode cX3_fewestDays 86 = .ok (.ifCond .eq 17, 3) := by decide +kernel
theorem dX3_fewestDays_89 : decode cX3_fewestDays 89 = .ok (.aload_n 0, 1) := by decide +kernel
theorem dX3_fewestDays_90 : decode cX3_fewestDays 90 = .ok (.getfield 9, 3) := by decide +kernel
theorem dX3_fewestDays_93 : decode cX3_fewestDays 93 = .ok (.iload 4, 2) := by decide +kernel
theorem dX3_fewestDays_95 : decode cX3_fewestDays 95 = .ok (.aload_n 0, 1) := by decide +kernel
theorem dX3_fewestDays_96 : decode cX3_fewestDays 96 = .ok (.iload 4, 2) := by decide +kernel
theorem dX3_fewestDays_98 : decode cX3_fewestDays 98 = .ok (.invokevirtual 66, 3) := by decide +kernel
theorem dX3_fewestDays_101 : decode cX3_fewestDays 101 = .ok (.i2b, 1) := by decide +kernel
theorem dX3_fewestDays_102 : decode cX3_fewestDays 102 = .ok (.bastore, 1) := by decide +kernel
theorem dX3_fewestDays_103 : decode cX3_fewestDays 103 = .ok (.iinc 4 1, 3) := by decide +kernel
theorem dX3_fewestDays_106 : decode cX3_fewestDays 106 = .ok (.goto (-43), 3) := by decide +kernel
theorem dX3_fewestDays_109 : decode cX3_fewestDays 109 = .ok (.aload_n 0, 1) := by decide +kernel
theorem dX3_fewestDays_110 : decode cX3_fewestDays 110 = .ok (.iload_n 3, 1) := by decide +kernel
theorem dX3_fewestDays_111 : decode cX3_fewestDays 111 = .ok (.invokevirtual 59, 3) := by decide +kernel
theorem dX3_fewestDays_114 : decode cX3_fewestDays 114 = .ok (.ireturn, 1) := by decide +kernel
theorem dX3_markForbidden_0 : decode cX3_markForbidden 0 = .ok (.iconst 1, 1) := by decide +kernel
theorem dX3_markForbidden_1 : decode cX3_markForbidden 1 = .ok (.istore 4, 2) := by decide +kernel
theorem dX3_markForbidden_3 : decode cX3_markForbidden 3 = .ok (.iload 4, 2) := by decide +kernel
theorem dX3_markForbidden_5 : decode cX3_markForbidden 5 = .ok (.iload_n 3, 1) := by decide +kernel
theorem dX3_markForbidden_6 : decode cX3_markForbidden 6 = .ok (.if_icmp .gt 25, 3) := by decide +kernel
theorem dX3_markForbidden_9 : decode cX3_markForbidden 9 = .ok (.iload 4, 2) := by decide +kernel
theorem dX3_markForbidden_11 : decode cX3_markForbidden 11 = .ok (.sipush 1023, 3) := by decide +kernel
theorem dX3_markForbidden_14 : decode cX3_markForbidden 14 = .ok (.if_icmp .gt 17, 3) := by decide +kernel
theorem dX3_markForbidden_17 : decode cX3_markForbidden 17 = .ok (.aload_n 0, 1) := by decide +kernel
theorem dX3_markForbidden_18 : decode cX3_markForbidden 18 = .ok (.getfield 9, 3) := by decide +kernel
theorem dX3_markForbidden_21 : decode cX3_markForbidden 21 = .ok (.iload 4, 2) := by decide +kernel
theorem dX3_markForbidden_23 : decode cX3_markForbidden 23 = .ok (.iconst 1, 1) := by decide +kernel
theorem dX3_markForbidden_24 : decode cX3_markForbidden 24 = .ok (.bastore, 1) := by decide +kernel
theorem dX3_markForbidden_25 : decode cX3_markForbidden 25 = .ok (.iinc 4 1, 3) := by decide +kernel
theorem dX3_markForbidden_28 : decode cX3_markForbidden 28 = .ok (.goto (-25), 3) := by decide +kernel
theorem dX3_markForbidden_31 : decode cX3_markForbidden 31 = .ok (.iconst 0, 1) := by decide +kernel
theorem dX3_markForbidden_32 : decode cX3_markForbidden 32 = .ok (.istore 4, 2) := by decide +kernel
theorem dX3_markForbidden_34 : decode cX3_markForbidden 34 = .ok (.iload 4, 2) := by decide +kernel
theorem dX3_markForbidden_36 : decode cX3_markForbidden 36 = .ok (.aload_n 1, 1) := by decide +kernel
theorem dX3_markForbidden_37 : decode cX3_markForbidden 37 = .ok (.getfield 69, 3) := by decide +kernel
theorem dX3_markForbidden_40 : decode cX3_markForbidden 40 = .ok (.if_icmp .ge 66, 3) := by decide +kernel
theorem dX3_markForbidden_43 : decode cX3_markForbidden 43 = .ok (.aload_n 1, 1) := by decide +kernel
theorem dX3_markForbidden_44 : decode cX3_markForbidden 44 = .ok (.iload 4, 2) := by decide +kernel
theorem dX3_markForbidden_46 : decode cX3_markForbidden 46 = .ok (.invokevirtual 72, 3) := by decide +kernel
theorem dX3_markForbidden_49 : decode cX3_markForbidden 49 = .ok (.istore 5, 2) := by decide +kernel
theorem dX3_markForbidden_51 : decode cX3_markForbidden 51 = .ok (.aload_n 1, 1) := by decide +kernel
theorem dX3_markForbidden_52 : decode cX3_markForbidden 52 = .ok (.iload 4, 2) := by decide +kernel
theorem dX3_markForbidden_54 : decode cX3_markForbidden 54 = .ok (.invokevirtual 75, 3) := by decide +kernel
theorem dX3_markForbidden_57 : decode cX3_markForbidden 57 = .ok (.istore 6, 2) := by decide +kernel
theorem dX3_markForbidden_59 : decode cX3_markForbidden 59 = .ok (.aload_n 2, 1) := by decide +kernel
theorem dX3_markForbidden_60 : decode cX3_markForbidden 60 = .ok (.iload 5, 2) := by decide +kernel
theorem dX3_markForbidden_62 : decode cX3_markForbidden 62 = .ok (.iload 6, 2) := by decide +kernel
theorem dX3_markForbidden_64 : decode cX3_markForbidden 64 = .ok (.sipush 1023, 3) := by decide +kernel
theorem dX3_markForbidden_67 : decode cX3_markForbidden 67 = .ok (.invokevirtual 78, 3) := by decide +kernel
theorem dX3_markForbidden_70 : decode cX3_markForbidden 70 = .ok (.ifCond .ne 30, 3) := by decide +kernel
theorem dX3_markForbidden_73 : decode cX3_markForbidden 73 = .ok (.iload 5, 2) := by decide +kernel
theorem dX3_markForbidden_75 : decode cX3_markForbidden 75 = .ok (.istore 7, 2) := by decide +kernel
theorem dX3_markForbidden_77 : decode cX3_markForbidden 77 = .ok (.iload 7, 2) := by decide +kernel
theorem dX3_markForbidden_79 : decode cX3_markForbidden 79 = .ok (.iload 6, 2) := by decide +kernel
theorem dX3_markForbidden_81 : decode cX3_markForbidden 81 = .ok (.if_icmp .gt 19, 3) := by decide +kernel
theorem dX3_markForbidden_84 : decode cX3_markForbidden 84 = .ok (.aload_n 0, 1) := by decide +kernel
theorem dX3_markForbidden_85 : decode cX3_markForbidden 85 = .ok (.aload_n 2, 1) := by decide +kernel
theorem dX3_markForbidden_86 : decode cX3_markForbidden 86 = .ok (.iload 7, 2) := by decide +kernel
theorem dX3_markForbidden_88 : decode cX3_markForbidden 88 = .ok (.invokevirtual 82, 3) := by decide +kernel
theorem dX3_markForbidden_91 : decode cX3_markForbidden 91 = .ok (.invokevirtual 85, 3) := by decide +kernel
theorem dX3_markForbidden_94 : decode cX3_markForbidden 94 = .ok (.iinc 7 1, 3) := by decide +kernel
theorem dX3_markForbidden_97 : decode cX3_markForbidden 97 = .ok (.goto (-20), 3) := by decide +kernel
theorem dX3_markForbidden_100 : decode cX3_markForbidden 100 = .ok (.iinc 4 1, 3) := by decide +kernel
theorem dX3_markForbidden_103 : decode cX3_markForbidden 103 = .ok (.goto (-69), 3) := by decide +kernel
theorem dX3_markForbidden_106 : decode cX3_markForbidden 106 = .ok (.return_, 1) := by decide +kernel
theorem dX3_forbid_0 : decode cX3_forbid 0 = .ok (.iload_n 1, 1) := by decide +kernel
theorem dX3_forbid_1 : decode cX3_forbid 1 = .ok (.ifCond .le 17, 3) := by decide +kernel
theorem dX3_forbid_4 : decode cX3_forbid 4 = .ok (.iload_n 1, 1) := by decide +kernel
theorem dX3_forbid_5 : decode cX3_forbid 5 = .ok (.sipush 1023, 3) := by decide +kernel
theorem dX3_forbid_8 : decode cX3_forbid 8 = .ok (.if_icmp .gt 10, 3) := by decide +kernel
theorem dX3_forbid_11 : decode cX3_forbid 11 = .ok (.aload_n 0, 1) := by decide +kernel
theorem dX3_forbid_12 : decode cX3_forbid 12 = .ok (.getfield 9, 3) := by decide +kernel
theorem dX3_forbid_15 : decode cX3_forbid 15 = .ok (.iload_n 1, 1) := by decide +kernel
theorem dX3_forbid_16 : decode cX3_forbid 16 = .ok (.iconst 2, 1) := by decide +kernel
theorem dX3_forbid_17 : decode cX3_forbid 17 = .ok (.bastore, 1) := by decide +kernel
theorem dX3_forbid_18 : decode cX3_forbid 18 = .ok (.return_, 1) := by decide +kernel
theorem dX3_daysFor_0 : decode cX3_daysFor 0 = .ok (.iload_n 1, 1) := by decide +kernel
theorem dX3_daysFor_1 : decode cX3_daysFor 1 = .ok (.ifCond .lt 19, 3) := by decide +kernel
theorem dX3_daysFor_4 : decode cX3_daysFor 4 = .ok (.iload_n 1, 1) := by decide +kernel
theorem dX3_daysFor_5 : decode cX3_daysFor 5 = .ok (.sipush 1023, 3) := by decide +kernel
theorem dX3_daysFor_8 : decode cX3_daysFor 8 = .ok (.if_icmp .gt 12, 3) := by decide +kernel
theorem dX3_daysFor_11 : decode cX3_daysFor 11 = .ok (.aload_n 0, 1) := by decide +kernel
theorem dX3_daysFor_12 : decode cX3_daysFor 12 = .ok (.getfield 9, 3) := by decide +kernel
theorem dX3_daysFor_15 : decode cX3_daysFor 15 = .ok (.iload_n 1, 1) := by decide +kernel
theorem dX3_daysFor_16 : decode cX3_daysFor 16 = .ok (.baload, 1) := by decide +kernel
theorem dX3_daysFor_17 : decode cX3_daysFor 17 = .ok (.goto 4, 3) := by decide +kernel
theorem dX3_daysFor_20 : decode cX3_daysFor 20 = .ok (.iconst 0, 1) := by decide +kernel
theorem dX3_daysFor_21 : decode cX3_daysFor 21 = .ok (.ireturn, 1) := by decide +kernel
theorem dX3_holdsForbidden_0 : decode cX3_holdsForbidden 0 = .ok (.iconst 0, 1) := by decide +kernel
theorem dX3_holdsForbidden_1 : decode cX3_holdsForbidden 1 = .ok (.istore_n 2, 1) := by decide +kernel
theorem dX3_holdsForbidden_2 : decode cX3_holdsForbidden 2 = .ok (.iload_n 2, 1) := by decide +kernel
theorem dX3_holdsForbidden_3 : decode cX3_holdsForbidden 3 = .ok (.bipush 10, 2) := by decide +kernel
theorem dX3_holdsForbidden_5 : decode cX3_holdsForbidden 5 = .ok (.if_icmp .ge 33, 3) := by decide +kernel
theorem dX3_holdsForbidden_8 : decode cX3_holdsForbidden 8 = .ok (.iload_n 1, 1) := by decide +kernel
theorem dX3_holdsForbidden_9 : decode cX3_holdsForbidden 9 = .ok (.iload_n 2, 1) := by decide +kernel
theorem dX3_holdsForbidden_10 : decode cX3_holdsForbidden 10 = .ok (.ishr, 1) := by decide +kernel
theorem dX3_holdsForbidden_11 : decode cX3_holdsForbidden 11 = .ok (.iconst 1, 1) := by decide +kernel
theorem dX3_holdsForbidden_12 : decode cX3_holdsForbidden 12 = .ok (.iand, 1) := by decide +kernel
theorem dX3_holdsForbidden_13 : decode cX3_holdsForbidden 13 = .ok (.iconst 1, 1) := by decide +kernel
theorem dX3_holdsForbidden_14 : decode cX3_holdsForbidden 14 = .ok (.if_icmp .ne 18, 3) := by decide +kernel
theorem dX3_holdsForbidden_17 : decode cX3_holdsForbidden 17 = .ok (.aload_n 0, 1) := by decide +kernel
theorem dX3_holdsForbidden_18 : decode cX3_holdsForbidden 18 = .ok (.iload_n 1, 1) := by decide +kernel
theorem dX3_holdsForbidden_19 : decode cX3_holdsForbidden 19 = .ok (.iconst 1, 1) := by decide +kernel
theorem dX3_holdsForbidden_20 : decode cX3_holdsForbidden 20 = .ok (.iload_n 2, 1) := by decide +kernel
theorem dX3_holdsForbidden_21 : decode cX3_holdsForbidden 21 = .ok (.ishl, 1) := by decide +kernel
theorem dX3_holdsForbidden_22 : decode cX3_holdsForbidden 22 = .ok (.ixor, 1) := by decide +kernel
theorem dX3_holdsForbidden_23 : decode cX3_holdsForbidden 23 = .ok (.invokevirtual 59, 3) := by decide +kernel
theorem dX3_holdsForbidden_26 : decode cX3_holdsForbidden 26 = .ok (.iconst 1, 1) := by decide +kernel
theorem dX3_holdsForbidden_27 : decode cX3_holdsForbidden 27 = .ok (.if_icmp .le 5, 3) := by decide +kernel
theorem dX3_holdsForbidden_30 : decode cX3_holdsForbidden 30 = .ok (.iconst 1, 1) := by decide +kernel
theorem dX3_holdsForbidden_31 : decode cX3_holdsForbidden 31 = .ok (.ireturn, 1) := by decide +kernel
theorem dX3_holdsForbidden_32 : decode cX3_holdsForbidden 32 = .ok (.iinc 2 1, 3) := by decide +kernel
theorem dX3_holdsForbidden_35 : decode cX3_holdsForbidden 35 = .ok (.goto (-33), 3) := by decide +kernel
theorem dX3_holdsForbidden_38 : decode cX3_holdsForbidden 38 = .ok (.iconst 0, 1) := by decide +kernel
theorem dX3_holdsForbidden_39 : decode cX3_holdsForbidden 39 = .ok (.ireturn, 1) := by decide +kernel
theorem dX3_fewestApart_0 : decode cX3_fewestApart 0 = .ok (.iload_n 1, 1) := by decide +kernel
theorem dX3_fewestApart_1 : decode cX3_fewestApart 1 = .ok (.iload_n 1, 1) := by decide +kernel
theorem dX3_fewestApart_2 : decode cX3_fewestApart 2 = .ok (.ineg, 1) := by decide +kernel
theorem dX3_fewestApart_3 : decode cX3_fewestApart 3 = .ok (.iand, 1) := by decide +kernel
theorem dX3_fewestApart_4 : decode cX3_fewestApart 4 = .ok (.istore_n 2, 1) := by decide +kernel
theorem dX3_fewestApart_5 : decode cX3_fewestApart 5 = .ok (.iload_n 1, 1) := by decide +kernel
theorem dX3_fewestApart_6 : decode cX3_fewestApart 6 = .ok (.iload_n 2, 1) := by decide +kernel
theorem dX3_fewestApart_7 : decode cX3_fewestApart 7 = .ok (.ixor, 1) := by decide +kernel
theorem dX3_fewestApart_8 : decode cX3_fewestApart 8 = .ok (.istore_n 3, 1) := by decide +kernel
theorem dX3_fewestApart_9 : decode cX3_fewestApart 9 = .ok (.iconst 1, 1) := by decide +kernel
theorem dX3_fewestApart_10 : decode cX3_fewestApart 10 = .ok (.aload_n 0, 1) := by decide +kernel
theorem dX3_fewestApart_11 : decode cX3_fewestApart 11 = .ok (.iload_n 3, 1) := by decide +kernel
theorem dX3_fewestApart_12 : decode cX3_fewestApart 12 = .ok (.invokevirtual 59, 3) := by decide +kernel
theorem dX3_fewestApart_15 : decode cX3_fewestApart 15 = .ok (.iadd, 1) := by decide +kernel
theorem dX3_fewestApart_16 : decode cX3_fewestApart 16 = .ok (.istore 4, 2) := by decide +kernel
theorem dX3_fewestApart_18 : decode cX3_fewestApart 18 = .ok (.iload_n 3, 1) := by decide +kernel
theorem dX3_fewestApart_19 : decode cX3_fewestApart 19 = .ok (.iconst 1, 1) := by decide +kernel
theorem dX3_fewestApart_20 : decode cX3_fewestApart 20 = .ok (.isub, 1) := by decide +kernel
theorem dX3_fewestApart_21 : decode cX3_fewestApart 21 = .ok (.iload_n 3, 1) := by decide +kernel
theorem dX3_fewestApart_22 : decode cX3_fewestApart 22 = .ok (.iand, 1) := by decide +kernel
theorem dX3_fewestApart_23 : decode cX3_fewestApart 23 = .ok (.istore 5, 2) := by decide +kernel
theorem dX3_fewestApart_25 : decode cX3_fewestApart 25 = .ok (.iload 5, 2) := by decide +kernel
theorem dX3_fewestApart_27 : decode cX3_fewestApart 27 = .ok (.ifCond .le 49, 3) := by decide +kernel
theorem dX3_fewestApart_30 : decode cX3_fewestApart 30 = .ok (.iload 4, 2) := by decide +kernel
theorem dX3_fewestApart_32 : decode cX3_fewestApart 32 = .ok (.iconst 2, 1) := by decide +kernel
theorem dX3_fewestApart_33 : decode cX3_fewestApart 33 = .ok (.if_icmp .le 43, 3) := by decide +kernel
theorem dX3_fewestApart_36 : decode cX3_fewestApart 36 = .ok (.aload_n 0, 1) := by decide +kernel
theorem dX3_fewestApart_37 : decode cX3_fewestApart 37 = .ok (.iload_n 2, 1) := by decide +kernel
theorem dX3_fewestApart_38 : decode cX3_fewestApart 38 = .ok (.iload 5, 2) := by decide +kernel
theorem dX3_fewestApart_40 : decode cX3_fewestApart 40 = .ok (.ior, 1) := by decide +kernel
theorem dX3_fewestApart_41 : decode cX3_fewestApart 41 = .ok (.invokevirtual 59, 3) := by decide +kernel
theorem dX3_fewestApart_44 : decode cX3_fewestApart 44 = .ok (.iconst 1, 1) := by decide +kernel
theorem dX3_fewestApart_45 : decode cX3_fewestApart 45 = .ok (.if_icmp .ne 20, 3) := by decide +kernel
theorem dX3_fewestApart_48 : decode cX3_fewestApart 48 = .ok (.iload 4, 2) := by decide +kernel
theorem dX3_fewestApart_50 : decode cX3_fewestApart 50 = .ok (.iconst 1, 1) := by decide +kernel
theorem dX3_fewestApart_51 : decode cX3_fewestApart 51 = .ok (.aload_n 0, 1) := by decide +kernel
theorem dX3_fewestApart_52 : decode cX3_fewestApart 52 = .ok (.iload_n 3, 1) := by decide +kernel
theorem dX3_fewestApart_53 : decode cX3_fewestApart 53 = .ok (.iload 5, 2) := by decide +kernel
theorem dX3_fewestApart_55 : decode cX3_fewestApart 55 = .ok (.ixor, 1) := by decide +kernel
theorem dX3_fewestApart_56 : decode cX3_fewestApart 56 = .ok (.invokevirtual 59, 3) := by decide +kernel
theorem dX3_fewestApart_59 : decode cX3_fewestApart 59 = .ok (.iadd, 1) := by decide +kernel
theorem dX3_fewestApart_60 : decode cX3_fewestApart 60 = .ok (.invokestatic 43, 3) := by decide +kernel
theorem dX3_fewestApart_63 : decode cX3_fewestApart 63 = .ok (.istore 4, 2) := by decide +kernel
theorem dX3_fewestApart_65 : decode cX3_fewestApart 65 = .ok (.iload 5, 2) := by decide +kernel
theorem dX3_fewestApart_67 : decode cX3_fewestApart 67 = .ok (.iconst 1, 1) := by decide +kernel
theorem dX3_fewestApart_68 : decode cX3_fewestApart 68 = .ok (.isub, 1) := by decide +kernel
theorem dX3_fewestApart_69 : decode cX3_fewestApart 69 = .ok (.iload_n 3, 1) := by decide +kernel
theorem dX3_fewestApart_70 : decode cX3_fewestApart 70 = .ok (.iand, 1) := by decide +kernel
theorem dX3_fewestApart_71 : decode cX3_fewestApart 71 = .ok (.istore 5, 2) := by decide +kernel
theorem dX3_fewestApart_73 : decode cX3_fewestApart 73 = .ok (.goto (-48), 3) := by decide +kernel
theorem dX3_fewestApart_76 : decode cX3_fewestApart 76 = .ok (.iload 4, 2) := by decide +kernel
theorem dX3_fewestApart_78 : decode cX3_fewestApart 78 = .ok (.ireturn, 1) := by decide +kernel
theorem dX3_firstSet_0 : decode cX3_firstSet 0 = .ok (.iload_n 1, 1) := by decide +kernel
theorem dX3_firstSet_1 : decode cX3_firstSet 1 = .ok (.iload_n 1, 1) := by decide +kernel
theorem dX3_firstSet_2 : decode cX3_firstSet 2 = .ok (.ineg, 1) := by decide +kernel
theorem dX3_firstSet_3 : decode cX3_firstSet 3 = .ok (.iand, 1) := by decide +kernel
theorem dX3_firstSet_4 : decode cX3_firstSet 4 = .ok (.istore_n 2, 1) := by decide +kernel
theorem dX3_firstSet_5 : decode cX3_firstSet 5 = .ok (.iload_n 1, 1) := by decide +kernel
theorem dX3_firstSet_6 : decode cX3_firstSet 6 = .ok (.iload_n 2, 1) := by decide +kernel
theorem dX3_firstSet_7 : decode cX3_firstSet 7 = .ok (.ixor, 1) := by decide +kernel
theorem dX3_firstSet_8 : decode cX3_firstSet 8 = .ok (.istore_n 3, 1) := by decide +kernel
theorem dX3_firstSet_9 : decode cX3_firstSet 9 = .ok (.iload_n 1, 1) := by decide +kernel
theorem dX3_firstSet_10 : decode cX3_firstSet 10 = .ok (.istore 4, 2) := by decide +kernel
theorem dX3_firstSet_12 : decode cX3_firstSet 12 = .ok (.iload_n 3, 1) := by decide +kernel
theorem dX3_firstSet_13 : decode cX3_firstSet 13 = .ok (.istore 5, 2) := by decide +kernel
theorem dX3_firstSet_15 : decode cX3_firstSet 15 = .ok (.iload 5, 2) := by decide +kernel
theorem dX3_firstSet_17 : decode cX3_firstSet 17 = .ok (.ifCond .le 32, 3) := by decide +kernel
theorem dX3_firstSet_20 : decode cX3_firstSet 20 = .ok (.aload_n 0, 1) := by decide +kernel
theorem dX3_firstSet_21 : decode cX3_firstSet 21 = .ok (.iload_n 2, 1) := by decide +kernel
theorem dX3_firstSet_22 : decode cX3_firstSet 22 = .ok (.iload 5, 2) := by decide +kernel
theorem dX3_firstSet_24 : decode cX3_firstSet 24 = .ok (.ior, 1) := by decide +kernel
theorem dX3_firstSet_25 : decode cX3_firstSet 25 = .ok (.iload_n 1, 1) := by decide +kernel
theorem dX3_firstSet_26 : decode cX3_firstSet 26 = .ok (.invokevirtual 89, 3) := by decide +kernel
theorem dX3_firstSet_29 : decode cX3_firstSet 29 = .ok (.ifCond .eq 9, 3) := by decide +kernel
theorem dX3_firstSet_32 : decode cX3_firstSet 32 = .ok (.iload_n 2, 1) := by decide +kernel
theorem dX3_firstSet_33 : decode cX3_firstSet 33 = .ok (.iload 5, 2) := by decide +kernel
theorem dX3_firstSet_35 : decode cX3_firstSet 35 = .ok (.ior, 1) := by decide +kernel
theorem dX3_firstSet_36 : decode cX3_firstSet 36 = .ok (.istore 4, 2) := by decide +kernel
theorem dX3_firstSet_38 : decode cX3_firstSet 38 = .ok (.iload 5, 2) := by decide +kernel
theorem dX3_firstSet_40 : decode cX3_firstSet 40 = .ok (.iconst 1, 1) := by decide +kernel
theorem dX3_firstSet_41 : decode cX3_firstSet 41 = .ok (.isub, 1) := by decide +kernel
theorem dX3_firstSet_42 : decode cX3_firstSet 42 = .ok (.iload_n 3, 1) := by decide +kernel
theorem dX3_firstSet_43 : decode cX3_firstSet 43 = .ok (.iand, 1) := by decide +kernel
theorem dX3_firstSet_44 : decode cX3_firstSet 44 = .ok (.istore 5, 2) := by decide +kernel
theorem dX3_firstSet_46 : decode cX3_firstSet 46 = .ok (.goto (-31), 3) := by decide +kernel
theorem dX3_firstSet_49 : decode cX3_firstSet 49 = .ok (.aload_n 0, 1) := by decide +kernel
theorem dX3_firstSet_50 : decode cX3_firstSet 50 = .ok (.iload_n 2, 1) := by decide +kernel
theorem dX3_firstSet_51 : decode cX3_firstSet 51 = .ok (.iload_n 1, 1) := by decide +kernel
theorem dX3_firstSet_52 : decode cX3_firstSet 52 = .ok (.invokevirtual 89, 3) := by decide +kernel
theorem dX3_firstSet_55 : decode cX3_firstSet 55 = .ok (.ifCond .eq 7, 3) := by decide +kernel
theorem dX3_firstSet_58 : decode cX3_firstSet 58 = .ok (.iload_n 2, 1) := by decide +kernel
theorem dX3_firstSet_59 : decode cX3_firstSet 59 = .ok (.goto 5, 3) := by decide +kernel
theorem dX3_firstSet_62 : decode cX3_firstSet 62 = .ok (.iload 4, 2) := by decide +kernel
theorem dX3_firstSet_64 : decode cX3_firstSet 64 = .ok (.ireturn, 1) := by decide +kernel
theorem dX3_begins_0 : decode cX3_begins 0 = .ok (.aload_n 0, 1) := by decide +kernel
theorem dX3_begins_1 : decode cX3_begins 1 = .ok (.iload_n 1, 1) := by decide +kernel
theorem dX3_begins_2 : decode cX3_begins 2 = .ok (.invokevirtual 59, 3) := by decide +kernel
theorem dX3_begins_5 : decode cX3_begins 5 = .ok (.iconst 1, 1) := by decide +kernel
theorem dX3_begins_6 : decode cX3_begins 6 = .ok (.if_icmp .ne 24, 3) := by decide +kernel
theorem dX3_begins_9 : decode cX3_begins 9 = .ok (.aload_n 0, 1) := by decide +kernel
theorem dX3_begins_10 : decode cX3_begins 10 = .ok (.iload_n 2, 1) := by decide +kernel
theorem dX3_begins_11 : decode cX3_begins 11 = .ok (.iload_n 1, 1) := by decide +kernel
theorem dX3_begins_12 : decode cX3_begins 12 = .ok (.ixor, 1) := by decide +kernel
theorem dX3_begins_13 : decode cX3_begins 13 = .ok (.invokevirtual 59, 3) := by decide +kernel
theorem dX3_begins_16 : decode cX3_begins 16 = .ok (.aload_n 0, 1) := by decide +kernel
theorem dX3_begins_17 : decode cX3_begins 17 = .ok (.iload_n 2, 1) := by decide +kernel
theorem dX3_begins_18 : decode cX3_begins 18 = .ok (.invokevirtual 59, 3) := by decide +kernel
theorem dX3_begins_21 : decode cX3_begins 21 = .ok (.iconst 1, 1) := by decide +kernel
theorem dX3_begins_22 : decode cX3_begins 22 = .ok (.isub, 1) := by decide +kernel
theorem dX3_begins_23 : decode cX3_begins 23 = .ok (.if_icmp .ne 7, 3) := by decide +kernel
theorem dX3_begins_26 : decode cX3_begins 26 = .ok (.iconst 1, 1) := by decide +kernel
theorem dX3_begins_27 : decode cX3_begins 27 = .ok (.goto 4, 3) := by decide +kernel
theorem dX3_begins_30 : decode cX3_begins 30 = .ok (.iconst 0, 1) := by decide +kernel
theorem dX3_begins_31 : decode cX3_begins 31 = .ok (.ireturn, 1) := by decide +kernel
theorem dX4_init_0 : decode cX4_init 0 = .ok (.aload_n 0, 1) := by decide +kernel
theorem dX4_init_1 : decode cX4_init 1 = .ok (.invokespecial 3, 3) := by decide +kernel
theorem dX4_init_4 : decode cX4_init 4 = .ok (.aload_n 0, 1) := by decide +kernel
theorem dX4_init_5 : decode cX4_init 5 = .ok (.sipush 201, 3) := by decide +kernel
theorem dX4_init_8 : decode cX4_init 8 = .ok (.newarray .int, 2) := by decide +kernel
theorem dX4_init_10 : decode cX4_init 10 = .ok (.putfield 9, 3) := by decide +kernel
theorem dX4_init_13 : decode cX4_init 13 = .ok (.aload_n 0, 1) := by decide +kernel
theorem dX4_init_14 : decode cX4_init 14 = .ok (.sipush 201, 3) := by decide +kernel
theorem dX4_init_17 : decode cX4_init 17 = .ok (.newarray .int, 2) := by decide +kernel
theorem dX4_init_19 : decode cX4_init 19 = .ok (.putfield 15, 3) := by decide +kernel
theorem dX4_init_22 : decode cX4_init 22 = .ok (.return_, 1) := by decide +kernel
theorem dX4_look_0 : decode cX4_look 0 = .ok (.iconst 0, 1) := by decide +kernel
theorem dX4_look_1 : decode cX4_look 1 = .ok (.istore_n 2, 1) := by decide +kernel
theorem dX4_look_2 : decode cX4_look 2 = .ok (.iload_n 2, 1) := by decide +kernel
theorem dX4_look_3 : decode cX4_look 3 = .ok (.sipush 200, 3) := by decide +kernel
theorem dX4_look_6 : decode cX4_look 6 = .ok (.if_icmp .gt 16, 3) := by decide +kernel
theorem dX4_look_9 : decode cX4_look 9 = .ok (.aload_n 0, 1) := by decide +kernel
theorem dX4_look_10 : decode cX4_look 10 = .ok (.getfield 9, 3) := by decide +kernel
theorem dX4_look_13 : decode cX4_look 13 = .ok (.iload_n 2, 1) := by decide +kernel
theorem dX4_look_14 : decode cX4_look 14 = .ok (.iconst 0, 1) := by decide +kernel
theorem dX4_look_15 : decode cX4_look 15 = .ok (.iastore, 1) := by decide +kernel
theorem dX4_look_16 : decode cX4_look 16 = .ok (.iinc 2 1, 3) := by decide +kernel
theorem dX4_look_19 : decode cX4_look 19 = .ok (.goto (-17), 3) := by decide +kernel
theorem dX4_look_22 : decode cX4_look 22 = .ok (.iconst 0, 1) := by decide +kernel
theorem dX4_look_23 : decode cX4_look 23 = .ok (.istore_n 2, 1) := by decide +kernel
theorem dX4_look_24 : decode cX4_look 24 = .ok (.iload_n 2, 1) := by decide +kernel
theorem dX4_look_25 : decode cX4_look 25 = .ok (.aload_n 1, 1) := by decide +kernel
theorem dX4_look_26 : decode cX4_look 26 = .ok (.getfield 18, 3) := by decide +kernel
theorem dX4_look_29 : decode cX4_look 29 = .ok (.if_icmp .ge 92, 3) := by decide +kernel
theorem dX4_look_32 : decode cX4_look 32 = .ok (.aload_n 1, 1) := by decide +kernel
theorem dX4_look_33 : decode cX4_look 33 = .ok (.iload_n 2, 1) := by decide +kernel
theorem dX4_look_34 : decode cX4_look 34 = .ok (.invokevirtual 24, 3) := by decide +kernel
theorem dX4_look_37 : decode cX4_look 37 = .ok (.astore_n 3, 1) := by decide +kernel
theorem dX4_look_38 : decode cX4_look 38 = .ok (.aload_n 3, 1) := by decide +kernel
theorem dX4_look_39 : decode cX4_look 39 = .ok (.ifnull 76, 3) := by decide +kernel
theorem dX4_look_42 : decode cX4_look 42 = .ok (.aload_n 3, 1) := by decide +kernel
theorem dX4_look_43 : decode cX4_look 43 = .ok (.invokevirtual 28, 3) := by decide +kernel
theorem dX4_look_46 : decode cX4_look 46 = .ok (.aload_n 1, 1) := by decide +kernel
theorem dX4_look_47 : decode cX4_look 47 = .ok (.getfield 34, 3) := by decide +kernel
theorem dX4_look_50 : decode cX4_look 50 = .ok (.if_icmp .lt 65, 3) := by decide +kernel
theorem dX4_look_53 : decode cX4_look 53 = .ok (.iconst 0, 1) := by decide +kernel
theorem dX4_look_54 : decode cX4_look 54 = .ok (.aload_n 3, 1) := by decide +kernel
theorem dX4_look_55 : decode cX4_look 55 = .ok (.getfield 37, 3) := by decide +kernel
theorem dX4_look_58 : decode cX4_look 58 = .ok (.aload_n 3, 1) := by decide +kernel
theorem dX4_look_59 : decode cX4_look 59 = .ok (.invokevirtual 40, 3) := by decide +kernel
theorem dX4_look_62 : decode cX4_look 62 = .ok (.isub, 1) := by decide +kernel
theorem dX4_look_63 : decode cX4_look 63 = .ok (.invokestatic 43, 3) := by decide +kernel
theorem dX4_look_66 : decode cX4_look 66 = .ok (.istore 4, 2) := by decide +kernel
theorem dX4_look_68 : decode cX4_look 68 = .ok (.sipush 200, 3) := by decide +kernel
theorem dX4_look_71 : decode cX4_look 71 = .ok (.aload_n 3, 1) := by decide +kernel
theorem dX4_look_72 : decode cX4_look 72 = .ok (.getfield 37, 3) := by decide +kernel
theorem dX4_look_75 : decode cX4_look 75 = .ok (.aload_n 3, 1) := by decide +kernel
theorem dX4_look_76 : decode cX4_look 76 = .ok (.invokevirtual 40, 3) := by decide +kernel
theorem dX4_look_79 : decode cX4_look 79 = .ok (.iadd, 1) := by decide +kernel
theorem dX4_look_80 : decode cX4_look 80 = .ok (.invokestatic 49, 3) := by decide +kernel
theorem dX4_look_83 : decode cX4_look 83 = .ok (.istore 5, 2) := by decide +kernel
theorem dX4_look_85 : decode cX4_look 85 = .ok (.iload 4, 2) := by decide +kernel
theorem dX4_look_87 : decode cX4_look 87 = .ok (.istore 6, 2) := by decide +kernel
theorem dX4_look_89 : decode cX4_look 89 = .ok (.iload 6, 2) := by decide +kernel
theorem dX4_look_91 : decode cX4_look 91 = .ok (.iload 5, 2) := by decide +kernel
theorem dX4_look_93 : decode cX4_look 93 = .ok (.if_icmp .gt 22, 3) := by decide +kernel
theorem dX4_look_96 : decode cX4_look 96 = .ok (.aload_n 0, 1) := by decide +kernel
theorem dX4_look_97 : decode cX4_look 97 = .ok (.getfield 9, 3) := by decide +kernel
theorem dX4_look_100 : decode cX4_look 100 = .ok (.iload 6, 2) := by decide +kernel
theorem dX4_look_102 : decode cX4_look 102 = .ok (.dup2, 1) := by decide +kernel
theorem dX4_look_103 : decode cX4_look 103 = .ok (.iaload, 1) := by decide +kernel
theorem dX4_look_104 : decode cX4_look 104 = .ok (.iconst 1, 1) := by decide +kernel
theorem dX4_look_105 : decode cX4_look 105 = .ok (.iload_n 2, 1) := by decide +kernel
theorem dX4_look_106 : decode cX4_look 106 = .ok (.ishl, 1) := by decide +kernel
theorem dX4_look_107 : decode cX4_look 107 = .ok (.ior, 1) := by decide +kernel
theorem dX4_look_108 : decode cX4_look 108 = .ok (.iastore, 1) := by decide +kernel
theorem dX4_look_109 : decode cX4_look 109 = .ok (.iinc 6 1, 3) := by decide +kernel
theorem dX4_look_112 : decode cX4_look 112 = .ok (.goto (-23), 3) := by decide +kernel
theorem dX4_look_115 : decode cX4_look 115 = .ok (.iinc 2 1, 3) := by decide +kernel
theorem dX4_look_118 : decode cX4_look 118 = .ok (.goto (-94), 3) := by decide +kernel
theorem dX4_look_121 : decode cX4_look 121 = .ok (.return_, 1) := by decide +kernel
theorem dX4_nearTo_0 : decode cX4_nearTo 0 = .ok (.iload_n 1, 1) := by decide +kernel
theorem dX4_nearTo_1 : decode cX4_nearTo 1 = .ok (.ifCond .lt 19, 3) := by decide +kernel
theorem dX4_nearTo_4 : decode cX4_nearTo 4 = .ok (.iload_n 1, 1) := by decide +kernel
theorem dX4_nearTo_5 : decode cX4_nearTo 5 = .ok (.sipush 200, 3) := by decide +kernel
theorem dX4_nearTo_8 : decode cX4_nearTo 8 = .ok (.if_icmp .gt 12, 3) := by decide +kernel
theorem dX4_nearTo_11 : decode cX4_nearTo 11 = .ok (.aload_n 0, 1) := by decide +kernel
theorem dX4_nearTo_12 : decode cX4_nearTo 12 = .ok (.getfield 9, 3) := by decide +kernel
theorem dX4_nearTo_15 : decode cX4_nearTo 15 = .ok (.iload_n 1, 1) := by decide +kernel
theorem dX4_nearTo_16 : decode cX4_nearTo 16 = .ok (.iaload, 1) := by decide +kernel
theorem dX4_nearTo_17 : decode cX4_nearTo 17 = .ok (.goto 4, 3) := by decide +kernel
theorem dX4_nearTo_20 : decode cX4_nearTo 20 = .ok (.iconst 0, 1) := by decide +kernel
theorem dX4_nearTo_21 : decode cX4_nearTo 21 = .ok (.ireturn, 1) := by decide +kernel
theorem dX4_dark_0 : decode cX4_dark 0 = .ok (.iconst 0, 1) := by decide +kernel
theorem dX4_dark_1 : decode cX4_dark 1 = .ok (.istore 4, 2) := by decide +kernel
theorem dX4_dark_3 : decode cX4_dark 3 = .ok (.iload_n 1, 1) := by decide +kernel
theorem dX4_dark_4 : decode cX4_dark 4 = .ok (.istore 5, 2) := by decide +kernel
theorem dX4_dark_6 : decode cX4_dark 6 = .ok (.iload 5, 2) := by decide +kernel
theorem dX4_dark_8 : decode cX4_dark 8 = .ok (.iload_n 2, 1) := by decide +kernel
theorem dX4_dark_9 : decode cX4_dark 9 = .ok (.if_icmp .gt 23, 3) := by decide +kernel
theorem dX4_dark_12 : decode cX4_dark 12 = .ok (.aload_n 0, 1) := by decide +kernel
theorem dX4_dark_13 : decode cX4_dark 13 = .ok (.iload 5, 2) := by decide +kernel
theorem dX4_dark_15 : decode cX4_dark 15 = .ok (.invokevirtual 52, 3) := by decide +kernel
theorem dX4_dark_18 : decode cX4_dark 18 = .ok (.iload_n 3, 1) := by decide +kernel
theorem dX4_dark_19 : decode cX4_dark 19 = .ok (.iand, 1) := by decide +kernel
theorem dX4_dark_20 : decode cX4_dark 20 = .ok (.ifCond .ne 6, 3) := by decide +kernel
theorem dX4_dark_23 : decode cX4_dark 23 = .ok (.iinc 4 1, 3) := by decide +kernel
theorem dX4_dark_26 : decode cX4_dark 26 = .ok (.iinc 5 1, 3) := by decide +kernel
theorem dX4_dark_29 : decode cX4_dark 29 = .ok (.goto (-23), 3) := by decide +kernel
theorem dX4_dark_32 : decode cX4_dark 32 = .ok (.iload 4, 2) := by decide +kernel
theorem dX4_dark_34 : decode cX4_dark 34 = .ok (.ireturn, 1) := by decide +kernel
theorem dX4_minutes_0 : decode cX4_minutes 0 = .ok (.iconst 0, 1) := by decide +kernel
theorem dX4_minutes_1 : decode cX4_minutes 1 = .ok (.aload_n 1, 1) := by decide +kernel
theorem dX4_minutes_2 : decode cX4_minutes 2 = .ok (.iload_n 2, 1) := by decide +kernel
theorem dX4_minutes_3 : decode cX4_minutes 3 = .ok (.invokevirtual 56, 3) := by decide +kernel
theorem dX4_minutes_6 : decode cX4_minutes 6 = .ok (.invokestatic 43, 3) := by decide +kernel
theorem dX4_minutes_9 : decode cX4_minutes 9 = .ok (.istore 4, 2) := by decide +kernel
theorem dX4_minutes_11 : decode cX4_minutes 11 = .ok (.sipush 200, 3) := by decide +kernel
theorem dX4_minutes_14 : decode cX4_minutes 14 = .ok (.aload_n 1, 1) := by decide +kernel
theorem dX4_minutes_15 : decode cX4_minutes 15 = .ok (.iload_n 2, 1) := by decide +kernel
theorem dX4_minutes_16 : decode cX4_minutes 16 = .ok (.invokevirtual 59, 3) := by decide +kernel
theorem dX4_minutes_19 : decode cX4_minutes 19 = .ok (.invokestatic 49, 3) := by decide +kernel
theorem dX4_minutes_22 : decode cX4_minutes 22 = .ok (.istore 5, 2) := by decide +kernel
theorem dX4_minutes_24 : decode cX4_minutes 24 = .ok (.iload 4, 2) := by decide +kernel
theorem dX4_minutes_26 : decode cX4_minutes 26 = .ok (.iload 5, 2) := by decide +kernel
theorem dX4_minutes_28 : decode cX4_minutes 28 = .ok (.if_icmp .le 5, 3) := by decide +kernel
theorem dX4_minutes_31 : decode cX4_minutes 31 = .ok (.iconst 0, 1) := by decide +kernel
theorem dX4_minutes_32 : decode cX4_minutes 32 = .ok (.ireturn, 1) := by decide +kernel
theorem dX4_minutes_33 : decode cX4_minutes 33 = .ok (.iload 4, 2) := by decide +kernel
theorem dX4_minutes_35 : decode cX4_minutes 35 = .ok (.istore 6, 2) := by decide +kernel
theorem dX4_minutes_37 : decode cX4_minutes 37 = .ok (.iload 6, 2) := by decide +kernel
theorem dX4_minutes_39 : decode cX4_minutes 39 = .ok (.iload 5, 2) := by decide +kernel
theorem dX4_minutes_41 : decode cX4_minutes 41 = .ok (.if_icmp .gt 17, 3) := by decide +kernel
theorem dX4_minutes_44 : decode cX4_minutes 44 = .ok (.aload_n 0, 1) := by decide +kernel
theorem dX4_minutes_45 : decode cX4_minutes 45 = .ok (.getfield 15, 3) := by decide +kernel
theorem dX4_minutes_48 : decode cX4_minutes 48 = .ok (.iload 6, 2) := by decide +kernel
theorem dX4_minutes_50 : decode cX4_minutes 50 = .ok (.iconst 0, 1) := by decide +kernel
theorem dX4_minutes_51 : decode cX4_minutes 51 = .ok (.iastore, 1) := by decide +kernel
theorem dX4_minutes_52 : decode cX4_minutes 52 = .ok (.iinc 6 1, 3) := by decide +kernel
theorem dX4_minutes_55 : decode cX4_minutes 55 = .ok (.goto (-18), 3) := by decide +kernel
theorem dX4_minutes_58 : decode cX4_minutes 58 = .ok (.iconst 0, 1) := by decide +kernel
theorem dX4_minutes_59 : decode cX4_minutes 59 = .ok (.istore 6, 2) := by decide +kernel
theorem dX4_minutes_61 : decode cX4_minutes 61 = .ok (.iload 6, 2) := by decide +kernel
theorem dX4_minutes_63 : decode cX4_minutes 63 = .ok (.aload_n 1, 1) := by decide +kernel
theorem dX4_minutes_64 : decode cX4_minutes 64 = .ok (.getfield 18, 3) := by decide +kernel
theorem dX4_minutes_67 : decode cX4_minutes 67 = .ok (.if_icmp .ge 42, 3) := by decide +kernel
theorem dX4_minutes_70 : decode cX4_minutes 70 = .ok (.aload_n 1, 1) := by decide +kernel
theorem dX4_minutes_71 : decode cX4_minutes 71 = .ok (.iload 6, 2) := by decide +kernel
theorem dX4_minutes_73 : decode cX4_minutes 73 = .ok (.invokevirtual 24, 3) := by decide +kernel
theorem dX4_minutes_76 : decode cX4_minutes 76 = .ok (.astore 7, 2) := by decide +kernel
theorem dX4_minutes_78 : decode cX4_minutes 78 = .ok (.aload 7, 2) := by decide +kernel
theorem dX4_minutes_80 : decode cX4_minutes 80 = .ok (.ifnull 23, 3) := by decide +kernel
theorem dX4_minutes_83 : decode cX4_minutes 83 = .ok (.iload_n 3, 1) := by decide +kernel
theorem dX4_minutes_84 : decode cX4_minutes 84 = .ok (.iload 6, 2) := by decide +kernel
theorem dX4_minutes_86 : decode cX4_minutes 86 = .ok (.ishr, 1) := by decide +kernel
theorem dX4_minutes_87 : decode cX4_minutes 87 = .ok (.iconst 1, 1) := by decide +kernel
theorem dX4_minutes_88 : decode cX4_minutes 88 = .ok (.iand, 1) := by decide +kernel
theorem dX4_minutes_89 : decode cX4_minutes 89 = .ok (.iconst 1, 1) := by decide +kernel
theorem dX4_minutes_90 : decode cX4_minutes 90 = .ok (.if_icmp .ne 13, 3) := by decide +kernel
theorem dX4_minutes_93 : decode cX4_minutes 93 = .ok (.aload_n 0, 1) := by decide +kernel
theorem dX4_minutes_94 : decode cX4_minutes 94 = .ok (.aload 7, 2) := by decide +kernel
theorem dX4_minutes_96 : decode cX4_minutes 96 = .ok (.iload 4, 2) := by decide +kernel
theorem dX4_minutes_98 : decode cX4_minutes 98 = .ok (.iload 5, 2) := by decide +kernel
theorem dX4_minutes_100 : decode cX4_minutes 100 = .ok (.invokevirtual 62, 3) := by decide +kernel
theorem dX4_minutes_103 : decode cX4_minutes 103 = .ok (.iinc 6 1, 3) := by decide +kernel
theorem dX4_minutes_106 : decode cX4_minutes 106 = .ok (.goto (-45), 3) := by decide +kernel
theorem dX4_minutes_109 : decode cX4_minutes 109 = .ok (.aload_n 0, 1) := by decide +kernel
theorem dX4_minutes_110 : decode cX4_minutes 110 = .ok (.getfield 15, 3) := by decide +kernel
theorem dX4_minutes_113 : decode cX4_minutes 113 = .ok (.iload 4, 2) := by decide +kernel
theorem dX4_minutes_115 : decode cX4_minutes 115 = .ok (.iaload, 1) := by decide +kernel
theorem dX4_minutes_116 : decode cX4_minutes 116 = .ok (.istore 6, 2) := by decide +kernel
theorem dX4_minutes_118 : decode cX4_minutes 118 = .ok (.iload 4, 2) := by decide +kernel
theorem dX4_minutes_120 : decode cX4_minutes 120 = .ok (.iconst 1, 1) := by decide +kernel
theorem dX4_minutes_121 : decode cX4_minutes 121 = .ok (.iadd, 1) := by decide +kernel
theorem dX4_minutes_122 : decode cX4_minutes 122 = .ok (.istore 7, 2) := by decide +kernel
theorem dX4_minutes_124 : decode cX4_minutes 124 = .ok (.iload 7, 2) := by decide +kernel
theorem dX4_minutes_126 : decode cX4_minutes 126 = .ok (.iload 5, 2) := by decide +kernel
theorem dX4_minutes_128 : decode cX4_minutes 128 = .ok (.if_icmp .gt 23, 3) := by decide +kernel
theorem dX4_minutes_131 : decode cX4_minutes 131 = .ok (.iload 6, 2) := by decide +kernel
theorem dX4_minutes_133 : decode cX4_minutes 133 = .ok (.aload_n 0, 1) := by decide +kernel
theorem dX4_minutes_134 : decode cX4_minutes 134 = .ok (.getfield 15, 3) := by decide +kernel
theorem dX4_minutes_137 : decode cX4_minutes 137 = .ok (.iload 7, 2) := by decide +kernel
theorem dX4_minutes_139 : decode cX4_minutes 139 = .ok (.iaload, 1) := by decide +kernel
theorem dX4_minutes_140 : decode cX4_minutes 140 = .ok (.invokestatic 49, 3) := by decide +kernel
theorem dX4_minutes_143 : decode cX4_minutes 143 = .ok (.istore 6, 2) := by decide +kernel
theorem dX4_minutes_145 : decode cX4_minutes 145 = .ok (.iinc 7 1, 3) := by decide +kernel
theorem dX4_minutes_148 : decode cX4_minutes 148 = .ok (.goto (-24), 3) := by decide +kernel
theorem dX4_minutes_151 : decode cX4_minutes 151 = .ok (.iload 6, 2) := by decide +kernel
theorem dX4_minutes_153 : decode cX4_minutes 153 = .ok (.ireturn, 1) := by decide +kernel
theorem dX4_lengthen_0 : decode cX4_lengthen 0 = .ok (.iload_n 2, 1) := by decide +kernel
theorem dX4_lengthen_1 : decode cX4_lengthen 1 = .ok (.aload_n 1, 1) := by decide +kernel
theorem dX4_lengthen_2 : decode cX4_lengthen 2 = .ok (.getfield 37, 3) := by decide +kernel
theorem dX4_lengthen_5 : decode cX4_lengthen 5 = .ok (.aload_n 1, 1) := by decide +kernel
theorem dX4_lengthen_6 : decode cX4_lengthen 6 = .ok (.invokevirtual 40, 3) := by decide +kernel
theorem dX4_lengthen_9 : decode cX4_lengthen 9 = .ok (.isub, 1) := by decide +kernel
theorem dX4_lengthen_10 : decode cX4_lengthen 10 = .ok (.invokestatic 43, 3) := by decide +kernel
theorem dX4_lengthen_13 : decode cX4_lengthen 13 = .ok (.istore 4, 2) := by decide +kernel
theorem dX4_lengthen_15 : decode cX4_lengthen 15 = .ok (.iload_n 3, 1) := by decide +kernel
theorem dX4_lengthen_16 : decode cX4_lengthen 16 = .ok (.aload_n 1, 1) := by decide +kernel
theorem dX4_lengthen_17 : decode cX4_lengthen 17 = .ok (.getfield 37, 3) := by decide +kernel
theorem dX4_lengthen_20 : decode cX4_lengthen 20 = .ok (.aload_n 1, 1) := by decide +kernel
theorem dX4_lengthen_21 : decode cX4_lengthen 21 = .ok (.invokevirtual 40, 3) := by decide +kernel
theorem dX4_lengthen_24 : decode cX4_lengthen 24 = .ok (.iadd, 1) := by decide +kernel
theorem dX4_lengthen_25 : decode cX4_lengthen 25 = .ok (.invokestatic 49, 3) := by decide +kernel
theorem dX4_lengthen_28 : decode cX4_lengthen 28 = .ok (.istore 5, 2) := by decide +kernel
theorem dX4_lengthen_30 : decode cX4_lengthen 30 = .ok (.aload_n 1, 1) := by decide +kernel
theorem dX4_lengthen_31 : decode cX4_lengthen 31 = .ok (.invokevirtual 28, 3) := by decide +kernel
theorem dX4_lengthen_34 : decode cX4_lengthen 34 = .ok (.istore 6, 2) := by decide +kernel
theorem dX4_lengthen_36 : decode cX4_lengthen 36 = .ok (.iload 4, 2) := by decide +kernel
theorem dX4_lengthen_38 : decode cX4_lengthen 38 = .ok (.istore 7, 2) := by decide +kernel
theorem dX4_lengthen_40 : decode cX4_lengthen 40 = .ok (.iload 7, 2) := by decide +kernel
theorem dX4_lengthen_42 : decode cX4_lengthen 42 = .ok (.iload 5, 2) := by decide +kernel
theorem dX4_lengthen_44 : decode cX4_lengthen 44 = .ok (.if_icmp .gt 36, 3) := by decide +kernel
theorem dX4_lengthen_47 : decode cX4_lengthen 47 = .ok (.iload 7, 2) := by decide +kernel
theorem dX4_lengthen_49 : decode cX4_lengthen 49 = .ok (.invokestatic 66, 3) := by decide +kernel
theorem dX4_lengthen_52 : decode cX4_lengthen 52 = .ok (.ifCond .eq 22, 3) := by decide +kernel
theorem dX4_lengthen_55 : decode cX4_lengthen 55 = .ok (.aload_n 0, 1) := by decide +kernel
theorem dX4_lengthen_56 : decode cX4_lengthen 56 = .ok (.getfield 15, 3) := by decide +kernel
theorem dX4_lengthen_59 : decode cX4_lengthen 59 = .ok (.iload 7, 2) := by decide +kernel
theorem dX4_lengthen_61 : decode cX4_lengthen 61 = .ok (.aload_n 0, 1) := by decide +kernel
theorem dX4_lengthen_62 : decode cX4_lengthen 62 = .ok (.getfield 15, 3) := by decide +kernel
theorem dX4_lengthen_65 : decode cX4_lengthen 65 = .ok (.iload 7, 2) := by decide +kernel
theorem dX4_lengthen_67 : decode cX4_lengthen 67 = .ok (.iaload, 1) := by decide +kernel
theorem dX4_lengthen_68 : decode cX4_lengthen 68 = .ok (.iload 6, 2) := by decide +kernel
theorem dX4_lengthen_70 : decode cX4_lengthen 70 = .ok (.invokestatic 43, 3) := by decide +kernel
theorem dX4_lengthen_73 : decode cX4_lengthen 73 = .ok (.iastore, 1) := by decide +kernel
theorem dX4_lengthen_74 : decode cX4_lengthen 74 = .ok (.iinc 7 1, 3) := by decide +kernel
theorem dX4_lengthen_77 : decode cX4_lengthen 77 = .ok (.goto (-37), 3) := by decide +kernel
theorem dX4_lengthen_80 : decode cX4_lengthen 80 = .ok (.return_, 1) := by decide +kernel
theorem dX5_init_0 : decode cX5_init 0 = .ok (.aload_n 0, 1) := by decide +kernel
theorem dX5_init_1 : decode cX5_init 1 = .ok (.invokespecial 3, 3) := by decide +kernel
theorem dX5_init_4 : decode cX5_init 4 = .ok (.aload_n 0, 1) := by decide +kernel
theorem dX5_init_5 : decode cX5_init 5 = .ok (.bipush 80, 2) := by decide +kernel
theorem dX5_init_7 : decode cX5_init 7 = .ok (.newarray .byte, 2) := by decide +kernel
theorem dX5_init_9 : decode cX5_init 9 = .ok (.putfield 9, 3) := by decide +kernel
theorem dX5_init_12 : decode cX5_init 12 = .ok (.return_, 1) := by decide +kernel
theorem dX6_init_0 : decode cX6_init 0 = .ok (.aload_n 0, 1) := by decide +kernel
theorem dX6_init_1 : decode cX6_init 1 = .ok (.invokespecial 3, 3) := by decide +kernel
theorem dX6_init_4 : decode cX6_init 4 = .ok (.aload_n 0, 1) := by decide +kernel
theorem dX6_init_5 : decode cX6_init 5 = .ok (.new 9, 3) := by decide +kernel
theorem dX6_init_8 : decode cX6_init 8 = .ok (.dup, 1) := by decide +kernel
theorem dX6_init_9 : decode cX6_init 9 = .ok (.invokespecial 11, 3) := by decide +kernel
theorem dX6_init_12 : decode cX6_init 12 = .ok (.putfield 12, 3) := by decide +kernel
theorem dX6_init_15 : decode cX6_init 15 = .ok (.aload_n 0, 1) := by decide +kernel
theorem dX6_init_16 : decode cX6_init 16 = .ok (.new 16, 3) := by decide +kernel
theorem dX6_init_19 : decode cX6_init 19 = .ok (.dup, 1) := by decide +kernel
theorem dX6_init_20 : decode cX6_init 20 = .ok (.invokespecial 18, 3) := by decide +kernel
theorem dX6_init_23 : decode cX6_init 23 = .ok (.putfield 19, 3) := by decide +kernel
theorem dX6_init_26 : decode cX6_init 26 = .ok (.aload_n 0, 1) := by decide +kernel
theorem dX6_init_27 : decode cX6_init 27 = .ok (.new 16, 3) := by decide +kernel
theorem dX6_init_30 : decode cX6_init 30 = .ok (.dup, 1) := by decide +kernel
theorem dX6_init_31 : decode cX6_init 31 = .ok (.invokespecial 18, 3) := by decide +kernel
theorem dX6_init_34 : decode cX6_init 34 = .ok (.putfield 23, 3) := by decide +kernel
theorem dX6_init_37 : decode cX6_init 37 = .ok (.aload_n 0, 1) := by decide +kernel
theorem dX6_init_38 : decode cX6_init 38 = .ok (.new 26, 3) := by decide +kernel
theorem dX6_init_41 : decode cX6_init 41 = .ok (.dup, 1) := by decide +kernel
theorem dX6_init_42 : decode cX6_init 42 = .ok (.invokespecial 28, 3) := by decide +kernel
theorem dX6_init_45 : decode cX6_init 45 = .ok (.putfield 29, 3) := by decide +kernel
theorem dX6_init_48 : decode cX6_init 48 = .ok (.aload_n 0, 1) := by decide +kernel
theorem dX6_init_49 : decode cX6_init 49 = .ok (.new 33, 3) := by decide +kernel
theorem dX6_init_52 : decode cX6_init 52 = .ok (.dup, 1) := by decide +kernel
theorem dX6_init_53 : decode cX6_init 53 = .ok (.invokespecial 35, 3) := by decide +kernel
theorem dX6_init_56 : decode cX6_init 56 = .ok (.putfield 36, 3) := by decide +kernel
theorem dX6_init_59 : decode cX6_init 59 = .ok (.aload_n 0, 1) := by decide +kernel
theorem dX6_init_60 : decode cX6_init 60 = .ok (.new 40, 3) := by decide +kernel
theorem dX6_init_63 : decode cX6_init 63 = .ok (.dup, 1) := by decide +kernel
theorem dX6_init_64 : decode cX6_init 64 = .ok (.invokespecial 42, 3) := by decide +kernel
theorem dX6_init_67 : decode cX6_init 67 = .ok (.putfield 43, 3) := by decide +kernel
theorem dX6_init_70 : decode cX6_init 70 = .ok (.return_, 1) := by decide +kernel
theorem dX6_add_0 : decode cX6_add 0 = .ok (.iload_n 1, 1) := by decide +kernel
theorem dX6_add_1 : decode cX6_add 1 = .ok (.invokestatic 72, 3) := by decide +kernel
theorem dX6_add_4 : decode cX6_add 4 = .ok (.ifCond .eq 29, 3) := by decide +kernel
theorem dX6_add_7 : decode cX6_add 7 = .ok (.iload_n 2, 1) := by decide +kernel
theorem dX6_add_8 : decode cX6_add 8 = .ok (.ifCond .lt 25, 3) := by decide +kernel
theorem dX6_add_11 : decode cX6_add 11 = .ok (.iload_n 2, 1) := by decide +kernel
theorem dX6_add_12 : decode cX6_add 12 = .ok (.iconst 3, 1) := by decide +kernel
theorem dX6_add_13 : decode cX6_add 13 = .ok (.if_icmp .gt 20, 3) := by decide +kernel
theorem dX6_add_16 : decode cX6_add 16 = .ok (.iload_n 3, 1) := by decide +kernel
theorem dX6_add_17 : decode cX6_add 17 = .ok (.ifCond .lt 16, 3) := by decide +kernel
theorem dX6_add_20 : decode cX6_add 20 = .ok (.iload_n 3, 1) := by decide +kernel
theorem dX6_add_21 : decode cX6_add 21 = .ok (.iconst 3, 1) := by decide +kernel
theorem dX6_add_22 : decode cX6_add 22 = .ok (.if_icmp .gt 11, 3) := by decide +kernel
theorem dX6_add_25 : decode cX6_add 25 = .ok (.iload 4, 2) := by decide +kernel
theorem dX6_add_27 : decode cX6_add 27 = .ok (.invokestatic 75, 3) := by decide +kernel
theorem dX6_add_30 : decode cX6_add 30 = .ok (.ifCond .ne 5, 3) := by decide +kernel
theorem dX6_add_33 : decode cX6_add 33 = .ok (.iconst (-1), 1) := by decide +kernel
theorem dX6_add_34 : decode cX6_add 34 = .ok (.ireturn, 1) := by decide +kernel
theorem dX6_add_35 : decode cX6_add 35 = .ok (.aload_n 0, 1) := by decide +kernel
theorem dX6_add_36 : decode cX6_add 36 = .ok (.getfield 19, 3) := by decide +kernel
theorem dX6_add_39 : decode cX6_add 39 = .ok (.getfield 66, 3) := by decide +kernel
theorem dX6_add_42 : decode cX6_add 42 = .ok (.bipush 10, 2) := by decide +kernel
theorem dX6_add_44 : decode cX6_add 44 = .ok (.if_icmp .lt 6, 3) := by decide +kernel
theorem dX6_add_47 : decode cX6_add 47 = .ok (.bipush (-3), 2) := by decide +kernel
theorem dX6_add_49 : decode cX6_add 49 = .ok (.ireturn, 1) := by decide +kernel
theorem dX6_add_50 : decode cX6_add 50 = .ok (.aload_n 0, 1) := by decide +kernel
theorem dX6_add_51 : decode cX6_add 51 = .ok (.invokevirtual 59, 3) := by decide +kernel
theorem dX6_add_54 : decode cX6_add 54 = .ok (.aload_n 0, 1) := by decide +kernel
theorem dX6_add_55 : decode cX6_add 55 = .ok (.getfield 19, 3) := by decide +kernel
theorem dX6_add_58 : decode cX6_add 58 = .ok (.invokevirtual 78, 3) := by decide +kernel
theorem dX6_add_61 : decode cX6_add 61 = .ok (.astore 5, 2) := by decide +kernel
theorem dX6_add_63 : decode cX6_add 63 = .ok (.aload 5, 2) := by decide +kernel
theorem dX6_add_65 : decode cX6_add 65 = .ok (.ifnull 14, 3) := by decide +kernel
theorem dX6_add_68 : decode cX6_add 68 = .ok (.aload 5, 2) := by decide +kernel
theorem dX6_add_70 : decode cX6_add 70 = .ok (.iload_n 1, 1) := by decide +kernel
theorem dX6_add_71 : decode cX6_add 71 = .ok (.iload_n 2, 1) := by decide +kernel
theorem dX6_add_72 : decode cX6_add 72 = .ok (.iload_n 3, 1) := by decide +kernel
theorem dX6_add_73 : decode cX6_add 73 = .ok (.iload 4, 2) := by decide +kernel
theorem dX6_add_75 : decode cX6_add 75 = .ok (.iconst 0, 1) := by decide +kernel
theorem dX6_add_76 : decode cX6_add 76 = .ok (.invokevirtual 82, 3) := by decide +kernel
theorem dX6_add_79 : decode cX6_add 79 = .ok (.aload_n 0, 1) := by decide +kernel
theorem dX6_add_80 : decode cX6_add 80 = .ok (.getfield 19, 3) := by decide +kernel
theorem dX6_add_83 : decode cX6_add 83 = .ok (.getfield 66, 3) := by decide +kernel
theorem dX6_add_86 : decode cX6_add 86 = .ok (.iconst 1, 1) := by decide +kernel
theorem dX6_add_87 : decode cX6_add 87 = .ok (.isub, 1) := by decide +kernel
theorem dX6_add_88 : decode cX6_add 88 = .ok (.ireturn, 1) := by decide +kernel
theorem dX6_maintain_0 : decode cX6_maintain 0 = .ok (.aload_n 0, 1) := by decide +kernel
theorem dX6_maintain_1 : decode cX6_maintain 1 = .ok (.getfield 19, 3) := by decide +kernel
theorem dX6_maintain_4 : decode cX6_maintain 4 = .ok (.iload_n 1, 1) := by decide +kernel
theorem dX6_maintain_5 : decode cX6_maintain 5 = .ok (.invokevirtual 88, 3) := by decide +kernel
theorem dX6_maintain_8 : decode cX6_maintain 8 = .ok (.astore_n 3, 1) := by decide +kernel
theorem dX6_maintain_9 : decode cX6_maintain 9 = .ok (.aload_n 3, 1) := by decide +kernel
theorem dX6_maintain_10 : decode cX6_maintain 10 = .ok (.ifnonnull 5, 3) := by decide +kernel
theorem dX6_maintain_13 : decode cX6_maintain 13 = .ok (.iconst (-1), 1) := by decide +kernel
theorem dX6_maintain_14 : decode cX6_maintain 14 = .ok (.ireturn, 1) := by decide +kernel
theorem dX6_maintain_15 : decode cX6_maintain 15 = .ok (.aload_n 0, 1) := by decide +kernel
theorem dX6_maintain_16 : decode cX6_maintain 16 = .ok (.invokevirtual 59, 3) := by decide +kernel
theorem dX6_maintain_19 : decode cX6_maintain 19 = .ok (.aload_n 3, 1) := by decide +kernel
theorem dX6_maintain_20 : decode cX6_maintain 20 = .ok (.getfield 96, 3) := by decide +kernel
theorem dX6_maintain_23 : decode cX6_maintain 23 = .ok (.ifCond .eq 7, 3) := by decide +kernel
theorem dX6_maintain_26 : decode cX6_maintain 26 = .ok (.iconst 1, 1) := by decide +kernel
theorem dX6_maintain_27 : decode cX6_maintain 27 = .ok (.goto 4, 3) := by decide +kernel
theorem dX6_maintain_30 : decode cX6_maintain 30 = .ok (.iconst 0, 1) := by decide +kernel
theorem dX6_maintain_31 : decode cX6_maintain 31 = .ok (.istore 4, 2) := by decide +kernel
theorem dX6_maintain_33 : decode cX6_maintain 33 = .ok (.aload_n 3, 1) := by decide +kernel
theorem dX6_maintain_34 : decode cX6_maintain 34 = .ok (.iload_n 2, 1) := by decide +kernel
theorem dX6_maintain_35 : decode cX6_maintain 35 = .ok (.putfield 96, 3) := by decide +kernel
theorem dX6_maintain_38 : decode cX6_maintain 38 = .ok (.iload 4, 2) := by decide +kernel
theorem dX6_maintain_40 : decode cX6_maintain 40 = .ok (.ireturn, 1) := by decide +kernel
theorem dX6_route_0 : decode cX6_route 0 = .ok (.iload_n 1, 1) := by decide +kernel
theorem dX6_route_1 : decode cX6_route 1 = .ok (.invokestatic 72, 3) := by decide +kernel
theorem dX6_route_4 : decode cX6_route 4 = .ok (.ifCond .eq 15, 3) := by decide +kernel
theorem dX6_route_7 : decode cX6_route 7 = .ok (.iload_n 2, 1) := by decide +kernel
theorem dX6_route_8 : decode cX6_route 8 = .ok (.invokestatic 72, 3) := by decide +kernel
theorem dX6_route_11 : decode cX6_route 11 = .ok (.ifCond .eq 8, 3) := by decide +kernel
theorem dX6_route_14 : decode cX6_route 14 = .ok (.iload_n 2, 1) := by decide +kernel
theorem dX6_route_15 : decode cX6_route 15 = .ok (.iload_n 1, 1) := by decide +kernel
theorem dX6_route_16 : decode cX6_route 16 = .ok (.if_icmp .ge 5, 3) := by decide +kernel
theorem dX6_route_19 : decode cX6_route 19 = .ok (.iconst (-1), 1) := by decide +kernel
theorem dX6_route_20 : decode cX6_route 20 = .ok (.ireturn, 1) := by decide +kernel
theorem dX6_route_21 : decode cX6_route 21 = .ok (.aload_n 0, 1) := by decide +kernel
theorem dX6_route_22 : decode cX6_route 22 = .ok (.getfield 19, 3) := by decide +kernel
theorem dX6_route_25 : decode cX6_route 25 = .ok (.getfield 69, 3) := by decide +kernel
theorem dX6_route_28 : decode cX6_route 28 = .ok (.bipush 6, 2) := by decide +kernel
theorem dX6_route_30 : decode cX6_route 30 = .ok (.if_icmp .lt 6, 3) := by decide +kernel
theorem dX6_route_33 : decode cX6_route 33 = .ok (.bipush (-3), 2) := by decide +kernel
theorem dX6_route_35 : decode cX6_route 35 = .ok (.ireturn, 1) := by decide +kernel
theorem dX6_route_36 : decode cX6_route 36 = .ok (.aload_n 0, 1) := by decide +kernel
theorem dX6_route_37 : decode cX6_route 37 = .ok (.invokevirtual 59, 3) := by decide +kernel
theorem dX6_route_40 : decode cX6_route 40 = .ok (.aload_n 0, 1) := by decide +kernel
theorem dX6_route_41 : decode cX6_route 41 = .ok (.getfield 19, 3) := by decide +kernel
theorem dX6_route_44 : decode cX6_route 44 = .ok (.iload_n 1, 1) := by decide +kernel
theorem dX6_route_45 : decode cX6_route 45 = .ok (.iload_n 2, 1) := by decide +kernel
theorem dX6_route_46 : decode cX6_route 46 = .ok (.invokevirtual 100, 3) := by decide +kernel
theorem dX6_route_49 : decode cX6_route 49 = .ok (.aload_n 0, 1) := by decide +kernel
theorem dX6_route_50 : decode cX6_route 50 = .ok (.getfield 19, 3) := by decide +kernel
theorem dX6_route_53 : decode cX6_route 53 = .ok (.getfield 69, 3) := by decide +kernel
theorem dX6_route_56 : decode cX6_route 56 = .ok (.iconst 1, 1) := by decide +kernel
theorem dX6_route_57 : decode cX6_route 57 = .ok (.isub, 1) := by decide +kernel
theorem dX6_route_58 : decode cX6_route 58 = .ok (.ireturn, 1) := by decide +kernel
theorem dX6_setNeed_0 : decode cX6_setNeed 0 = .ok (.iload_n 1, 1) := by decide +kernel
theorem dX6_setNeed_1 : decode cX6_setNeed 1 = .ok (.iconst 1, 1) := by decide +kernel
theorem dX6_setNeed_2 : decode cX6_setNeed 2 = .ok (.if_icmp .lt 10, 3) := by decide +kernel
theorem dX6_setNeed_5 : decode cX6_setNeed 5 = .ok (.iload_n 1, 1) := by decide +kernel
theorem dX6_setNeed_6 : decode cX6_setNeed 6 = .ok (.sipush 180, 3) := by decide +kernel
theorem dX6_setNeed_9 : decode cX6_setNeed 9 = .ok (.if_icmp .le 5, 3) := by decide +kernel
theorem dX6_setNeed_12 : decode cX6_setNeed 12 = .ok (.iconst (-1), 1) := by decide +kernel
theorem dX6_setNeed_13 : decode cX6_setNeed 13 = .ok (.ireturn, 1) := by decide +kernel
theorem dX6_setNeed_14 : decode cX6_setNeed 14 = .ok (.aload_n 0, 1) := by decide +kernel
theorem dX6_setNeed_15 : decode cX6_setNeed 15 = .ok (.invokevirtual 59, 3) := by decide +kernel
theorem dX6_setNeed_18 : decode cX6_setNeed 18 = .ok (.aload_n 0, 1) := by decide +kernel
theorem dX6_setNeed_19 : decode cX6_setNeed 19 = .ok (.getfield 19, 3) := by decide +kernel
theorem dX6_setNeed_22 : decode cX6_setNeed 22 = .ok (.getfield 110, 3) := by decide +kernel
theorem dX6_setNeed_25 : decode cX6_setNeed 25 = .ok (.istore_n 2, 1) := by decide +kernel
theorem dX6_setNeed_26 : decode cX6_setNeed 26 = .ok (.aload_n 0, 1) := by decide +kernel
theorem dX6_setNeed_27 : decode cX6_setNeed 27 = .ok (.getfield 19, 3) := by decide +kernel
theorem dX6_setNeed_30 : decode cX6_setNeed 30 = .ok (.iload_n 1, 1) := by decide +kernel
theorem dX6_setNeed_31 : decode cX6_setNeed 31 = .ok (.putfield 110, 3) := by decide +kernel
theorem dX6_setNeed_34 : decode cX6_setNeed 34 = .ok (.iload_n 2, 1) := by decide +kernel
theorem dX6_setNeed_35 : decode cX6_setNeed 35 = .ok (.ireturn, 1) := by decide +kernel
theorem dX6_setStock_0 : decode cX6_setStock 0 = .ok (.iload_n 1, 1) := by decide +kernel
theorem dX6_setStock_1 : decode cX6_setStock 1 = .ok (.invokestatic 75, 3) := by decide +kernel
theorem dX6_setStock_4 : decode cX6_setStock 4 = .ok (.ifCond .eq 13, 3) := by decide +kernel
theorem dX6_setStock_7 : decode cX6_setStock 7 = .ok (.iload_n 2, 1) := by decide +kernel
theorem dX6_setStock_8 : decode cX6_setStock 8 = .ok (.ifCond .lt 9, 3) := by decide +kernel
theorem dX6_setStock_11 : decode cX6_setStock 11 = .ok (.iload_n 2, 1) := by decide +kernel
theorem dX6_setStock_12 : decode cX6_setStock 12 = .ok (.bipush 99, 2) := by decide +kernel
theorem dX6_setStock_14 : decode cX6_setStock 14 = .ok (.if_icmp .le 5, 3) := by decide +kernel
theorem dX6_setStock_17 : decode cX6_setStock 17 = .ok (.iconst (-1), 1) := by decide +kernel
theorem dX6_setStock_18 : decode cX6_setStock 18 = .ok (.ireturn, 1) := by decide +kernel
theorem dX6_setStock_19 : decode cX6_setStock 19 = .ok (.aload_n 0, 1) := by decide +kernel
theorem dX6_setStock_20 : decode cX6_setStock 20 = .ok (.invokevirtual 59, 3) := by decide +kernel
theorem dX6_setStock_23 : decode cX6_setStock 23 = .ok (.aload_n 0, 1) := by decide +kernel
theorem dX6_setStock_24 : decode cX6_setStock 24 = .ok (.getfield 19, 3) := by decide +kernel
theorem dX6_setStock_27 : decode cX6_setStock 27 = .ok (.iload_n 1, 1) := by decide +kernel
theorem dX6_setStock_28 : decode cX6_setStock 28 = .ok (.invokevirtual 113, 3) := by decide +kernel
theorem dX6_setStock_31 : decode cX6_setStock 31 = .ok (.istore_n 3, 1) := by decide +kernel
theorem dX6_setStock_32 : decode cX6_setStock 32 = .ok (.aload_n 0, 1) := by decide +kernel
theorem dX6_setStock_33 : decode cX6_setStock 33 = .ok (.getfield 19, 3) := by decide +kernel
theorem dX6_setStock_36 : decode cX6_setStock 36 = .ok (.iload_n 1, 1) := by decide +kernel
theorem dX6_setStock_37 : decode cX6_setStock 37 = .ok (.iload_n 2, 1) := by decide +kernel
theorem dX6_setStock_38 : decode cX6_setStock 38 = .ok (.iload_n 3, 1) := by decide +kernel
theorem dX6_setStock_39 : decode cX6_setStock 39 = .ok (.isub, 1) := by decide +kernel
theorem dX6_setStock_40 : decode cX6_setStock 40 = .ok (.invokevirtual 117, 3) := by decide +kernel
theorem dX6_setStock_43 : decode cX6_setStock 43 = .ok (.iload_n 3, 1) := by decide +kernel
theorem dX6_setStock_44 : decode cX6_setStock 44 = .ok (.ireturn, 1) := by decide +kernel
theorem dX6_light_0 : decode cX6_light 0 = .ok (.aload_n 0, 1) := by decide +kernel
theorem dX6_light_1 : decode cX6_light 1 = .ok (.getfield 19, 3) := by decide +kernel
theorem dX6_light_4 : decode cX6_light 4 = .ok (.iload_n 1, 1) := by decide +kernel
theorem dX6_light_5 : decode cX6_light 5 = .ok (.invokevirtual 88, 3) := by decide +kernel
theorem dX6_light_8 : decode cX6_light 8 = .ok (.astore_n 3, 1) := by decide +kernel
theorem dX6_light_9 : decode cX6_light 9 = .ok (.aload_n 3, 1) := by decide +kernel
theorem dX6_light_10 : decode cX6_light 10 = .ok (.ifnull 13, 3) := by decide +kernel
theorem dX6_light_13 : decode cX6_light 13 = .ok (.iload_n 2, 1) := by decide +kernel
theorem dX6_light_14 : decode cX6_light 14 = .ok (.ifCond .lt 9, 3) := by decide +kernel
theorem dX6_light_17 : decode cX6_light 17 = .ok (.iload_n 2, 1) := by decide +kernel
theorem dX6_light_18 : decode cX6_light 18 = .ok (.bipush 12, 2) := by decide +kernel
theorem dX6_light_20 : decode cX6_light 20 = .ok (.if_icmp .le 5, 3) := by decide +kernel
theorem dX6_light_23 : decode cX6_light 23 = .ok (.iconst (-1), 1) := by decide +kernel
theorem dX6_light_24 : decode cX6_light 24 = .ok (.ireturn, 1) := by decide +kernel
theorem dX6_light_25 : decode cX6_light 25 = .ok (.iload_n 2, 1) := by decide +kernel
theorem dX6_light_26 : decode cX6_light 26 = .ok (.bipush 12, 2) := by decide +kernel
theorem dX6_light_28 : decode cX6_light 28 = .ok (.if_icmp .ne 27, 3) := by decide +kernel
theorem dX6_light_31 : decode cX6_light 31 = .ok (.aload_n 0, 1) := by decide +kernel
theorem dX6_light_32 : decode cX6_light 32 = .ok (.getfield 43, 3) := by decide +kernel
theorem dX6_light_35 : decode cX6_light 35 = .ok (.aload_n 0, 1) := by decide +kernel
theorem dX6_light_36 : decode cX6_light 36 = .ok (.getfield 19, 3) := by decide +kernel
theorem dX6_light_39 : decode cX6_light 39 = .ok (.aload_n 0, 1) := by decide +kernel
theorem dX6_light_40 : decode cX6_light 40 = .ok (.getfield 36, 3) := by decide +kernel
theorem dX6_light_43 : decode cX6_light 43 = .ok (.invokevirtual 120, 3) := by decide +kernel
theorem dX6_light_46 : decode cX6_light 46 = .ok (.aload_n 0, 1) := by decide +kernel
theorem dX6_light_47 : decode cX6_light 47 = .ok (.getfield 43, 3) := by decide +kernel
theorem dX6_light_50 : decode cX6_light 50 = .ok (.iload_n 1, 1) := by decide +kernel
theorem dX6_light_51 : decode cX6_light 51 = .ok (.invokevirtual 124, 3) := by decide +kernel
theorem dX6_light_54 : decode cX6_light 54 = .ok (.ireturn, 1) := by decide +kernel
theorem dX6_light_55 : decode cX6_light 55 = .ok (.aload_n 3, 1) := by decide +kernel
theorem dX6_light_56 : decode cX6_light 56 = .ok (.iload_n 2, 1) := by decide +kernel
theorem dX6_light_57 : decode cX6_light 57 = .ok (.aload_n 0, 1) := by decide +kernel
theorem dX6_light_58 : decode cX6_light 58 = .ok (.getfield 19, 3) := by decide +kernel
theorem dX6_light_61 : decode cX6_light 61 = .ok (.getfield 110, 3) := by decide +kernel
theorem dX6_light_64 : decode cX6_light 64 = .ok (.invokevirtual 127, 3) := by decide +kernel
theorem dX6_light_67 : decode cX6_light 67 = .ok (.ireturn, 1) := by decide +kernel
theorem dX6_swap_0 : decode cX6_swap 0 = .ok (.aload_n 0, 1) := by decide +kernel
theorem dX6_swap_1 : decode cX6_swap 1 = .ok (.getfield 19, 3) := by decide +kernel
theorem dX6_swap_4 : decode cX6_swap 4 = .ok (.iload_n 1, 1) := by decide +kernel
theorem dX6_swap_5 : decode cX6_swap 5 = .ok (.invokevirtual 88, 3) := by decide +kernel
theorem dX6_swap_8 : decode cX6_swap 8 = .ok (.astore_n 3, 1) := by decide +kernel
theorem dX6_swap_9 : decode cX6_swap 9 = .ok (.aload_n 3, 1) := by decide +kernel
theorem dX6_swap_10 : decode cX6_swap 10 = .ok (.ifnull 10, 3) := by decide +kernel
theorem dX6_swap_13 : decode cX6_swap 13 = .ok (.iload_n 2, 1) := by decide +kernel
theorem dX6_swap_14 : decode cX6_swap 14 = .ok (.invokestatic 75, 3) := by decide +kernel
theorem dX6_swap_17 : decode cX6_swap 17 = .ok (.ifCond .ne 5, 3) := by decide +kernel
theorem dX6_swap_20 : decode cX6_swap 20 = .ok (.iconst (-1), 1) := by decide +kernel
theorem dX6_swap_21 : decode cX6_swap 21 = .ok (.ireturn, 1) := by decide +kernel
theorem dX6_swap_22 : decode cX6_swap 22 = .ok (.aload_n 0, 1) := by decide +kernel
theorem dX6_swap_23 : decode cX6_swap 23 = .ok (.getfield 19, 3) := by decide +kernel
theorem dX6_swap_26 : decode cX6_swap 26 = .ok (.iload_n 2, 1) := by decide +kernel
theorem dX6_swap_27 : decode cX6_swap 27 = .ok (.invokevirtual 113, 3) := by decide +kernel
theorem dX6_swap_30 : decode cX6_swap 30 = .ok (.ifCond .ne 6, 3) := by decide +kernel
theorem dX6_swap_33 : decode cX6_swap 33 = .ok (.bipush (-2), 2) := by decide +kernel
theorem dX6_swap_35 : decode cX6_swap 35 = .ok (.ireturn, 1) := by decide +kernel
theorem dX6_swap_36 : decode cX6_swap 36 = .ok (.aload_n 0, 1) := by decide +kernel
theorem dX6_swap_37 : decode cX6_swap 37 = .ok (.invokevirtual 59, 3) := by decide +kernel
theorem dX6_swap_40 : decode cX6_swap 40 = .ok (.aload_n 3, 1) := by decide +kernel
theorem dX6_swap_41 : decode cX6_swap 41 = .ok (.iload_n 2, 1) := by decide +kernel
theorem dX6_swap_42 : decode cX6_swap 42 = .ok (.invokevirtual 131, 3) := by decide +kernel
theorem dX6_swap_45 : decode cX6_swap 45 = .ok (.aload_n 0, 1) := by decide +kernel
theorem dX6_swap_46 : decode cX6_swap 46 = .ok (.getfield 19, 3) := by decide +kernel
theorem dX6_swap_49 : decode cX6_swap 49 = .ok (.iload_n 2, 1) := by decide +kernel
theorem dX6_swap_50 : decode cX6_swap 50 = .ok (.iconst (-1), 1) := by decide +kernel
theorem dX6_swap_51 : decode cX6_swap 51 = .ok (.invokevirtual 117, 3) := by decide +kernel
theorem dX6_swap_54 : decode cX6_swap 54 = .ok (.aload_n 0, 1) := by decide +kernel
theorem dX6_swap_55 : decode cX6_swap 55 = .ok (.getfield 19, 3) := by decide +kernel
theorem dX6_swap_58 : decode cX6_swap 58 = .ok (.iload_n 2, 1) := by decide +kernel
theorem dX6_swap_59 : decode cX6_swap 59 = .ok (.invokevirtual 113, 3) := by decide +kernel
theorem dX6_swap_62 : decode cX6_swap 62 = .ok (.ireturn, 1) := by decide +kernel
theorem dX6_pass_0 : decode cX6_pass 0 = .ok (.iload_n 1, 1) := by decide +kernel
theorem dX6_pass_1 : decode cX6_pass 1 = .ok (.iconst 1, 1) := by decide +kernel
theorem dX6_pass_2 : decode cX6_pass 2 = .ok (.if_icmp .lt 10, 3) := by decide +kernel
theorem dX6_pass_5 : decode cX6_pass 5 = .ok (.iload_n 1, 1) := by decide +kernel
theorem dX6_pass_6 : decode cX6_pass 6 = .ok (.sipush 2000, 3) := by decide +kernel
theorem dX6_pass_9 : decode cX6_pass 9 = .ok (.if_icmp .le 5, 3) := by decide +kernel
theorem dX6_pass_12 : decode cX6_pass 12 = .ok (.iconst (-1), 1) := by decide +kernel
theorem dX6_pass_13 : decode cX6_pass 13 = .ok (.ireturn, 1) := by decide +kernel
theorem dX6_pass_14 : decode cX6_pass 14 = .ok (.aload_n 0, 1) := by decide +kernel
theorem dX6_pass_15 : decode cX6_pass 15 = .ok (.getfield 19, 3) := by decide +kernel
theorem dX6_pass_18 : decode cX6_pass 18 = .ok (.getfield 143, 3) := by decide +kernel
theorem dX6_pass_21 : decode cX6_pass 21 = .ok (.iload_n 1, 1) := by decide +kernel
theorem dX6_pass_22 : decode cX6_pass 22 = .ok (.iadd, 1) := by decide +kernel
theorem dX6_pass_23 : decode cX6_pass 23 = .ok (.ldc 146, 2) := by decide +kernel
theorem dX6_pass_25 : decode cX6_pass 25 = .ok (.if_icmp .le 6, 3) := by decide +kernel
theorem dX6_pass_28 : decode cX6_pass 28 = .ok (.bipush (-3), 2) := by decide +kernel
theorem dX6_pass_30 : decode cX6_pass 30 = .ok (.ireturn, 1) := by decide +kernel
theorem dX6_pass_31 : decode cX6_pass 31 = .ok (.aload_n 0, 1) := by decide +kernel
theorem dX6_pass_32 : decode cX6_pass 32 = .ok (.invokevirtual 59, 3) := by decide +kernel
theorem dX6_pass_35 : decode cX6_pass 35 = .ok (.aload_n 0, 1) := by decide +kernel
theorem dX6_pass_36 : decode cX6_pass 36 = .ok (.getfield 19, 3) := by decide +kernel
theorem dX6_pass_39 : decode cX6_pass 39 = .ok (.iload_n 1, 1) := by decide +kernel
theorem dX6_pass_40 : decode cX6_pass 40 = .ok (.invokevirtual 147, 3) := by decide +kernel
theorem dX6_pass_43 : decode cX6_pass 43 = .ok (.aload_n 0, 1) := by decide +kernel
theorem dX6_pass_44 : decode cX6_pass 44 = .ok (.getfield 19, 3) := by decide +kernel
theorem dX6_pass_47 : decode cX6_pass 47 = .ok (.invokevirtual 150, 3) := by decide +kernel
theorem dX6_pass_50 : decode cX6_pass 50 = .ok (.ireturn, 1) := by decide +kernel
theorem dX6_test_0 : decode cX6_test 0 = .ok (.iload_n 1, 1) := by decide +kernel
theorem dX6_test_1 : decode cX6_test 1 = .ok (.ifCond .eq 14, 3) := by decide +kernel
theorem dX6_test_4 : decode cX6_test 4 = .ok (.aload_n 0, 1) := by decide +kernel
theorem dX6_test_5 : decode cX6_test 5 = .ok (.getfield 19, 3) := by decide +kernel
theorem dX6_test_8 : decode cX6_test 8 = .ok (.iload_n 1, 1) := by decide +kernel
theorem dX6_test_9 : decode cX6_test 9 = .ok (.invokevirtual 154, 3) := by decide +kernel
theorem dX6_test_12 : decode cX6_test 12 = .ok (.ifCond .ne 5, 3) := by decide +kernel
theorem dX6_test_15 : decode cX6_test 15 = .ok (.iconst (-1), 1) := by decide +kernel
theorem dX6_test_16 : decode cX6_test 16 = .ok (.ireturn, 1) := by decide +kernel
theorem dX6_test_17 : decode cX6_test 17 = .ok (.iload_n 2, 1) := by decide +kernel
theorem dX6_test_18 : decode cX6_test 18 = .ok (.ifCond .ne 14, 3) := by decide +kernel
theorem dX6_test_21 : decode cX6_test 21 = .ok (.aload_n 0, 1) := by decide +kernel
theorem dX6_test_22 : decode cX6_test 22 = .ok (.iload_n 1, 1) := by decide +kernel
theorem dX6_test_23 : decode cX6_test 23 = .ok (.invokevirtual 157, 3) := by decide +kernel
theorem dX6_test_26 : decode cX6_test 26 = .ok (.ifCond .ne 6, 3) := by decide +kernel
theorem dX6_test_29 : decode cX6_test 29 = .ok (.bipush (-2), 2) := by decide +kernel
theorem dX6_test_31 : decode cX6_test 31 = .ok (.ireturn, 1) := by decide +kernel
theorem dX6_test_32 : decode cX6_test 32 = .ok (.aload_n 0, 1) := by decide +kernel
theorem dX6_test_33 : decode cX6_test 33 = .ok (.invokevirtual 59, 3) := by decide +kernel
theorem dX6_test_36 : decode cX6_test 36 = .ok (.aload_n 0, 1) := by decide +kernel
theorem dX6_test_37 : decode cX6_test 37 = .ok (.getfield 19, 3) := by decide +kernel
theorem dX6_test_40 : decode cX6_test 40 = .ok (.getfield 160, 3) := by decide +kernel
theorem dX6_test_43 : decode cX6_test 43 = .ok (.istore_n 3, 1) := by decide +kernel
theorem dX6_test_44 : decode cX6_test 44 = .ok (.aload_n 0, 1) := by decide +kernel
theorem dX6_test_45 : decode cX6_test 45 = .ok (.getfield 19, 3) := by decide +kernel
theorem dX6_test_48 : decode cX6_test 48 = .ok (.iload_n 1, 1) := by decide +kernel
theorem dX6_test_49 : decode cX6_test 49 = .ok (.invokevirtual 163, 3) := by decide +kernel
theorem dX6_test_52 : decode cX6_test 52 = .ok (.aload_n 0, 1) := by decide +kernel
theorem dX6_test_53 : decode cX6_test 53 = .ok (.getfield 19, 3) := by decide +kernel
theorem dX6_test_56 : decode cX6_test 56 = .ok (.getfield 160, 3) := by decide +kernel
theorem dX6_test_59 : decode cX6_test 59 = .ok (.iload_n 3, 1) := by decide +kernel
theorem dX6_test_60 : decode cX6_test 60 = .ok (.isub, 1) := by decide +kernel
theorem dX6_test_61 : decode cX6_test 61 = .ok (.ireturn, 1) := by decide +kernel
theorem dX6_carryOut_0 : decode cX6_carryOut 0 = .ok (.aload_n 0, 1) := by decide +kernel
theorem dX6_carryOut_1 : decode cX6_carryOut 1 = .ok (.getfield 19, 3) := by decide +kernel
theorem dX6_carryOut_4 : decode cX6_carryOut 4 = .ok (.getfield 66, 3) := by decide +kernel
theorem dX6_carryOut_7 : decode cX6_carryOut 7 = .ok (.ifCond .ne 5, 3) := by decide +kernel
theorem dX6_carryOut_10 : decode cX6_carryOut 10 = .ok (.iconst (-1), 1) := by decide +kernel
theorem dX6_carryOut_11 : decode cX6_carryOut 11 = .ok (.ireturn, 1) := by decide +kernel
theorem dX6_carryOut_12 : decode cX6_carryOut 12 = .ok (.aload_n 0, 1) := by decide +kernel
theorem dX6_carryOut_13 : decode cX6_carryOut 13 = .ok (.getfield 43, 3) := by decide +kernel
theorem dX6_carryOut_16 : decode cX6_carryOut 16 = .ok (.aload_n 0, 1) := by decide +kernel
theorem dX6_carryOut_17 : decode cX6_carryOut 17 = .ok (.getfield 19, 3) := by decide +kernel
theorem dX6_carryOut_20 : decode cX6_carryOut 20 = .ok (.aload_n 0, 1) := by decide +kernel
theorem dX6_carryOut_21 : decode cX6_carryOut 21 = .ok (.getfield 36, 3) := by decide +kernel
theorem dX6_carryOut_24 : decode cX6_carryOut 24 = .ok (.invokevirtual 120, 3) := by decide +kernel
theorem dX6_carryOut_27 : decode cX6_carryOut 27 = .ok (.aload_n 0, 1) := by decide +kernel
theorem dX6_carryOut_28 : decode cX6_carryOut 28 = .ok (.getfield 43, 3) := by decide +kernel
theorem dX6_carryOut_31 : decode cX6_carryOut 31 = .ok (.getfield 166, 3) := by decide +kernel
theorem dX6_carryOut_34 : decode cX6_carryOut 34 = .ok (.istore_n 1, 1) := by decide +kernel
theorem dX6_carryOut_35 : decode cX6_carryOut 35 = .ok (.iload_n 1, 1) := by decide +kernel
theorem dX6_carryOut_36 : decode cX6_carryOut 36 = .ok (.bipush (-9), 2) := by decide +kernel
theorem dX6_carryOut_38 : decode cX6_carryOut 38 = .ok (.if_icmp .ne 6, 3) := by decide +kernel
theorem dX6_carryOut_41 : decode cX6_carryOut 41 = .ok (.bipush (-2), 2) := by decide +kernel
theorem dX6_carryOut_43 : decode cX6_carryOut 43 = .ok (.ireturn, 1) := by decide +kernel
theorem dX6_carryOut_44 : decode cX6_carryOut 44 = .ok (.aload_n 0, 1) := by decide +kernel
theorem dX6_carryOut_45 : decode cX6_carryOut 45 = .ok (.getfield 19, 3) := by decide +kernel
theorem dX6_carryOut_48 : decode cX6_carryOut 48 = .ok (.getfield 143, 3) := by decide +kernel
theorem dX6_carryOut_51 : decode cX6_carryOut 51 = .ok (.bipush 24, 2) := by decide +kernel
theorem dX6_carryOut_53 : decode cX6_carryOut 53 = .ok (.iload_n 1, 1) := by decide +kernel
theorem dX6_carryOut_54 : decode cX6_carryOut 54 = .ok (.imul, 1) := by decide +kernel
theorem dX6_carryOut_55 : decode cX6_carryOut 55 = .ok (.iadd, 1) := by decide +kernel
theorem dX6_carryOut_56 : decode cX6_carryOut 56 = .ok (.ldc 146, 2) := by decide +kernel
theorem dX6_carryOut_58 : decode cX6_carryOut 58 = .ok (.if_icmp .le 6, 3) := by decide +kernel
theorem dX6_carryOut_61 : decode cX6_carryOut 61 = .ok (.bipush (-3), 2) := by decide +kernel
theorem dX6_carryOut_63 : decode cX6_carryOut 63 = .ok (.ireturn, 1) := by decide +kernel
theorem dX6_carryOut_64 : decode cX6_carryOut 64 = .ok (.aload_n 0, 1) := by decide +kernel
theorem dX6_carryOut_65 : decode cX6_carryOut 65 = .ok (.invokevirtual 59, 3) := by decide +kernel
theorem dX6_carryOut_68 : decode cX6_carryOut 68 = .ok (.aload_n 0, 1) := by decide +kernel
theorem dX6_carryOut_69 : decode cX6_carryOut 69 = .ok (.getfield 19, 3) := by decide +kernel
theorem dX6_carryOut_72 : decode cX6_carryOut 72 = .ok (.getfield 169, 3) := by decide +kernel
theorem dX6_carryOut_75 : decode cX6_carryOut 75 = .ok (.istore_n 2, 1) := by decide +kernel
theorem dX6_carryOut_76 : decode cX6_carryOut 76 = .ok (.iconst 0, 1) := by decide +kernel
theorem dX6_carryOut_77 : decode cX6_carryOut 77 = .ok (.istore_n 3, 1) := by decide +kernel
theorem dX6_carryOut_78 : decode cX6_carryOut 78 = .ok (.iload_n 3, 1) := by decide +kernel
theorem dX6_carryOut_79 : decode cX6_carryOut 79 = .ok (.iload_n 1, 1) := by decide +kernel
theorem dX6_carryOut_80 : decode cX6_carryOut 80 = .ok (.if_icmp .ge 33, 3) := by decide +kernel
theorem dX6_carryOut_83 : decode cX6_carryOut 83 = .ok (.aload_n 0, 1) := by decide +kernel
theorem dX6_carryOut_84 : decode cX6_carryOut 84 = .ok (.getfield 19, 3) := by decide +kernel
theorem dX6_carryOut_87 : decode cX6_carryOut 87 = .ok (.aload_n 0, 1) := by decide +kernel
theorem dX6_carryOut_88 : decode cX6_carryOut 88 = .ok (.getfield 43, 3) := by decide +kernel
theorem dX6_carryOut_91 : decode cX6_carryOut 91 = .ok (.iload_n 3, 1) := by decide +kernel
theorem dX6_carryOut_92 : decode cX6_carryOut 92 = .ok (.invokevirtual 172, 3) := by decide +kernel
theorem dX6_carryOut_95 : decode cX6_carryOut 95 = .ok (.invokevirtual 163, 3) := by decide +kernel
theorem dX6_carryOut_98 : decode cX6_carryOut 98 = .ok (.aload_n 0, 1) := by decide +kernel
theorem dX6_carryOut_99 : decode cX6_carryOut 99 = .ok (.getfield 19, 3) := by decide +kernel
theorem dX6_carryOut_102 : decode cX6_carryOut 102 = .ok (.bipush 24, 2) := by decide +kernel
theorem dX6_carryOut_104 : decode cX6_carryOut 104 = .ok (.invokevirtual 147, 3) := by decide +kernel
theorem dX6_carryOut_107 : decode cX6_carryOut 107 = .ok (.iinc 3 1, 3) := by decide +kernel
theorem dX6_carryOut_110 : decode cX6_carryOut 110 = .ok (.goto (-32), 3) := by decide +kernel
theorem dX6_carryOut_113 : decode cX6_carryOut 113 = .ok (.aload_n 0, 1) := by decide +kernel
theorem dX6_carryOut_114 : decode cX6_carryOut 114 = .ok (.getfield 19, 3) := by decide +kernel
theorem dX6_carryOut_117 : decode cX6_carryOut 117 = .ok (.getfield 169, 3) := by decide +kernel
theorem dX6_carryOut_120 : decode cX6_carryOut 120 = .ok (.iload_n 2, 1) := by decide +kernel
theorem dX6_carryOut_121 : decode cX6_carryOut 121 = .ok (.isub, 1) := by decide +kernel
theorem dX6_carryOut_122 : decode cX6_carryOut 122 = .ok (.ireturn, 1) := by decide +kernel
theorem dX6_routeAt_0 : decode cX6_routeAt 0 = .ok (.aload_n 0, 1) := by decide +kernel
theorem dX6_routeAt_1 : decode cX6_routeAt 1 = .ok (.getfield 19, 3) := by decide +kernel
theorem dX6_routeAt_4 : decode cX6_routeAt 4 = .ok (.iload_n 1, 1) := by decide +kernel
theorem dX6_routeAt_5 : decode cX6_routeAt 5 = .ok (.invokevirtual 104, 3) := by decide +kernel
theorem dX6_routeAt_8 : decode cX6_routeAt 8 = .ok (.ifCond .eq 13, 3) := by decide +kernel
theorem dX6_routeAt_11 : decode cX6_routeAt 11 = .ok (.iload_n 2, 1) := by decide +kernel
theorem dX6_routeAt_12 : decode cX6_routeAt 12 = .ok (.ifCond .lt 9, 3) := by decide +kernel
theorem dX6_routeAt_15 : decode cX6_routeAt 15 = .ok (.iload_n 2, 1) := by decide +kernel
theorem dX6_routeAt_16 : decode cX6_routeAt 16 = .ok (.bipush 6, 2) := by decide +kernel
theorem dX6_routeAt_18 : decode cX6_routeAt 18 = .ok (.if_icmp .le 5, 3) := by decide +kernel
theorem dX6_routeAt_21 : decode cX6_routeAt 21 = .ok (.iconst (-1), 1) := by decide +kernel
theorem dX6_routeAt_22 : decode cX6_routeAt 22 = .ok (.ireturn, 1) := by decide +kernel
theorem dX6_routeAt_23 : decode cX6_routeAt 23 = .ok (.iload_n 2, 1) := by decide +kernel
theorem dX6_routeAt_24 : decode cX6_routeAt 24 = .ok (.tableswitch 119 0 5 #[40, 49, 58, 64, 78, 94], 40) := by decide +kernel
theorem dX6_routeAt_64 : decode cX6_routeAt 64 = .ok (.aload_n 0, 1) := by decide +kernel
theorem dX6_routeAt_65 : decode cX6_routeAt 65 = .ok (.getfield 19, 3) := by decide +kernel
theorem dX6_routeAt_68 : decode cX6_routeAt 68 = .ok (.iload_n 1, 1) := by decide +kernel
theorem dX6_routeAt_69 : decode cX6_routeAt 69 = .ok (.invokevirtual 175, 3) := by decide +kernel
theorem dX6_routeAt_72 : decode cX6_routeAt 72 = .ok (.ireturn, 1) := by decide +kernel
theorem dX6_routeAt_73 : decode cX6_routeAt 73 = .ok (.aload_n 0, 1) := by decide +kernel
theorem dX6_routeAt_74 : decode cX6_routeAt 74 = .ok (.getfield 19, 3) := by decide +kernel
theorem dX6_routeAt_77 : decode cX6_routeAt 77 = .ok (.iload_n 1, 1) := by decide +kernel
theorem dX6_routeAt_78 : decode cX6_routeAt 78 = .ok (.invokevirtual 178, 3) := by decide +kernel
theorem dX6_routeAt_81 : decode cX6_routeAt 81 = .ok (.ireturn, 1) := by decide +kernel
theorem dX6_routeAt_82 : decode cX6_routeAt 82 = .ok (.aload_n 0, 1) := by decide +kernel
theorem dX6_routeAt_83 : decode cX6_routeAt 83 = .ok (.iload_n 1, 1) := by decide +kernel
theorem dX6_routeAt_84 : decode cX6_routeAt 84 = .ok (.invokevirtual 181, 3) := by decide +kernel
theorem dX6_routeAt_87 : decode cX6_routeAt 87 = .ok (.ireturn, 1) := by decide +kernel
theorem dX6_routeAt_88 : decode cX6_routeAt 88 = .ok (.aload_n 0, 1) := by decide +kernel
theorem dX6_routeAt_89 : decode cX6_routeAt 89 = .ok (.iload_n 1, 1) := by decide +kernel
theorem dX6_routeAt_90 : decode cX6_routeAt 90 = .ok (.invokevirtual 181, 3) := by decide +kernel
theorem dX6_routeAt_93 : decode cX6_routeAt 93 = .ok (.ifCond .ne 7, 3) := by decide +kernel
theorem dX6_routeAt_96 : decode cX6_routeAt 96 = .ok (.iconst 1, 1) := by decide +kernel
theorem dX6_routeAt_97 : decode cX6_routeAt 97 = .ok (.goto 4, 3) := by decide +kernel
theorem dX6_routeAt_100 : decode cX6_routeAt 100 = .ok (.iconst 0, 1) := by decide +kernel
theorem dX6_routeAt_101 : decode cX6_routeAt 101 = .ok (.ireturn, 1) := by decide +kernel
theorem dX6_routeAt_102 : decode cX6_routeAt 102 = .ok (.aload_n 0, 1) := by decide +kernel
theorem dX6_routeAt_103 : decode cX6_routeAt 103 = .ok (.getfield 36, 3) := by decide +kernel
theorem dX6_routeAt_106 : decode cX6_routeAt 106 = .ok (.aload_n 0, 1) := by decide +kernel
theorem dX6_routeAt_107 : decode cX6_routeAt 107 = .ok (.getfield 19, 3) := by decide +kernel
theorem dX6_routeAt_110 : decode cX6_routeAt 110 = .ok (.iload_n 1, 1) := by decide +kernel
theorem dX6_routeAt_111 : decode cX6_routeAt 111 = .ok (.sipush 1023, 3) := by decide +kernel
theorem dX6_routeAt_114 : decode cX6_routeAt 114 = .ok (.invokevirtual 184, 3) := by decide +kernel
theorem dX6_routeAt_117 : decode cX6_routeAt 117 = .ok (.ireturn, 1) := by decide +kernel
theorem dX6_routeAt_118 : decode cX6_routeAt 118 = .ok (.aload_n 0, 1) := by decide +kernel
theorem dX6_routeAt_119 : decode cX6_routeAt 119 = .ok (.getfield 36, 3) := by decide +kernel
theorem dX6_routeAt_122 : decode cX6_routeAt 122 = .ok (.aload_n 0, 1) := by decide +kernel
theorem dX6_routeAt_123 : decode cX6_routeAt 123 = .ok (.getfield 19, 3) := by decide +kernel
theorem dX6_routeAt_126 : decode cX6_routeAt 126 = .ok (.iload_n 1, 1) := by decide +kernel
theorem dX6_routeAt_127 : decode cX6_routeAt 127 = .ok (.aload_n 0, 1) := by decide +kernel
theorem dX6_routeAt_128 : decode cX6_routeAt 128 = .ok (.getfield 19, 3) := by decide +kernel
theorem dX6_routeAt_131 : decode cX6_routeAt 131 = .ok (.aload_n 0, 1) := by decide +kernel
theorem dX6_routeAt_132 : decode cX6_routeAt 132 = .ok (.iload_n 1, 1) := by decide +kernel
theorem dX6_routeAt_133 : decode cX6_routeAt 133 = .ok (.invokevirtual 188, 3) := by decide +kernel
theorem dX6_routeAt_136 : decode cX6_routeAt 136 = .ok (.invokevirtual 191, 3) := by decide +kernel
theorem dX6_routeAt_139 : decode cX6_routeAt 139 = .ok (.invokevirtual 184, 3) := by decide +kernel
theorem dX6_routeAt_142 : decode cX6_routeAt 142 = .ok (.ireturn, 1) := by decide +kernel
theorem dX6_routeAt_143 : decode cX6_routeAt 143 = .ok (.aload_n 0, 1) := by decide +kernel
theorem dX6_routeAt_144 : decode cX6_routeAt 144 = .ok (.iload_n 1, 1) := by decide +kernel
theorem dX6_routeAt_145 : decode cX6_routeAt 145 = .ok (.invokevirtual 188, 3) := by decide +kernel
theorem dX6_routeAt_148 : decode cX6_routeAt 148 = .ok (.ireturn, 1) := by decide +kernel
theorem dX6_lasts_0 : decode cX6_lasts 0 = .ok (.aload_n 0, 1) := by decide +kernel
theorem dX6_lasts_1 : decode cX6_lasts 1 = .ok (.getfield 19, 3) := by decide +kernel
theorem dX6_lasts_4 : decode cX6_lasts 4 = .ok (.iload_n 1, 1) := by decide +kernel
theorem dX6_lasts_5 : decode cX6_lasts 5 = .ok (.invokevirtual 104, 3) := by decide +kernel
theorem dX6_lasts_8 : decode cX6_lasts 8 = .ok (.ifCond .eq 14, 3) := by decide +kernel
theorem dX6_lasts_11 : decode cX6_lasts 11 = .ok (.aload_n 0, 1) := by decide +kernel
theorem dX6_lasts_12 : decode cX6_lasts 12 = .ok (.getfield 19, 3) := by decide +kernel
theorem dX6_lasts_15 : decode cX6_lasts 15 = .ok (.iload_n 2, 1) := by decide +kernel
theorem dX6_lasts_16 : decode cX6_lasts 16 = .ok (.invokevirtual 154, 3) := by decide +kernel
theorem dX6_lasts_19 : decode cX6_lasts 19 = .ok (.ifCond .ne 5, 3) := by decide +kernel
theorem dX6_lasts_22 : decode cX6_lasts 22 = .ok (.iconst (-1), 1) := by decide +kernel
theorem dX6_lasts_23 : decode cX6_lasts 23 = .ok (.ireturn, 1) := by decide +kernel
theorem dX6_lasts_24 : decode cX6_lasts 24 = .ok (.aload_n 0, 1) := by decide +kernel
theorem dX6_lasts_25 : decode cX6_lasts 25 = .ok (.getfield 36, 3) := by decide +kernel
theorem dX6_lasts_28 : decode cX6_lasts 28 = .ok (.aload_n 0, 1) := by decide +kernel
theorem dX6_lasts_29 : decode cX6_lasts 29 = .ok (.getfield 19, 3) := by decide +kernel
theorem dX6_lasts_32 : decode cX6_lasts 32 = .ok (.iload_n 1, 1) := by decide +kernel
theorem dX6_lasts_33 : decode cX6_lasts 33 = .ok (.iload_n 2, 1) := by decide +kernel
theorem dX6_lasts_34 : decode cX6_lasts 34 = .ok (.invokevirtual 184, 3) := by decide +kernel
theorem dX6_lasts_37 : decode cX6_lasts 37 = .ok (.ireturn, 1) := by decide +kernel
theorem dX6_reaching_0 : decode cX6_reaching 0 = .ok (.iload_n 1, 1) := by decide +kernel
theorem dX6_reaching_1 : decode cX6_reaching 1 = .ok (.invokestatic 72, 3) := by decide +kernel
theorem dX6_reaching_4 : decode cX6_reaching 4 = .ok (.ifCond .eq 15, 3) := by decide +kernel
theorem dX6_reaching_7 : decode cX6_reaching 7 = .ok (.aload_n 0, 1) := by decide +kernel
theorem dX6_reaching_8 : decode cX6_reaching 8 = .ok (.getfield 19, 3) := by decide +kernel
theorem dX6_reaching_11 : decode cX6_reaching 11 = .ok (.iload_n 1, 1) := by decide +kernel
theorem dX6_reaching_12 : decode cX6_reaching 12 = .ok (.iload_n 2, 1) := by decide +kernel
theorem dX6_reaching_13 : decode cX6_reaching 13 = .ok (.invokevirtual 194, 3) := by decide +kernel
theorem dX6_reaching_16 : decode cX6_reaching 16 = .ok (.goto 4, 3) := by decide +kernel
theorem dX6_reaching_19 : decode cX6_reaching 19 = .ok (.iconst (-1), 1) := by decide +kernel
theorem dX6_reaching_20 : decode cX6_reaching 20 = .ok (.ireturn, 1) := by decide +kernel
theorem dX6_allowed_0 : decode cX6_allowed 0 = .ok (.aload_n 0, 1) := by decide +kernel
theorem dX6_allowed_1 : decode cX6_allowed 1 = .ok (.getfield 19, 3) := by decide +kernel
theorem dX6_allowed_4 : decode cX6_allowed 4 = .ok (.iload_n 1, 1) := by decide +kernel
theorem dX6_allowed_5 : decode cX6_allowed 5 = .ok (.invokevirtual 154, 3) := by decide +kernel
theorem dX6_allowed_8 : decode cX6_allowed 8 = .ok (.ifCond .ne 5, 3) := by decide +kernel
theorem dX6_allowed_11 : decode cX6_allowed 11 = .ok (.iconst (-1), 1) := by decide +kernel
theorem dX6_allowed_12 : decode cX6_allowed 12 = .ok (.ireturn, 1) := by decide +kernel
theorem dX6_allowed_13 : decode cX6_allowed 13 = .ok (.aload_n 0, 1) := by decide +kernel
theorem dX6_allowed_14 : decode cX6_allowed 14 = .ok (.getfield 36, 3) := by decide +kernel
theorem dX6_allowed_17 : decode cX6_allowed 17 = .ok (.aload_n 0, 1) := by decide +kernel
theorem dX6_allowed_18 : decode cX6_allowed 18 = .ok (.getfield 19, 3) := by decide +kernel
theorem dX6_allowed_21 : decode cX6_allowed 21 = .ok (.invokevirtual 198, 3) := by decide +kernel
theorem dX6_allowed_24 : decode cX6_allowed 24 = .ok (.iconst 0, 1) := by decide +kernel
theorem dX6_allowed_25 : decode cX6_allowed 25 = .ok (.istore_n 2, 1) := by decide +kernel
theorem dX6_allowed_26 : decode cX6_allowed 26 = .ok (.iload_n 2, 1) := by decide +kernel
theorem dX6_allowed_27 : decode cX6_allowed 27 = .ok (.aload_n 0, 1) := by decide +kernel
theorem dX6_allowed_28 : decode cX6_allowed 28 = .ok (.getfield 19, 3) := by decide +kernel
theorem dX6_allowed_31 : decode cX6_allowed 31 = .ok (.getfield 69, 3) := by decide +kernel
theorem dX6_allowed_34 : decode cX6_allowed 34 = .ok (.if_icmp .ge 62, 3) := by decide +kernel
theorem dX6_allowed_37 : decode cX6_allowed 37 = .ok (.aload_n 0, 1) := by decide +kernel
theorem dX6_allowed_38 : decode cX6_allowed 38 = .ok (.getfield 19, 3) := by decide +kernel
theorem dX6_allowed_41 : decode cX6_allowed 41 = .ok (.iload_n 2, 1) := by decide +kernel
theorem dX6_allowed_42 : decode cX6_allowed 42 = .ok (.invokevirtual 175, 3) := by decide +kernel
theorem dX6_allowed_45 : decode cX6_allowed 45 = .ok (.istore_n 3, 1) := by decide +kernel
theorem dX6_allowed_46 : decode cX6_allowed 46 = .ok (.aload_n 0, 1) := by decide +kernel
theorem dX6_allowed_47 : decode cX6_allowed 47 = .ok (.getfield 19, 3) := by decide +kernel
theorem dX6_allowed_50 : decode cX6_allowed 50 = .ok (.iload_n 2, 1) := by decide +kernel
theorem dX6_allowed_51 : decode cX6_allowed 51 = .ok (.invokevirtual 178, 3) := by decide +kernel
theorem dX6_allowed_54 : decode cX6_allowed 54 = .ok (.istore 4, 2) := by decide +kernel
theorem dX6_allowed_56 : decode cX6_allowed 56 = .ok (.aload_n 0, 1) := by decide +kernel
theorem dX6_allowed_57 : decode cX6_allowed 57 = .ok (.getfield 36, 3) := by decide +kernel
theorem dX6_allowed_60 : decode cX6_allowed 60 = .ok (.iload_n 3, 1) := by decide +kernel
theorem dX6_allowed_61 : decode cX6_allowed 61 = .ok (.iload 4, 2) := by decide +kernel
theorem dX6_allowed_63 : decode cX6_allowed 63 = .ok (.sipush 1023, 3) := by decide +kernel
theorem dX6_allowed_66 : decode cX6_allowed 66 = .ok (.invokevirtual 201, 3) := by decide +kernel
theorem dX6_allowed_69 : decode cX6_allowed 69 = .ok (.ifCond .ne 21, 3) := by decide +kernel
theorem dX6_allowed_72 : decode cX6_allowed 72 = .ok (.aload_n 0, 1) := by decide +kernel
theorem dX6_allowed_73 : decode cX6_allowed 73 = .ok (.getfield 36, 3) := by decide +kernel
theorem dX6_allowed_76 : decode cX6_allowed 76 = .ok (.iload_n 3, 1) := by decide +kernel
theorem dX6_allowed_77 : decode cX6_allowed 77 = .ok (.iload 4, 2) := by decide +kernel
theorem dX6_allowed_79 : decode cX6_allowed 79 = .ok (.iload_n 1, 1) := by decide +kernel
theorem dX6_allowed_80 : decode cX6_allowed 80 = .ok (.iconst (-1), 1) := by decide +kernel
theorem dX6_allowed_81 : decode cX6_allowed 81 = .ok (.ixor, 1) := by decide +kernel
theorem dX6_allowed_82 : decode cX6_allowed 82 = .ok (.invokevirtual 201, 3) := by decide +kernel
theorem dX6_allowed_85 : decode cX6_allowed 85 = .ok (.ifCond .le 5, 3) := by decide +kernel
theorem dX6_allowed_88 : decode cX6_allowed 88 = .ok (.iconst 0, 1) := by decide +kernel
theorem dX6_allowed_89 : decode cX6_allowed 89 = .ok (.ireturn, 1) := by decide +kernel
theorem dX6_allowed_90 : decode cX6_allowed 90 = .ok (.iinc 2 1, 3) := by decide +kernel
theorem dX6_allowed_93 : decode cX6_allowed 93 = .ok (.goto (-67), 3) := by decide +kernel
theorem dX6_allowed_96 : decode cX6_allowed 96 = .ok (.iconst 1, 1) := by decide +kernel
theorem dX6_allowed_97 : decode cX6_allowed 97 = .ok (.ireturn, 1) := by decide +kernel
theorem dX6_days_0 : decode cX6_days 0 = .ok (.aload_n 0, 1) := by decide +kernel
theorem dX6_days_1 : decode cX6_days 1 = .ok (.getfield 43, 3) := by decide +kernel
theorem dX6_days_4 : decode cX6_days 4 = .ok (.aload_n 0, 1) := by decide +kernel
theorem dX6_days_5 : decode cX6_days 5 = .ok (.getfield 19, 3) := by decide +kernel
theorem dX6_days_8 : decode cX6_days 8 = .ok (.aload_n 0, 1) := by decide +kernel
theorem dX6_days_9 : decode cX6_days 9 = .ok (.getfield 36, 3) := by decide +kernel
theorem dX6_days_12 : decode cX6_days 12 = .ok (.invokevirtual 120, 3) := by decide +kernel
theorem dX6_days_15 : decode cX6_days 15 = .ok (.aload_n 0, 1) := by decide +kernel
theorem dX6_days_16 : decode cX6_days 16 = .ok (.getfield 43, 3) := by decide +kernel
theorem dX6_days_19 : decode cX6_days 19 = .ok (.getfield 166, 3) := by decide +kernel
theorem dX6_days_22 : decode cX6_days 22 = .ok (.ireturn, 1) := by decide +kernel
theorem dX6_day_0 : decode cX6_day 0 = .ok (.iload_n 1, 1) := by decide +kernel
theorem dX6_day_1 : decode cX6_day 1 = .ok (.ifCond .ge 5, 3) := by decide +kernel
theorem dX6_day_4 : decode cX6_day 4 = .ok (.iconst (-1), 1) := by decide +kernel
theorem dX6_day_5 : decode cX6_day 5 = .ok (.ireturn, 1) := by decide +kernel
theorem dX6_day_6 : decode cX6_day 6 = .ok (.aload_n 0, 1) := by decide +kernel
theorem dX6_day_7 : decode cX6_day 7 = .ok (.getfield 43, 3) := by decide +kernel
theorem dX6_day_10 : decode cX6_day 10 = .ok (.aload_n 0, 1) := by decide +kernel
theorem dX6_day_11 : decode cX6_day 11 = .ok (.getfield 19, 3) := by decide +kernel
theorem dX6_day_14 : decode cX6_day 14 = .ok (.aload_n 0, 1) := by decide +kernel
theorem dX6_day_15 : decode cX6_day 15 = .ok (.getfield 36, 3) := by decide +kernel
theorem dX6_day_18 : decode cX6_day 18 = .ok (.invokevirtual 120, 3) := by decide +kernel
theorem dX6_day_21 : decode cX6_day 21 = .ok (.aload_n 0, 1) := by decide +kernel
theorem dX6_day_22 : decode cX6_day 22 = .ok (.getfield 43, 3) := by decide +kernel
theorem dX6_day_25 : decode cX6_day 25 = .ok (.iload_n 1, 1) := by decide +kernel
theorem dX6_day_26 : decode cX6_day 26 = .ok (.invokevirtual 172, 3) := by decide +kernel
theorem dX6_day_29 : decode cX6_day 29 = .ok (.ireturn, 1) := by decide +kernel
theorem dX6_ifLamp_0 : decode cX6_ifLamp 0 = .ok (.aload_n 0, 1) := by decide +kernel
theorem dX6_ifLamp_1 : decode cX6_ifLamp 1 = .ok (.getfield 19, 3) := by decide +kernel
theorem dX6_ifLamp_4 : decode cX6_ifLamp 4 = .ok (.iload_n 1, 1) := by decide +kernel
theorem dX6_ifLamp_5 : decode cX6_ifLamp 5 = .ok (.invokevirtual 88, 3) := by decide +kernel
theorem dX6_ifLamp_8 : decode cX6_ifLamp 8 = .ok (.ifnull 10, 3) := by decide +kernel
theorem dX6_ifLamp_11 : decode cX6_ifLamp 11 = .ok (.iload_n 2, 1) := by decide +kernel
theorem dX6_ifLamp_12 : decode cX6_ifLamp 12 = .ok (.invokestatic 75, 3) := by decide +kernel
theorem dX6_ifLamp_15 : decode cX6_ifLamp 15 = .ok (.ifCond .ne 5, 3) := by decide +kernel
theorem dX6_ifLamp_18 : decode cX6_ifLamp 18 = .ok (.iconst (-1), 1) := by decide +kernel
theorem dX6_ifLamp_19 : decode cX6_ifLamp 19 = .ok (.ireturn, 1) := by decide +kernel
theorem dX6_ifLamp_20 : decode cX6_ifLamp 20 = .ok (.aload_n 0, 1) := by decide +kernel
theorem dX6_ifLamp_21 : decode cX6_ifLamp 21 = .ok (.iload_n 1, 1) := by decide +kernel
theorem dX6_ifLamp_22 : decode cX6_ifLamp 22 = .ok (.iload_n 2, 1) := by decide +kernel
theorem dX6_ifLamp_23 : decode cX6_ifLamp 23 = .ok (.invokevirtual 205, 3) := by decide +kernel
theorem dX6_ifLamp_26 : decode cX6_ifLamp 26 = .ok (.ireturn, 1) := by decide +kernel
theorem dX6_bestSwap_0 : decode cX6_bestSwap 0 = .ok (.iload_n 1, 1) := by decide +kernel
theorem dX6_bestSwap_1 : decode cX6_bestSwap 1 = .ok (.invokestatic 75, 3) := by decide +kernel
theorem dX6_bestSwap_4 : decode cX6_bestSwap 4 = .ok (.ifCond .ne 5, 3) := by decide +kernel
theorem dX6_bestSwap_7 : decode cX6_bestSwap 7 = .ok (.iconst (-1), 1) := by decide +kernel
theorem dX6_bestSwap_8 : decode cX6_bestSwap 8 = .ok (.ireturn, 1) := by decide +kernel
theorem dX6_bestSwap_9 : decode cX6_bestSwap 9 = .ok (.bipush (-9), 2) := by decide +kernel
theorem dX6_bestSwap_11 : decode cX6_bestSwap 11 = .ok (.istore_n 2, 1) := by decide +kernel
theorem dX6_bestSwap_12 : decode cX6_bestSwap 12 = .ok (.iconst 0, 1) := by decide +kernel
theorem dX6_bestSwap_13 : decode cX6_bestSwap 13 = .ok (.istore_n 3, 1) := by decide +kernel
theorem dX6_bestSwap_14 : decode cX6_bestSwap 14 = .ok (.iconst 0, 1) := by decide +kernel
theorem dX6_bestSwap_15 : decode cX6_bestSwap 15 = .ok (.istore 4, 2) := by decide +kernel
theorem dX6_bestSwap_17 : decode cX6_bestSwap 17 = .ok (.iload 4, 2) := by decide +kernel
theorem dX6_bestSwap_19 : decode cX6_bestSwap 19 = .ok (.aload_n 0, 1) := by decide +kernel
theorem dX6_bestSwap_20 : decode cX6_bestSwap 20 = .ok (.getfield 19, 3) := by decide +kernel
theorem dX6_bestSwap_23 : decode cX6_bestSwap 23 = .ok (.getfield 66, 3) := by decide +kernel
theorem dX6_bestSwap_26 : decode cX6_bestSwap 26 = .ok (.if_icmp .ge 52, 3) := by decide +kernel
theorem dX6_bestSwap_29 : decode cX6_bestSwap 29 = .ok (.aload_n 0, 1) := by decide +kernel
theorem dX6_bestSwap_30 : decode cX6_bestSwap 30 = .ok (.iload 4, 2) := by decide +kernel
theorem dX6_bestSwap_32 : decode cX6_bestSwap 32 = .ok (.iload_n 1, 1) := by decide +kernel
theorem dX6_bestSwap_33 : decode cX6_bestSwap 33 = .ok (.invokevirtual 205, 3) := by decide +kernel
theorem dX6_bestSwap_36 : decode cX6_bestSwap 36 = .ok (.istore 5, 2) := by decide +kernel
theorem dX6_bestSwap_38 : decode cX6_bestSwap 38 = .ok (.iload 5, 2) := by decide +kernel
theorem dX6_bestSwap_40 : decode cX6_bestSwap 40 = .ok (.bipush (-9), 2) := by decide +kernel
theorem dX6_bestSwap_42 : decode cX6_bestSwap 42 = .ok (.if_icmp .ne 8, 3) := by decide +kernel
theorem dX6_bestSwap_45 : decode cX6_bestSwap 45 = .ok (.bipush 11, 2) := by decide +kernel
theorem dX6_bestSwap_47 : decode cX6_bestSwap 47 = .ok (.goto 5, 3) := by decide +kernel
theorem dX6_bestSwap_50 : decode cX6_bestSwap 50 = .ok (.iload 5, 2) := by decide +kernel
theorem dX6_bestSwap_52 : decode cX6_bestSwap 52 = .ok (.istore 6, 2) := by decide +kernel
theorem dX6_bestSwap_54 : decode cX6_bestSwap 54 = .ok (.iload_n 2, 1) := by decide +kernel
theorem dX6_bestSwap_55 : decode cX6_bestSwap 55 = .ok (.bipush (-9), 2) := by decide +kernel
theorem dX6_bestSwap_57 : decode cX6_bestSwap 57 = .ok (.if_icmp .eq 9, 3) := by decide +kernel
theorem dX6_bestSwap_60 : decode cX6_bestSwap 60 = .ok (.iload 6, 2) := by decide +kernel
theorem dX6_bestSwap_62 : decode cX6_bestSwap 62 = .ok (.iload_n 3, 1) := by decide +kernel
theorem dX6_bestSwap_63 : decode cX6_bestSwap 63 = .ok (.if_icmp .ge 9, 3) := by decide +kernel
theorem dX6_bestSwap_66 : decode cX6_bestSwap 66 = .ok (.iload 4, 2) := by decide +kernel
theorem dX6_bestSwap_68 : decode cX6_bestSwap 68 = .ok (.istore_n 2, 1) := by decide +kernel
theorem dX6_bestSwap_69 : decode cX6_bestSwap 69 = .ok (.iload 6, 2) := by decide +kernel
theorem dX6_bestSwap_71 : decode cX6_bestSwap 71 = .ok (.istore_n 3, 1) := by decide +kernel
theorem dX6_bestSwap_72 : decode cX6_bestSwap 72 = .ok (.iinc 4 1, 3) := by decide +kernel
theorem dX6_bestSwap_75 : decode cX6_bestSwap 75 = .ok (.goto (-58), 3) := by decide +kernel
theorem dX6_bestSwap_78 : decode cX6_bestSwap 78 = .ok (.iload_n 2, 1) := by decide +kernel
theorem dX6_bestSwap_79 : decode cX6_bestSwap 79 = .ok (.ireturn, 1) := by decide +kernel
theorem dX6_told_0 : decode cX6_told 0 = .ok (.iload_n 1, 1) := by decide +kernel
theorem dX6_told_1 : decode cX6_told 1 = .ok (.tableswitch 183 0 13 #[71, 79, 87, 95, 100, 108, 116, 125, 134, 143, 151, 159, 167, 175], 71) := by decide +kernel
theorem dX6_told_72 : decode cX6_told 72 = .ok (.aload_n 0, 1) := by decide +kernel
theorem dX6_told_73 : decode cX6_told 73 = .ok (.getfield 19, 3) := by decide +kernel
theorem dX6_told_76 : decode cX6_told 76 = .ok (.getfield 66, 3) := by decide +kernel
theorem dX6_told_79 : decode cX6_told 79 = .ok (.ireturn, 1) := by decide +kernel
theorem dX6_told_80 : decode cX6_told 80 = .ok (.aload_n 0, 1) := by decide +kernel
theorem dX6_told_81 : decode cX6_told 81 = .ok (.getfield 19, 3) := by decide +kernel
theorem dX6_told_84 : decode cX6_told 84 = .ok (.invokevirtual 150, 3) := by decide +kernel
theorem dX6_told_87 : decode cX6_told 87 = .ok (.ireturn, 1) := by decide +kernel
theorem dX6_told_88 : decode cX6_told 88 = .ok (.aload_n 0, 1) := by decide +kernel
theorem dX6_told_89 : decode cX6_told 89 = .ok (.getfield 19, 3) := by decide +kernel
theorem dX6_told_92 : decode cX6_told 92 = .ok (.getfield 69, 3) := by decide +kernel
theorem dX6_told_95 : decode cX6_told 95 = .ok (.ireturn, 1) := by decide +kernel
theorem dX6_told_96 : decode cX6_told 96 = .ok (.aload_n 0, 1) := by decide +kernel
theorem dX6_told_97 : decode cX6_told 97 = .ok (.invokevirtual 208, 3) := by decide +kernel
theorem dX6_told_100 : decode cX6_told 100 = .ok (.ireturn, 1) := by decide +kernel
theorem dX6_told_101 : decode cX6_told 101 = .ok (.aload_n 0, 1) := by decide +kernel
theorem dX6_told_102 : decode cX6_told 102 = .ok (.getfield 19, 3) := by decide +kernel
theorem dX6_told_105 : decode cX6_told 105 = .ok (.getfield 110, 3) := by decide +kernel
theorem dX6_told_108 : decode cX6_told 108 = .ok (.ireturn, 1) := by decide +kernel
theorem dX6_told_109 : decode cX6_told 109 = .ok (.aload_n 0, 1) := by decide +kernel
theorem dX6_told_110 : decode cX6_told 110 = .ok (.getfield 19, 3) := by decide +kernel
theorem dX6_told_113 : decode cX6_told 113 = .ok (.getfield 143, 3) := by decide +kernel
theorem dX6_told_116 : decode cX6_told 116 = .ok (.ireturn, 1) := by decide +kernel
theorem dX6_told_117 : decode cX6_told 117 = .ok (.aload_n 0, 1) := by decide +kernel
theorem dX6_told_118 : decode cX6_told 118 = .ok (.getfield 19, 3) := by decide +kernel
theorem dX6_told_121 : decode cX6_told 121 = .ok (.iconst 0, 1) := by decide +kernel
theorem dX6_told_122 : decode cX6_told 122 = .ok (.invokevirtual 113, 3) := by decide +kernel
theorem dX6_told_125 : decode cX6_told 125 = .ok (.ireturn, 1) := by decide +kernel
theorem dX6_told_126 : decode cX6_told 126 = .ok (.aload_n 0, 1) := by decide +kernel
theorem dX6_told_127 : decode cX6_told 127 = .ok (.getfield 19, 3) := by decide +kernel
theorem dX6_told_130 : decode cX6_told 130 = .ok (.iconst 1, 1) := by decide +kernel
theorem dX6_told_131 : decode cX6_told 131 = .ok (.invokevirtual 113, 3) := by decide +kernel
theorem dX6_told_134 : decode cX6_told 134 = .ok (.ireturn, 1) := by decide +kernel
theorem dX6_told_135 : decode cX6_told 135 = .ok (.aload_n 0, 1) := by decide +kernel
theorem dX6_told_136 : decode cX6_told 136 = .ok (.getfield 19, 3) := by decide +kernel
theorem dX6_told_139 : decode cX6_told 139 = .ok (.iconst 2, 1) := by decide +kernel
theorem dX6_told_140 : decode cX6_told 140 = .ok (.invokevirtual 113, 3) := by decide +kernel
theorem dX6_told_143 : decode cX6_told 143 = .ok (.ireturn, 1) := by decide +kernel
theorem dX6_told_144 : decode cX6_told 144 = .ok (.aload_n 0, 1) := by decide +kernel
theorem dX6_told_145 : decode cX6_told 145 = .ok (.getfield 19, 3) := by decide +kernel
theorem dX6_told_148 : decode cX6_told 148 = .ok (.invokevirtual 211, 3) := by decide +kernel
theorem dX6_told_151 : decode cX6_told 151 = .ok (.ireturn, 1) := by decide +kernel
theorem dX6_told_152 : decode cX6_told 152 = .ok (.aload_n 0, 1) := by decide +kernel
theorem dX6_told_153 : decode cX6_told 153 = .ok (.getfield 19, 3) := by decide +kernel
theorem dX6_told_156 : decode cX6_told 156 = .ok (.getfield 160, 3) := by decide +kernel
theorem dX6_told_159 : decode cX6_told 159 = .ok (.ireturn, 1) := by decide +kernel
theorem dX6_told_160 : decode cX6_told 160 = .ok (.aload_n 0, 1) := by decide +kernel
theorem dX6_told_161 : decode cX6_told 161 = .ok (.getfield 19, 3) := by decide +kernel
theorem dX6_told_164 : decode cX6_told 164 = .ok (.getfield 169, 3) := by decide +kernel
theorem dX6_told_167 : decode cX6_told 167 = .ok (.ireturn, 1) := by decide +kernel
theorem dX6_told_168 : decode cX6_told 168 = .ok (.aload_n 0, 1) := by decide +kernel
theorem dX6_told_169 : decode cX6_told 169 = .ok (.getfield 12, 3) := by decide +kernel
theorem dX6_told_172 : decode cX6_told 172 = .ok (.getfield 51, 3) := by decide +kernel
theorem dX6_told_175 : decode cX6_told 175 = .ok (.ireturn, 1) := by decide +kernel
theorem dX6_told_176 : decode cX6_told 176 = .ok (.aload_n 0, 1) := by decide +kernel
theorem dX6_told_177 : decode cX6_told 177 = .ok (.getfield 29, 3) := by decide +kernel
theorem dX6_told_180 : decode cX6_told 180 = .ok (.getfield 214, 3) := by decide +kernel
theorem dX6_told_183 : decode cX6_told 183 = .ok (.ireturn, 1) := by decide +kernel
theorem dX6_told_184 : decode cX6_told 184 = .ok (.iconst (-1), 1) := by decide +kernel
theorem dX6_told_185 : decode cX6_told 185 = .ok (.ireturn, 1) := by decide +kernel
theorem dX6_undo_0 : decode cX6_undo 0 = .ok (.aload_n 0, 1) := by decide +kernel
theorem dX6_undo_1 : decode cX6_undo 1 = .ok (.getfield 29, 3) := by decide +kernel
theorem dX6_undo_4 : decode cX6_undo 4 = .ok (.getfield 214, 3) := by decide +kernel
theorem dX6_undo_7 : decode cX6_undo 7 = .ok (.ifCond .ne 6, 3) := by decide +kernel
theorem dX6_undo_10 : decode cX6_undo 10 = .ok (.bipush (-2), 2) := by decide +kernel
theorem dX6_undo_12 : decode cX6_undo 12 = .ok (.ireturn, 1) := by decide +kernel
theorem dX6_undo_13 : decode cX6_undo 13 = .ok (.aload_n 0, 1) := by decide +kernel
theorem dX6_undo_14 : decode cX6_undo 14 = .ok (.getfield 29, 3) := by decide +kernel
theorem dX6_undo_17 : decode cX6_undo 17 = .ok (.aload_n 0, 1) := by decide +kernel
theorem dX6_undo_18 : decode cX6_undo 18 = .ok (.getfield 19, 3) := by decide +kernel
theorem dX6_undo_21 : decode cX6_undo 21 = .ok (.invokevirtual 217, 3) := by decide +kernel
theorem dX6_undo_24 : decode cX6_undo 24 = .ok (.aload_n 0, 1) := by decide +kernel
theorem dX6_undo_25 : decode cX6_undo 25 = .ok (.getfield 43, 3) := by decide +kernel
theorem dX6_undo_28 : decode cX6_undo 28 = .ok (.invokevirtual 220, 3) := by decide +kernel
theorem dX6_undo_31 : decode cX6_undo 31 = .ok (.aload_n 0, 1) := by decide +kernel
theorem dX6_undo_32 : decode cX6_undo 32 = .ok (.getfield 29, 3) := by decide +kernel
theorem dX6_undo_35 : decode cX6_undo 35 = .ok (.getfield 214, 3) := by decide +kernel
theorem dX6_undo_38 : decode cX6_undo 38 = .ok (.ireturn, 1) := by decide +kernel
theorem dX6_isPlace_0 : decode cX6_isPlace 0 = .ok (.iload_n 0, 1) := by decide +kernel
theorem dX6_isPlace_1 : decode cX6_isPlace 1 = .ok (.ifCond .lt 14, 3) := by decide +kernel
theorem dX6_isPlace_4 : decode cX6_isPlace 4 = .ok (.iload_n 0, 1) := by decide +kernel
theorem dX6_isPlace_5 : decode cX6_isPlace 5 = .ok (.sipush 200, 3) := by decide +kernel
theorem dX6_isPlace_8 : decode cX6_isPlace 8 = .ok (.if_icmp .gt 7, 3) := by decide +kernel
theorem dX6_isPlace_11 : decode cX6_isPlace 11 = .ok (.iconst 1, 1) := by decide +kernel
theorem dX6_isPlace_12 : decode cX6_isPlace 12 = .ok (.goto 4, 3) := by decide +kernel
theorem dX6_isPlace_15 : decode cX6_isPlace 15 = .ok (.iconst 0, 1) := by decide +kernel
theorem dX6_isPlace_16 : decode cX6_isPlace 16 = .ok (.ireturn, 1) := by decide +kernel
theorem dX6_isLamp_0 : decode cX6_isLamp 0 = .ok (.iload_n 0, 1) := by decide +kernel
theorem dX6_isLamp_1 : decode cX6_isLamp 1 = .ok (.ifCond .lt 12, 3) := by decide +kernel
theorem dX6_isLamp_4 : decode cX6_isLamp 4 = .ok (.iload_n 0, 1) := by decide +kernel
theorem dX6_isLamp_5 : decode cX6_isLamp 5 = .ok (.iconst 2, 1) := by decide +kernel
theorem dX6_isLamp_6 : decode cX6_isLamp 6 = .ok (.if_icmp .gt 7, 3) := by decide +kernel
theorem dX6_isLamp_9 : decode cX6_isLamp 9 = .ok (.iconst 1, 1) := by decide +kernel
theorem dX6_isLamp_10 : decode cX6_isLamp 10 = .ok (.goto 4, 3) := by decide +kernel
theorem dX6_isLamp_13 : decode cX6_isLamp 13 = .ok (.iconst 0, 1) := by decide +kernel
theorem dX6_isLamp_14 : decode cX6_isLamp 14 = .ok (.ireturn, 1) := by decide +kernel
theorem dX6_remember_0 : decode cX6_remember 0 = .ok (.aload_n 0, 1) := by decide +kernel
theorem dX6_remember_1 : decode cX6_remember 1 = .ok (.getfield 29, 3) := by decide +kernel
theorem dX6_remember_4 : decode cX6_remember 4 = .ok (.aload_n 0, 1) := by decide +kernel
theorem dX6_remember_5 : decode cX6_remember 5 = .ok (.getfield 19, 3) := by decide +kernel
theorem dX6_remember_8 : decode cX6_remember 8 = .ok (.invokevirtual 245, 3) := by decide +kernel
theorem dX6_remember_11 : decode cX6_remember 11 = .ok (.aload_n 0, 1) := by decide +kernel
theorem dX6_remember_12 : decode cX6_remember 12 = .ok (.getfield 43, 3) := by decide +kernel
theorem dX6_remember_15 : decode cX6_remember 15 = .ok (.invokevirtual 220, 3) := by decide +kernel
theorem dX6_remember_18 : decode cX6_remember 18 = .ok (.return_, 1) := by decide +kernel
theorem dX6_darkPlaces_0 : decode cX6_darkPlaces 0 = .ok (.aload_n 0, 1) := by decide +kernel
theorem dX6_darkPlaces_1 : decode cX6_darkPlaces 1 = .ok (.getfield 36, 3) := by decide +kernel
theorem dX6_darkPlaces_4 : decode cX6_darkPlaces 4 = .ok (.aload_n 0, 1) := by decide +kernel
theorem dX6_darkPlaces_5 : decode cX6_darkPlaces 5 = .ok (.getfield 19, 3) := by decide +kernel
theorem dX6_darkPlaces_8 : decode cX6_darkPlaces 8 = .ok (.invokevirtual 198, 3) := by decide +kernel
theorem dX6_darkPlaces_11 : decode cX6_darkPlaces 11 = .ok (.aload_n 0, 1) := by decide +kernel
theorem dX6_darkPlaces_12 : decode cX6_darkPlaces 12 = .ok (.getfield 36, 3) := by decide +kernel
theorem dX6_darkPlaces_15 : decode cX6_darkPlaces 15 = .ok (.aload_n 0, 1) := by decide +kernel
theorem dX6_darkPlaces_16 : decode cX6_darkPlaces 16 = .ok (.getfield 19, 3) := by decide +kernel
theorem dX6_darkPlaces_19 : decode cX6_darkPlaces 19 = .ok (.iload_n 1, 1) := by decide +kernel
theorem dX6_darkPlaces_20 : decode cX6_darkPlaces 20 = .ok (.invokevirtual 175, 3) := by decide +kernel
theorem dX6_darkPlaces_23 : decode cX6_darkPlaces 23 = .ok (.aload_n 0, 1) := by decide +kernel
theorem dX6_darkPlaces_24 : decode cX6_darkPlaces 24 = .ok (.getfield 19, 3) := by decide +kernel
theorem dX6_darkPlaces_27 : decode cX6_darkPlaces 27 = .ok (.iload_n 1, 1) := by decide +kernel
theorem dX6_darkPlaces_28 : decode cX6_darkPlaces 28 = .ok (.invokevirtual 178, 3) := by decide +kernel
theorem dX6_darkPlaces_31 : decode cX6_darkPlaces 31 = .ok (.sipush 1023, 3) := by decide +kernel
theorem dX6_darkPlaces_34 : decode cX6_darkPlaces 34 = .ok (.invokevirtual 201, 3) := by decide +kernel
theorem dX6_darkPlaces_37 : decode cX6_darkPlaces 37 = .ok (.ireturn, 1) := by decide +kernel
theorem dX6_countSafe_0 : decode cX6_countSafe 0 = .ok (.iconst 0, 1) := by decide +kernel
theorem dX6_countSafe_1 : decode cX6_countSafe 1 = .ok (.istore_n 1, 1) := by decide +kernel
theorem dX6_countSafe_2 : decode cX6_countSafe 2 = .ok (.iconst 0, 1) := by decide +kernel
theorem dX6_countSafe_3 : decode cX6_countSafe 3 = .ok (.istore_n 2, 1) := by decide +kernel
theorem dX6_countSafe_4 : decode cX6_countSafe 4 = .ok (.iload_n 2, 1) := by decide +kernel
theorem dX6_countSafe_5 : decode cX6_countSafe 5 = .ok (.aload_n 0, 1) := by decide +kernel
theorem dX6_countSafe_6 : decode cX6_countSafe 6 = .ok (.getfield 19, 3) := by decide +kernel
theorem dX6_countSafe_9 : decode cX6_countSafe 9 = .ok (.getfield 69, 3) := by decide +kernel
theorem dX6_countSafe_12 : decode cX6_countSafe 12 = .ok (.if_icmp .ge 20, 3) := by decide +kernel
theorem dX6_countSafe_15 : decode cX6_countSafe 15 = .ok (.aload_n 0, 1) := by decide +kernel
theorem dX6_countSafe_16 : decode cX6_countSafe 16 = .ok (.iload_n 2, 1) := by decide +kernel
theorem dX6_countSafe_17 : decode cX6_countSafe 17 = .ok (.invokevirtual 181, 3) := by decide +kernel
theorem dX6_countSafe_20 : decode cX6_countSafe 20 = .ok (.ifCond .ne 6, 3) := by decide +kernel
theorem dX6_countSafe_23 : decode cX6_countSafe 23 = .ok (.iinc 1 1, 3) := by decide +kernel
theorem dX6_countSafe_26 : decode cX6_countSafe 26 = .ok (.iinc 2 1, 3) := by decide +kernel
theorem dX6_countSafe_29 : decode cX6_countSafe 29 = .ok (.goto (-25), 3) := by decide +kernel
theorem dX6_countSafe_32 : decode cX6_countSafe 32 = .ok (.iload_n 1, 1) := by decide +kernel
theorem dX6_countSafe_33 : decode cX6_countSafe 33 = .ok (.ireturn, 1) := by decide +kernel
theorem dX6_worstCircuit_0 : decode cX6_worstCircuit 0 = .ok (.iconst 0, 1) := by decide +kernel
theorem dX6_worstCircuit_1 : decode cX6_worstCircuit 1 = .ok (.istore_n 2, 1) := by decide +kernel
theorem dX6_worstCircuit_2 : decode cX6_worstCircuit 2 = .ok (.aload_n 0, 1) := by decide +kernel
theorem dX6_worstCircuit_3 : decode cX6_worstCircuit 3 = .ok (.getfield 36, 3) := by decide +kernel
theorem dX6_worstCircuit_6 : decode cX6_worstCircuit 6 = .ok (.aload_n 0, 1) := by decide +kernel
theorem dX6_worstCircuit_7 : decode cX6_worstCircuit 7 = .ok (.getfield 19, 3) := by decide +kernel
theorem dX6_worstCircuit_10 : decode cX6_worstCircuit 10 = .ok (.iload_n 1, 1) := by decide +kernel
theorem dX6_worstCircuit_11 : decode cX6_worstCircuit 11 = .ok (.aload_n 0, 1) := by decide +kernel
theorem dX6_worstCircuit_12 : decode cX6_worstCircuit 12 = .ok (.getfield 19, 3) := by decide +kernel
theorem dX6_worstCircuit_15 : decode cX6_worstCircuit 15 = .ok (.iconst 0, 1) := by decide +kernel
theorem dX6_worstCircuit_16 : decode cX6_worstCircuit 16 = .ok (.invokevirtual 191, 3) := by decide +kernel
theorem dX6_worstCircuit_19 : decode cX6_worstCircuit 19 = .ok (.invokevirtual 184, 3) := by decide +kernel
theorem dX6_worstCircuit_22 : decode cX6_worstCircuit 22 = .ok (.istore_n 3, 1) := by decide +kernel
theorem dX6_worstCircuit_23 : decode cX6_worstCircuit 23 = .ok (.iconst 1, 1) := by decide +kernel
theorem dX6_worstCircuit_24 : decode cX6_worstCircuit 24 = .ok (.istore 4, 2) := by decide +kernel
theorem dX6_worstCircuit_26 : decode cX6_worstCircuit 26 = .ok (.iload 4, 2) := by decide +kernel
theorem dX6_worstCircuit_28 : decode cX6_worstCircuit 28 = .ok (.iconst 3, 1) := by decide +kernel
theorem dX6_worstCircuit_29 : decode cX6_worstCircuit 29 = .ok (.if_icmp .gt 44, 3) := by decide +kernel
theorem dX6_worstCircuit_32 : decode cX6_worstCircuit 32 = .ok (.aload_n 0, 1) := by decide +kernel
theorem dX6_worstCircuit_33 : decode cX6_worstCircuit 33 = .ok (.getfield 36, 3) := by decide +kernel
theorem dX6_worstCircuit_36 : decode cX6_worstCircuit 36 = .ok (.aload_n 0, 1) := by decide +kernel
theorem dX6_worstCircuit_37 : decode cX6_worstCircuit 37 = .ok (.getfield 19, 3) := by decide +kernel
theorem dX6_worstCircuit_40 : decode cX6_worstCircuit 40 = .ok (.iload_n 1, 1) := by decide +kernel
theorem dX6_worstCircuit_41 : decode cX6_worstCircuit 41 = .ok (.aload_n 0, 1) := by decide +kernel
theorem dX6_worstCircuit_42 : decode cX6_worstCircuit 42 = .ok (.getfield 19, 3) := by decide +kernel
theorem dX6_worstCircuit_45 : decode cX6_worstCircuit 45 = .ok (.iload 4, 2) := by decide +kernel
theorem dX6_worstCircuit_47 : decode cX6_worstCircuit 47 = .ok (.invokevirtual 191, 3) := by decide +kernel
theorem dX6_worstCircuit_50 : decode cX6_worstCircuit 50 = .ok (.invokevirtual 184, 3) := by decide +kernel
theorem dX6_worstCircuit_53 : decode cX6_worstCircuit 53 = .ok (.istore 5, 2) := by decide +kernel
theorem dX6_worstCircuit_55 : decode cX6_worstCircuit 55 = .ok (.iload 5, 2) := by decide +kernel
theorem dX6_worstCircuit_57 : decode cX6_worstCircuit 57 = .ok (.iload_n 3, 1) := by decide +kernel
theorem dX6_worstCircuit_58 : decode cX6_worstCircuit 58 = .ok (.if_icmp .ge 9, 3) := by decide +kernel
theorem dX6_worstCircuit_61 : decode cX6_worstCircuit 61 = .ok (.iload 4, 2) := by decide +kernel
theorem dX6_worstCircuit_63 : decode cX6_worstCircuit 63 = .ok (.istore_n 2, 1) := by decide +kernel
theorem dX6_worstCircuit_64 : decode cX6_worstCircuit 64 = .ok (.iload 5, 2) := by decide +kernel
theorem dX6_worstCircuit_66 : decode cX6_worstCircuit 66 = .ok (.istore_n 3, 1) := by decide +kernel
theorem dX6_worstCircuit_67 : decode cX6_worstCircuit 67 = .ok (.iinc 4 1, 3) := by decide +kernel
theorem dX6_worstCircuit_70 : decode cX6_worstCircuit 70 = .ok (.goto (-44), 3) := by decide +kernel
theorem dX6_worstCircuit_73 : decode cX6_worstCircuit 73 = .ok (.iload_n 2, 1) := by decide +kernel
theorem dX6_worstCircuit_74 : decode cX6_worstCircuit 74 = .ok (.ireturn, 1) := by decide +kernel
theorem dX6_daysWithLamp_0 : decode cX6_daysWithLamp 0 = .ok (.aload_n 0, 1) := by decide +kernel
theorem dX6_daysWithLamp_1 : decode cX6_daysWithLamp 1 = .ok (.getfield 23, 3) := by decide +kernel
theorem dX6_daysWithLamp_4 : decode cX6_daysWithLamp 4 = .ok (.aload_n 0, 1) := by decide +kernel
theorem dX6_daysWithLamp_5 : decode cX6_daysWithLamp 5 = .ok (.getfield 19, 3) := by decide +kernel
theorem dX6_daysWithLamp_8 : decode cX6_daysWithLamp 8 = .ok (.invokevirtual 248, 3) := by decide +kernel
theorem dX6_daysWithLamp_11 : decode cX6_daysWithLamp 11 = .ok (.aload_n 0, 1) := by decide +kernel
theorem dX6_daysWithLamp_12 : decode cX6_daysWithLamp 12 = .ok (.getfield 23, 3) := by decide +kernel
theorem dX6_daysWithLamp_15 : decode cX6_daysWithLamp 15 = .ok (.iload_n 1, 1) := by decide +kernel
theorem dX6_daysWithLamp_16 : decode cX6_daysWithLamp 16 = .ok (.invokevirtual 88, 3) := by decide +kernel
theorem dX6_daysWithLamp_19 : decode cX6_daysWithLamp 19 = .ok (.astore_n 3, 1) := by decide +kernel
theorem dX6_daysWithLamp_20 : decode cX6_daysWithLamp 20 = .ok (.aload_n 3, 1) := by decide +kernel
theorem dX6_daysWithLamp_21 : decode cX6_daysWithLamp 21 = .ok (.ifnonnull 6, 3) := by decide +kernel
theorem dX6_daysWithLamp_24 : decode cX6_daysWithLamp 24 = .ok (.bipush (-9), 2) := by decide +kernel
theorem dX6_daysWithLamp_26 : decode cX6_daysWithLamp 26 = .ok (.ireturn, 1) := by decide +kernel
theorem dX6_daysWithLamp_27 : decode cX6_daysWithLamp 27 = .ok (.aload_n 3, 1) := by decide +kernel
theorem dX6_daysWithLamp_28 : decode cX6_daysWithLamp 28 = .ok (.iload_n 2, 1) := by decide +kernel
theorem dX6_daysWithLamp_29 : decode cX6_daysWithLamp 29 = .ok (.invokevirtual 131, 3) := by decide +kernel
theorem dX6_daysWithLamp_32 : decode cX6_daysWithLamp 32 = .ok (.aload_n 0, 1) := by decide +kernel
theorem dX6_daysWithLamp_33 : decode cX6_daysWithLamp 33 = .ok (.getfield 43, 3) := by decide +kernel
theorem dX6_daysWithLamp_36 : decode cX6_daysWithLamp 36 = .ok (.aload_n 0, 1) := by decide +kernel
theorem dX6_daysWithLamp_37 : decode cX6_daysWithLamp 37 = .ok (.getfield 23, 3) := by decide +kernel
theorem dX6_daysWithLamp_40 : decode cX6_daysWithLamp 40 = .ok (.aload_n 0, 1) := by decide +kernel
theorem dX6_daysWithLamp_41 : decode cX6_daysWithLamp 41 = .ok (.getfield 36, 3) := by decide +kernel
theorem dX6_daysWithLamp_44 : decode cX6_daysWithLamp 44 = .ok (.invokevirtual 251, 3) := by decide +kernel
theorem dX6_daysWithLamp_47 : decode cX6_daysWithLamp 47 = .ok (.ireturn, 1) := by decide +kernel
theorem dJ9_floorMod_7cf53_0 : decode cJ9_floorMod_7cf53 0 = .ok (.iload_n 0, 1) := by decide +kernel
theorem dJ9_floorMod_7cf53_1 : decode cJ9_floorMod_7cf53 1 = .ok (.iload_n 1, 1) := by decide +kernel
theorem dJ9_floorMod_7cf53_2 : decode cJ9_floorMod_7cf53 2 = .ok (.irem, 1) := by decide +kernel
theorem dJ9_floorMod_7cf53_3 : decode cJ9_floorMod_7cf53 3 = .ok (.istore_n 2, 1) := by decide +kernel
theorem dJ9_floorMod_7cf53_4 : decode cJ9_floorMod_7cf53 4 = .ok (.iload_n 0, 1) := by decide +kernel
theorem dJ9_floorMod_7cf53_5 : decode cJ9_floorMod_7cf53 5 = .ok (.iload_n 1, 1) := by decide +kernel
theorem dJ9_floorMod_7cf53_6 : decode cJ9_floorMod_7cf53 6 = .ok (.ixor, 1) := by decide +kernel
theorem dJ9_floorMod_7cf53_7 : decode cJ9_floorMod_7cf53 7 = .ok (.ifCond .ge 11, 3) := by decide +kernel
theorem dJ9_floorMod_7cf53_10 : decode cJ9_floorMod_7cf53 10 = .ok (.iload_n 2, 1) := by decide +kernel
theorem dJ9_floorMod_7cf53_11 : decode cJ9_floorMod_7cf53 11 = .ok (.ifCond .eq 7, 3) := by decide +kernel
theorem dJ9_floorMod_7cf53_14 : decode cJ9_floorMod_7cf53 14 = .ok (.iload_n 2, 1) := by decide +kernel
theorem dJ9_floorMod_7cf53_15 : decode cJ9_floorMod_7cf53 15 = .ok (.iload_n 1, 1) := by decide +kernel
theorem dJ9_floorMod_7cf53_16 : decode cJ9_floorMod_7cf53 16 = .ok (.iadd, 1) := by decide +kernel
theorem dJ9_floorMod_7cf53_17 : decode cJ9_floorMod_7cf53 17 = .ok (.ireturn, 1) := by decide +kernel
theorem dJ9_floorMod_7cf53_18 : decode cJ9_floorMod_7cf53 18 = .ok (.iload_n 2, 1) := by decide +kernel
theorem dJ9_floorMod_7cf53_19 : decode cJ9_floorMod_7cf53 19 = .ok (.ireturn, 1) := by decide +kernel
