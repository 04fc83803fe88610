theorem dX7_init_0 : decode cX7_init 0 = .ok (.aload_n 0, 1) := by decide +kernel
theorem dX7_init_1 : decode cX7_init 1 = .ok (.invokespecial 1, 3) := by decide +kernel
theorem dX7_init_4 : decode cX7_init 4 = .ok (.aload_n 0, 1) := by decide +kernel
theorem dX7_init_5 : decode cX7_init 5 = .ok (.sipush 999, 3) := by decide +kernel
theorem dX7_init_8 : decode cX7_init 8 = .ok (.newarray .int, 2) := by decide +kernel
theorem dX7_init_10 : decode cX7_init 10 = .ok (.putfield 7, 3) := by decide +kernel
theorem dX7_init_13 : decode cX7_init 13 = .ok (.aload_n 0, 1) := by decide +kernel
theorem dX7_init_14 : decode cX7_init 14 = .ok (.bipush 80, 2) := by decide +kernel
theorem dX7_init_16 : decode cX7_init 16 = .ok (.newarray .int, 2) := by decide +kernel
theorem dX7_init_18 : decode cX7_init 18 = .ok (.putfield 13, 3) := by decide +kernel
theorem dX7_init_21 : decode cX7_init 21 = .ok (.aload_n 0, 1) := by decide +kernel
theorem dX7_init_22 : decode cX7_init 22 = .ok (.bipush 50, 2) := by decide +kernel
theorem dX7_init_24 : decode cX7_init 24 = .ok (.newarray .int, 2) := by decide +kernel
theorem dX7_init_26 : decode cX7_init 26 = .ok (.putfield 16, 3) := by decide +kernel
theorem dX7_init_29 : decode cX7_init 29 = .ok (.aload_n 0, 1) := by decide +kernel
theorem dX7_init_30 : decode cX7_init 30 = .ok (.bipush 12, 2) := by decide +kernel
theorem dX7_init_32 : decode cX7_init 32 = .ok (.newarray .int, 2) := by decide +kernel
theorem dX7_init_34 : decode cX7_init 34 = .ok (.putfield 19, 3) := by decide +kernel
theorem dX7_init_37 : decode cX7_init 37 = .ok (.aload_n 0, 1) := by decide +kernel
theorem dX7_init_38 : decode cX7_init 38 = .ok (.sipush 201, 3) := by decide +kernel
theorem dX7_init_41 : decode cX7_init 41 = .ok (.newarray .int, 2) := by decide +kernel
theorem dX7_init_43 : decode cX7_init 43 = .ok (.putfield 22, 3) := by decide +kernel
theorem dX7_init_46 : decode cX7_init 46 = .ok (.aload_n 0, 1) := by decide +kernel
theorem dX7_init_47 : decode cX7_init 47 = .ok (.sipush 201, 3) := by decide +kernel
theorem dX7_init_50 : decode cX7_init 50 = .ok (.newarray .boolean, 2) := by decide +kernel
theorem dX7_init_52 : decode cX7_init 52 = .ok (.putfield 25, 3) := by decide +kernel
theorem dX7_init_55 : decode cX7_init 55 = .ok (.aload_n 0, 1) := by decide +kernel
theorem dX7_init_56 : decode cX7_init 56 = .ok (.sipush 1024, 3) := by decide +kernel
theorem dX7_init_59 : decode cX7_init 59 = .ok (.newarray .int, 2) := by decide +kernel
theorem dX7_init_61 : decode cX7_init 61 = .ok (.putfield 29, 3) := by decide +kernel
theorem dX7_init_64 : decode cX7_init 64 = .ok (.aload_n 0, 1) := by decide +kernel
theorem dX7_init_65 : decode cX7_init 65 = .ok (.sipush 1024, 3) := by decide +kernel
theorem dX7_init_68 : decode cX7_init 68 = .ok (.newarray .int, 2) := by decide +kernel
theorem dX7_init_70 : decode cX7_init 70 = .ok (.putfield 32, 3) := by decide +kernel
theorem dX7_init_73 : decode cX7_init 73 = .ok (.aload_n 0, 1) := by decide +kernel
theorem dX7_init_74 : decode cX7_init 74 = .ok (.sipush 1024, 3) := by decide +kernel
theorem dX7_init_77 : decode cX7_init 77 = .ok (.newarray .boolean, 2) := by decide +kernel
theorem dX7_init_79 : decode cX7_init 79 = .ok (.putfield 35, 3) := by decide +kernel
theorem dX7_init_82 : decode cX7_init 82 = .ok (.aload_n 0, 1) := by decide +kernel
theorem dX7_init_83 : decode cX7_init 83 = .ok (.bipush 10, 2) := by decide +kernel
theorem dX7_init_85 : decode cX7_init 85 = .ok (.newarray .int, 2) := by decide +kernel
theorem dX7_init_87 : decode cX7_init 87 = .ok (.putfield 38, 3) := by decide +kernel
theorem dX7_init_90 : decode cX7_init 90 = .ok (.aload_n 0, 1) := by decide +kernel
theorem dX7_init_91 : decode cX7_init 91 = .ok (.getfield 7, 3) := by decide +kernel
theorem dX7_init_94 : decode cX7_init 94 = .ok (.bipush 104, 2) := by decide +kernel
theorem dX7_init_96 : decode cX7_init 96 = .ok (.bipush 60, 2) := by decide +kernel
theorem dX7_init_98 : decode cX7_init 98 = .ok (.iastore, 1) := by decide +kernel
theorem dX7_init_99 : decode cX7_init 99 = .ok (.return_, 1) := by decide +kernel
theorem dX7_in_0 : decode cX7_in 0 = .ok (.iload_n 0, 1) := by decide +kernel
theorem dX7_in_1 : decode cX7_in 1 = .ok (.iload_n 1, 1) := by decide +kernel
theorem dX7_in_2 : decode cX7_in 2 = .ok (.if_icmp .lt 12, 3) := by decide +kernel
theorem dX7_in_5 : decode cX7_in 5 = .ok (.iload_n 0, 1) := by decide +kernel
theorem dX7_in_6 : decode cX7_in 6 = .ok (.iload_n 2, 1) := by decide +kernel
theorem dX7_in_7 : decode cX7_in 7 = .ok (.if_icmp .gt 7, 3) := by decide +kernel
theorem dX7_in_10 : decode cX7_in 10 = .ok (.iconst 1, 1) := by decide +kernel
theorem dX7_in_11 : decode cX7_in 11 = .ok (.goto 4, 3) := by decide +kernel
theorem dX7_in_14 : decode cX7_in 14 = .ok (.iconst 0, 1) := by decide +kernel
theorem dX7_in_15 : decode cX7_in 15 = .ok (.ireturn, 1) := by decide +kernel
theorem dX7_records_0 : decode cX7_records 0 = .ok (.aload_n 0, 1) := by decide +kernel
theorem dX7_records_1 : decode cX7_records 1 = .ok (.getfield 41, 3) := by decide +kernel
theorem dX7_records_4 : decode cX7_records 4 = .ok (.bipush 8, 2) := by decide +kernel
theorem dX7_records_6 : decode cX7_records 6 = .ok (.if_icmp .ne 44, 3) := by decide +kernel
theorem dX7_records_9 : decode cX7_records 9 = .ok (.bipush 111, 2) := by decide +kernel
theorem dX7_records_11 : decode cX7_records 11 = .ok (.istore_n 1, 1) := by decide +kernel
theorem dX7_records_12 : decode cX7_records 12 = .ok (.iload_n 1, 1) := by decide +kernel
theorem dX7_records_13 : decode cX7_records 13 = .ok (.sipush 888, 3) := by decide +kernel
theorem dX7_records_16 : decode cX7_records 16 = .ok (.if_icmp .ge 24, 3) := by decide +kernel
theorem dX7_records_19 : decode cX7_records 19 = .ok (.aload_n 0, 1) := by decide +kernel
theorem dX7_records_20 : decode cX7_records 20 = .ok (.getfield 7, 3) := by decide +kernel
theorem dX7_records_23 : decode cX7_records 23 = .ok (.iload_n 1, 1) := by decide +kernel
theorem dX7_records_24 : decode cX7_records 24 = .ok (.aload_n 0, 1) := by decide +kernel
theorem dX7_records_25 : decode cX7_records 25 = .ok (.getfield 7, 3) := by decide +kernel
theorem dX7_records_28 : decode cX7_records 28 = .ok (.iload_n 1, 1) := by decide +kernel
theorem dX7_records_29 : decode cX7_records 29 = .ok (.bipush 111, 2) := by decide +kernel
theorem dX7_records_31 : decode cX7_records 31 = .ok (.iadd, 1) := by decide +kernel
theorem dX7_records_32 : decode cX7_records 32 = .ok (.iaload, 1) := by decide +kernel
theorem dX7_records_33 : decode cX7_records 33 = .ok (.iastore, 1) := by decide +kernel
theorem dX7_records_34 : decode cX7_records 34 = .ok (.iinc 1 1, 3) := by decide +kernel
theorem dX7_records_37 : decode cX7_records 37 = .ok (.goto (-25), 3) := by decide +kernel
theorem dX7_records_40 : decode cX7_records 40 = .ok (.aload_n 0, 1) := by decide +kernel
theorem dX7_records_41 : decode cX7_records 41 = .ok (.dup, 1) := by decide +kernel
theorem dX7_records_42 : decode cX7_records 42 = .ok (.getfield 41, 3) := by decide +kernel
theorem dX7_records_45 : decode cX7_records 45 = .ok (.iconst 1, 1) := by decide +kernel
theorem dX7_records_46 : decode cX7_records 46 = .ok (.isub, 1) := by decide +kernel
theorem dX7_records_47 : decode cX7_records 47 = .ok (.putfield 41, 3) := by decide +kernel
theorem dX7_records_50 : decode cX7_records 50 = .ok (.aload_n 0, 1) := by decide +kernel
theorem dX7_records_51 : decode cX7_records 51 = .ok (.dup, 1) := by decide +kernel
theorem dX7_records_52 : decode cX7_records 52 = .ok (.getfield 41, 3) := by decide +kernel
theorem dX7_records_55 : decode cX7_records 55 = .ok (.iconst 1, 1) := by decide +kernel
theorem dX7_records_56 : decode cX7_records 56 = .ok (.iadd, 1) := by decide +kernel
theorem dX7_records_57 : decode cX7_records 57 = .ok (.putfield 41, 3) := by decide +kernel
theorem dX7_records_60 : decode cX7_records 60 = .ok (.iconst 0, 1) := by decide +kernel
theorem dX7_records_61 : decode cX7_records 61 = .ok (.istore_n 1, 1) := by decide +kernel
theorem dX7_records_62 : decode cX7_records 62 = .ok (.iload_n 1, 1) := by decide +kernel
theorem dX7_records_63 : decode cX7_records 63 = .ok (.bipush 111, 2) := by decide +kernel
theorem dX7_records_65 : decode cX7_records 65 = .ok (.if_icmp .ge 29, 3) := by decide +kernel
theorem dX7_records_68 : decode cX7_records 68 = .ok (.aload_n 0, 1) := by decide +kernel
theorem dX7_records_69 : decode cX7_records 69 = .ok (.getfield 7, 3) := by decide +kernel
theorem dX7_records_72 : decode cX7_records 72 = .ok (.bipush 111, 2) := by decide +kernel
theorem dX7_records_74 : decode cX7_records 74 = .ok (.aload_n 0, 1) := by decide +kernel
theorem dX7_records_75 : decode cX7_records 75 = .ok (.getfield 41, 3) := by decide +kernel
theorem dX7_records_78 : decode cX7_records 78 = .ok (.imul, 1) := by decide +kernel
theorem dX7_records_79 : decode cX7_records 79 = .ok (.iload_n 1, 1) := by decide +kernel
theorem dX7_records_80 : decode cX7_records 80 = .ok (.iadd, 1) := by decide +kernel
theorem dX7_records_81 : decode cX7_records 81 = .ok (.aload_n 0, 1) := by decide +kernel
theorem dX7_records_82 : decode cX7_records 82 = .ok (.getfield 7, 3) := by decide +kernel
theorem dX7_records_85 : decode cX7_records 85 = .ok (.iload_n 1, 1) := by decide +kernel
theorem dX7_records_86 : decode cX7_records 86 = .ok (.iaload, 1) := by decide +kernel
theorem dX7_records_87 : decode cX7_records 87 = .ok (.iastore, 1) := by decide +kernel
theorem dX7_records_88 : decode cX7_records 88 = .ok (.iinc 1 1, 3) := by decide +kernel
theorem dX7_records_91 : decode cX7_records 91 = .ok (.goto (-29), 3) := by decide +kernel
theorem dX7_records_94 : decode cX7_records 94 = .ok (.return_, 1) := by decide +kernel
theorem dX7_at_0 : decode cX7_at 0 = .ok (.iconst 1, 1) := by decide +kernel
theorem dX7_at_1 : decode cX7_at 1 = .ok (.bipush 9, 2) := by decide +kernel
theorem dX7_at_3 : decode cX7_at 3 = .ok (.iload_n 1, 1) := by decide +kernel
theorem dX7_at_4 : decode cX7_at 4 = .ok (.imul, 1) := by decide +kernel
theorem dX7_at_5 : decode cX7_at 5 = .ok (.iadd, 1) := by decide +kernel
theorem dX7_at_6 : decode cX7_at 6 = .ok (.iload_n 2, 1) := by decide +kernel
theorem dX7_at_7 : decode cX7_at 7 = .ok (.iadd, 1) := by decide +kernel
theorem dX7_at_8 : decode cX7_at 8 = .ok (.ireturn, 1) := by decide +kernel
theorem dX7_of_0 : decode cX7_of 0 = .ok (.aload_n 0, 1) := by decide +kernel
theorem dX7_of_1 : decode cX7_of 1 = .ok (.getfield 7, 3) := by decide +kernel
theorem dX7_of_4 : decode cX7_of 4 = .ok (.aload_n 0, 1) := by decide +kernel
theorem dX7_of_5 : decode cX7_of 5 = .ok (.iload_n 1, 1) := by decide +kernel
theorem dX7_of_6 : decode cX7_of 6 = .ok (.iload_n 2, 1) := by decide +kernel
theorem dX7_of_7 : decode cX7_of 7 = .ok (.invokevirtual 45, 3) := by decide +kernel
theorem dX7_of_10 : decode cX7_of 10 = .ok (.iaload, 1) := by decide +kernel
theorem dX7_of_11 : decode cX7_of 11 = .ok (.ireturn, 1) := by decide +kernel
theorem dX7_lights_0 : decode cX7_lights 0 = .ok (.aload_n 0, 1) := by decide +kernel
theorem dX7_lights_1 : decode cX7_lights 1 = .ok (.getfield 7, 3) := by decide +kernel
theorem dX7_lights_4 : decode cX7_lights 4 = .ok (.iconst 0, 1) := by decide +kernel
theorem dX7_lights_5 : decode cX7_lights 5 = .ok (.iaload, 1) := by decide +kernel
theorem dX7_lights_6 : decode cX7_lights 6 = .ok (.ireturn, 1) := by decide +kernel
theorem dX7_isLight_0 : decode cX7_isLight 0 = .ok (.iload_n 1, 1) := by decide +kernel
theorem dX7_isLight_1 : decode cX7_isLight 1 = .ok (.iconst 0, 1) := by decide +kernel
theorem dX7_isLight_2 : decode cX7_isLight 2 = .ok (.aload_n 0, 1) := by decide +kernel
theorem dX7_isLight_3 : decode cX7_isLight 3 = .ok (.invokevirtual 49, 3) := by decide +kernel
theorem dX7_isLight_6 : decode cX7_isLight 6 = .ok (.iconst 1, 1) := by decide +kernel
theorem dX7_isLight_7 : decode cX7_isLight 7 = .ok (.isub, 1) := by decide +kernel
theorem dX7_isLight_8 : decode cX7_isLight 8 = .ok (.invokestatic 53, 3) := by decide +kernel
theorem dX7_isLight_11 : decode cX7_isLight 11 = .ok (.ireturn, 1) := by decide +kernel
theorem dX7_isRoute_0 : decode cX7_isRoute 0 = .ok (.iload_n 1, 1) := by decide +kernel
theorem dX7_isRoute_1 : decode cX7_isRoute 1 = .ok (.iconst 0, 1) := by decide +kernel
theorem dX7_isRoute_2 : decode cX7_isRoute 2 = .ok (.aload_n 0, 1) := by decide +kernel
theorem dX7_isRoute_3 : decode cX7_isRoute 3 = .ok (.getfield 7, 3) := by decide +kernel
theorem dX7_isRoute_6 : decode cX7_isRoute 6 = .ok (.bipush 91, 2) := by decide +kernel
theorem dX7_isRoute_8 : decode cX7_isRoute 8 = .ok (.iaload, 1) := by decide +kernel
theorem dX7_isRoute_9 : decode cX7_isRoute 9 = .ok (.iconst 1, 1) := by decide +kernel
theorem dX7_isRoute_10 : decode cX7_isRoute 10 = .ok (.isub, 1) := by decide +kernel
theorem dX7_isRoute_11 : decode cX7_isRoute 11 = .ok (.invokestatic 53, 3) := by decide +kernel
theorem dX7_isRoute_14 : decode cX7_isRoute 14 = .ok (.ireturn, 1) := by decide +kernel
theorem dX7_ratedOf_0 : decode cX7_ratedOf 0 = .ok (.aload_n 0, 1) := by decide +kernel
theorem dX7_ratedOf_1 : decode cX7_ratedOf 1 = .ok (.iload_n 1, 1) := by decide +kernel
theorem dX7_ratedOf_2 : decode cX7_ratedOf 2 = .ok (.iconst 2, 1) := by decide +kernel
theorem dX7_ratedOf_3 : decode cX7_ratedOf 3 = .ok (.invokevirtual 57, 3) := by decide +kernel
theorem dX7_ratedOf_6 : decode cX7_ratedOf 6 = .ok (.istore_n 2, 1) := by decide +kernel
theorem dX7_ratedOf_7 : decode cX7_ratedOf 7 = .ok (.iload_n 2, 1) := by decide +kernel
theorem dX7_ratedOf_8 : decode cX7_ratedOf 8 = .ok (.iconst 3, 1) := by decide +kernel
theorem dX7_ratedOf_9 : decode cX7_ratedOf 9 = .ok (.if_icmp .ne 9, 3) := by decide +kernel
theorem dX7_ratedOf_12 : decode cX7_ratedOf 12 = .ok (.sipush 180, 3) := by decide +kernel
theorem dX7_ratedOf_15 : decode cX7_ratedOf 15 = .ok (.goto 10, 3) := by decide +kernel
theorem dX7_ratedOf_18 : decode cX7_ratedOf 18 = .ok (.bipush 60, 2) := by decide +kernel
theorem dX7_ratedOf_20 : decode cX7_ratedOf 20 = .ok (.bipush 30, 2) := by decide +kernel
theorem dX7_ratedOf_22 : decode cX7_ratedOf 22 = .ok (.iload_n 2, 1) := by decide +kernel
theorem dX7_ratedOf_23 : decode cX7_ratedOf 23 = .ok (.imul, 1) := by decide +kernel
theorem dX7_ratedOf_24 : decode cX7_ratedOf 24 = .ok (.iadd, 1) := by decide +kernel
theorem dX7_ratedOf_25 : decode cX7_ratedOf 25 = .ok (.ireturn, 1) := by decide +kernel
theorem dX7_reachOf_0 : decode cX7_reachOf 0 = .ok (.iload_n 0, 1) := by decide +kernel
theorem dX7_reachOf_1 : decode cX7_reachOf 1 = .ok (.ifCond .ne 7, 3) := by decide +kernel
theorem dX7_reachOf_4 : decode cX7_reachOf 4 = .ok (.iconst 4, 1) := by decide +kernel
theorem dX7_reachOf_5 : decode cX7_reachOf 5 = .ok (.goto 15, 3) := by decide +kernel
theorem dX7_reachOf_8 : decode cX7_reachOf 8 = .ok (.iload_n 0, 1) := by decide +kernel
theorem dX7_reachOf_9 : decode cX7_reachOf 9 = .ok (.iconst 1, 1) := by decide +kernel
theorem dX7_reachOf_10 : decode cX7_reachOf 10 = .ok (.if_icmp .ne 8, 3) := by decide +kernel
theorem dX7_reachOf_13 : decode cX7_reachOf 13 = .ok (.bipush 6, 2) := by decide +kernel
theorem dX7_reachOf_15 : decode cX7_reachOf 15 = .ok (.goto 5, 3) := by decide +kernel
theorem dX7_reachOf_18 : decode cX7_reachOf 18 = .ok (.bipush 9, 2) := by decide +kernel
theorem dX7_reachOf_20 : decode cX7_reachOf 20 = .ok (.ireturn, 1) := by decide +kernel
theorem dX7_capacityOf_0 : decode cX7_capacityOf 0 = .ok (.iconst 5, 1) := by decide +kernel
theorem dX7_capacityOf_1 : decode cX7_capacityOf 1 = .ok (.aload_n 0, 1) := by decide +kernel
theorem dX7_capacityOf_2 : decode cX7_capacityOf 2 = .ok (.iload_n 1, 1) := by decide +kernel
theorem dX7_capacityOf_3 : decode cX7_capacityOf 3 = .ok (.invokevirtual 60, 3) := by decide +kernel
theorem dX7_capacityOf_6 : decode cX7_capacityOf 6 = .ok (.imul, 1) := by decide +kernel
theorem dX7_capacityOf_7 : decode cX7_capacityOf 7 = .ok (.aload_n 0, 1) := by decide +kernel
theorem dX7_capacityOf_8 : decode cX7_capacityOf 8 = .ok (.iload_n 1, 1) := by decide +kernel
theorem dX7_capacityOf_9 : decode cX7_capacityOf 9 = .ok (.iconst 5, 1) := by decide +kernel
theorem dX7_capacityOf_10 : decode cX7_capacityOf 10 = .ok (.invokevirtual 57, 3) := by decide +kernel
theorem dX7_capacityOf_13 : decode cX7_capacityOf 13 = .ok (.imul, 1) := by decide +kernel
theorem dX7_capacityOf_14 : decode cX7_capacityOf 14 = .ok (.sipush 4000, 3) := by decide +kernel
theorem dX7_capacityOf_17 : decode cX7_capacityOf 17 = .ok (.idiv, 1) := by decide +kernel
theorem dX7_capacityOf_18 : decode cX7_capacityOf 18 = .ok (.ireturn, 1) := by decide +kernel
theorem dX7_restOf_0 : decode cX7_restOf 0 = .ok (.sipush 3000, 3) := by decide +kernel
theorem dX7_restOf_3 : decode cX7_restOf 3 = .ok (.aload_n 0, 1) := by decide +kernel
theorem dX7_restOf_4 : decode cX7_restOf 4 = .ok (.iload_n 1, 1) := by decide +kernel
theorem dX7_restOf_5 : decode cX7_restOf 5 = .ok (.iconst 3, 1) := by decide +kernel
theorem dX7_restOf_6 : decode cX7_restOf 6 = .ok (.invokevirtual 57, 3) := by decide +kernel
theorem dX7_restOf_9 : decode cX7_restOf 9 = .ok (.iconst 1, 1) := by decide +kernel
theorem dX7_restOf_10 : decode cX7_restOf 10 = .ok (.iadd, 1) := by decide +kernel
theorem dX7_restOf_11 : decode cX7_restOf 11 = .ok (.imul, 1) := by decide +kernel
theorem dX7_restOf_12 : decode cX7_restOf 12 = .ok (.aload_n 0, 1) := by decide +kernel
theorem dX7_restOf_13 : decode cX7_restOf 13 = .ok (.iload_n 1, 1) := by decide +kernel
theorem dX7_restOf_14 : decode cX7_restOf 14 = .ok (.bipush 7, 2) := by decide +kernel
theorem dX7_restOf_16 : decode cX7_restOf 16 = .ok (.invokevirtual 57, 3) := by decide +kernel
theorem dX7_restOf_19 : decode cX7_restOf 19 = .ok (.isub, 1) := by decide +kernel
theorem dX7_restOf_20 : decode cX7_restOf 20 = .ok (.istore_n 2, 1) := by decide +kernel
theorem dX7_restOf_21 : decode cX7_restOf 21 = .ok (.iload_n 2, 1) := by decide +kernel
theorem dX7_restOf_22 : decode cX7_restOf 22 = .ok (.ifCond .le 7, 3) := by decide +kernel
theorem dX7_restOf_25 : decode cX7_restOf 25 = .ok (.iload_n 2, 1) := by decide +kernel
theorem dX7_restOf_26 : decode cX7_restOf 26 = .ok (.goto 4, 3) := by decide +kernel
theorem dX7_restOf_29 : decode cX7_restOf 29 = .ok (.iconst 0, 1) := by decide +kernel
theorem dX7_restOf_30 : decode cX7_restOf 30 = .ok (.ireturn, 1) := by decide +kernel
theorem dX7_enduranceOf_0 : decode cX7_enduranceOf 0 = .ok (.aload_n 0, 1) := by decide +kernel
theorem dX7_enduranceOf_1 : decode cX7_enduranceOf 1 = .ok (.iload_n 1, 1) := by decide +kernel
theorem dX7_enduranceOf_2 : decode cX7_enduranceOf 2 = .ok (.bipush 6, 2) := by decide +kernel
theorem dX7_enduranceOf_4 : decode cX7_enduranceOf 4 = .ok (.invokevirtual 57, 3) := by decide +kernel
theorem dX7_enduranceOf_7 : decode cX7_enduranceOf 7 = .ok (.bipush 24, 2) := by decide +kernel
theorem dX7_enduranceOf_9 : decode cX7_enduranceOf 9 = .ok (.idiv, 1) := by decide +kernel
theorem dX7_enduranceOf_10 : decode cX7_enduranceOf 10 = .ok (.istore_n 2, 1) := by decide +kernel
theorem dX7_enduranceOf_11 : decode cX7_enduranceOf 11 = .ok (.iload_n 2, 1) := by decide +kernel
theorem dX7_enduranceOf_12 : decode cX7_enduranceOf 12 = .ok (.aload_n 0, 1) := by decide +kernel
theorem dX7_enduranceOf_13 : decode cX7_enduranceOf 13 = .ok (.iload_n 1, 1) := by decide +kernel
theorem dX7_enduranceOf_14 : decode cX7_enduranceOf 14 = .ok (.invokevirtual 64, 3) := by decide +kernel
theorem dX7_enduranceOf_17 : decode cX7_enduranceOf 17 = .ok (.if_icmp .ge 7, 3) := by decide +kernel
theorem dX7_enduranceOf_20 : decode cX7_enduranceOf 20 = .ok (.iload_n 2, 1) := by decide +kernel
theorem dX7_enduranceOf_21 : decode cX7_enduranceOf 21 = .ok (.goto 8, 3) := by decide +kernel
theorem dX7_enduranceOf_24 : decode cX7_enduranceOf 24 = .ok (.aload_n 0, 1) := by decide +kernel
theorem dX7_enduranceOf_25 : decode cX7_enduranceOf 25 = .ok (.iload_n 1, 1) := by decide +kernel
theorem dX7_enduranceOf_26 : decode cX7_enduranceOf 26 = .ok (.invokevirtual 64, 3) := by decide +kernel
theorem dX7_enduranceOf_29 : decode cX7_enduranceOf 29 = .ok (.ireturn, 1) := by decide +kernel
theorem dX7_isReady_0 : decode cX7_isReady 0 = .ok (.aload_n 0, 1) := by decide +kernel
theorem dX7_isReady_1 : decode cX7_isReady 1 = .ok (.iload_n 1, 1) := by decide +kernel
theorem dX7_isReady_2 : decode cX7_isReady 2 = .ok (.invokevirtual 67, 3) := by decide +kernel
theorem dX7_isReady_5 : decode cX7_isReady 5 = .ok (.aload_n 0, 1) := by decide +kernel
theorem dX7_isReady_6 : decode cX7_isReady 6 = .ok (.getfield 7, 3) := by decide +kernel
theorem dX7_isReady_9 : decode cX7_isReady 9 = .ok (.bipush 104, 2) := by decide +kernel
theorem dX7_isReady_11 : decode cX7_isReady 11 = .ok (.iaload, 1) := by decide +kernel
theorem dX7_isReady_12 : decode cX7_isReady 12 = .ok (.if_icmp .lt 7, 3) := by decide +kernel
theorem dX7_isReady_15 : decode cX7_isReady 15 = .ok (.iconst 1, 1) := by decide +kernel
theorem dX7_isReady_16 : decode cX7_isReady 16 = .ok (.goto 4, 3) := by decide +kernel
theorem dX7_isReady_19 : decode cX7_isReady 19 = .ok (.iconst 0, 1) := by decide +kernel
theorem dX7_isReady_20 : decode cX7_isReady 20 = .ok (.ireturn, 1) := by decide +kernel
theorem dX7_reaches_0 : decode cX7_reaches 0 = .ok (.aload_n 0, 1) := by decide +kernel
theorem dX7_reaches_1 : decode cX7_reaches 1 = .ok (.iload_n 1, 1) := by decide +kernel
theorem dX7_reaches_2 : decode cX7_reaches 2 = .ok (.iconst 0, 1) := by decide +kernel
theorem dX7_reaches_3 : decode cX7_reaches 3 = .ok (.invokevirtual 57, 3) := by decide +kernel
theorem dX7_reaches_6 : decode cX7_reaches 6 = .ok (.iload_n 2, 1) := by decide +kernel
theorem dX7_reaches_7 : decode cX7_reaches 7 = .ok (.if_icmp .le 14, 3) := by decide +kernel
theorem dX7_reaches_10 : decode cX7_reaches 10 = .ok (.aload_n 0, 1) := by decide +kernel
theorem dX7_reaches_11 : decode cX7_reaches 11 = .ok (.iload_n 1, 1) := by decide +kernel
theorem dX7_reaches_12 : decode cX7_reaches 12 = .ok (.iconst 0, 1) := by decide +kernel
theorem dX7_reaches_13 : decode cX7_reaches 13 = .ok (.invokevirtual 57, 3) := by decide +kernel
theorem dX7_reaches_16 : decode cX7_reaches 16 = .ok (.iload_n 2, 1) := by decide +kernel
theorem dX7_reaches_17 : decode cX7_reaches 17 = .ok (.isub, 1) := by decide +kernel
theorem dX7_reaches_18 : decode cX7_reaches 18 = .ok (.goto 11, 3) := by decide +kernel
theorem dX7_reaches_21 : decode cX7_reaches 21 = .ok (.iload_n 2, 1) := by decide +kernel
theorem dX7_reaches_22 : decode cX7_reaches 22 = .ok (.aload_n 0, 1) := by decide +kernel
theorem dX7_reaches_23 : decode cX7_reaches 23 = .ok (.iload_n 1, 1) := by decide +kernel
theorem dX7_reaches_24 : decode cX7_reaches 24 = .ok (.iconst 0, 1) := by decide +kernel
theorem dX7_reaches_25 : decode cX7_reaches 25 = .ok (.invokevirtual 57, 3) := by decide +kernel
theorem dX7_reaches_28 : decode cX7_reaches 28 = .ok (.isub, 1) := by decide +kernel
theorem dX7_reaches_29 : decode cX7_reaches 29 = .ok (.istore_n 3, 1) := by decide +kernel
theorem dX7_reaches_30 : decode cX7_reaches 30 = .ok (.iload_n 3, 1) := by decide +kernel
theorem dX7_reaches_31 : decode cX7_reaches 31 = .ok (.aload_n 0, 1) := by decide +kernel
theorem dX7_reaches_32 : decode cX7_reaches 32 = .ok (.iload_n 1, 1) := by decide +kernel
theorem dX7_reaches_33 : decode cX7_reaches 33 = .ok (.iconst 3, 1) := by decide +kernel
theorem dX7_reaches_34 : decode cX7_reaches 34 = .ok (.invokevirtual 57, 3) := by decide +kernel
theorem dX7_reaches_37 : decode cX7_reaches 37 = .ok (.invokestatic 70, 3) := by decide +kernel
theorem dX7_reaches_40 : decode cX7_reaches 40 = .ok (.if_icmp .gt 7, 3) := by decide +kernel
theorem dX7_reaches_43 : decode cX7_reaches 43 = .ok (.iconst 1, 1) := by decide +kernel
theorem dX7_reaches_44 : decode cX7_reaches 44 = .ok (.goto 4, 3) := by decide +kernel
theorem dX7_reaches_47 : decode cX7_reaches 47 = .ok (.iconst 0, 1) := by decide +kernel
theorem dX7_reaches_48 : decode cX7_reaches 48 = .ok (.ireturn, 1) := by decide +kernel
theorem dX7_clips_0 : decode cX7_clips 0 = .ok (.bipush 24, 2) := by decide +kernel
theorem dX7_clips_2 : decode cX7_clips 2 = .ok (.aload_n 0, 1) := by decide +kernel
theorem dX7_clips_3 : decode cX7_clips 3 = .ok (.iload_n 1, 1) := by decide +kernel
theorem dX7_clips_4 : decode cX7_clips 4 = .ok (.invokevirtual 73, 3) := by decide +kernel
theorem dX7_clips_7 : decode cX7_clips 7 = .ok (.imul, 1) := by decide +kernel
theorem dX7_clips_8 : decode cX7_clips 8 = .ok (.istore_n 2, 1) := by decide +kernel
theorem dX7_clips_9 : decode cX7_clips 9 = .ok (.aload_n 0, 1) := by decide +kernel
theorem dX7_clips_10 : decode cX7_clips 10 = .ok (.getfield 7, 3) := by decide +kernel
theorem dX7_clips_13 : decode cX7_clips 13 = .ok (.aload_n 0, 1) := by decide +kernel
theorem dX7_clips_14 : decode cX7_clips 14 = .ok (.iload_n 1, 1) := by decide +kernel
theorem dX7_clips_15 : decode cX7_clips 15 = .ok (.bipush 6, 2) := by decide +kernel
theorem dX7_clips_17 : decode cX7_clips 17 = .ok (.invokevirtual 45, 3) := by decide +kernel
theorem dX7_clips_20 : decode cX7_clips 20 = .ok (.aload_n 0, 1) := by decide +kernel
theorem dX7_clips_21 : decode cX7_clips 21 = .ok (.iload_n 1, 1) := by decide +kernel
theorem dX7_clips_22 : decode cX7_clips 22 = .ok (.bipush 6, 2) := by decide +kernel
theorem dX7_clips_24 : decode cX7_clips 24 = .ok (.invokevirtual 57, 3) := by decide +kernel
theorem dX7_clips_27 : decode cX7_clips 27 = .ok (.iload_n 2, 1) := by decide +kernel
theorem dX7_clips_28 : decode cX7_clips 28 = .ok (.if_icmp .le 7, 3) := by decide +kernel
theorem dX7_clips_31 : decode cX7_clips 31 = .ok (.iload_n 2, 1) := by decide +kernel
theorem dX7_clips_32 : decode cX7_clips 32 = .ok (.goto 10, 3) := by decide +kernel
theorem dX7_clips_35 : decode cX7_clips 35 = .ok (.aload_n 0, 1) := by decide +kernel
theorem dX7_clips_36 : decode cX7_clips 36 = .ok (.iload_n 1, 1) := by decide +kernel
theorem dX7_clips_37 : decode cX7_clips 37 = .ok (.bipush 6, 2) := by decide +kernel
theorem dX7_clips_39 : decode cX7_clips 39 = .ok (.invokevirtual 57, 3) := by decide +kernel
theorem dX7_clips_42 : decode cX7_clips 42 = .ok (.iastore, 1) := by decide +kernel
theorem dX7_clips_43 : decode cX7_clips 43 = .ok (.return_, 1) := by decide +kernel
theorem dX7_wears_0 : decode cX7_wears 0 = .ok (.aload_n 0, 1) := by decide +kernel
theorem dX7_wears_1 : decode cX7_wears 1 = .ok (.getfield 7, 3) := by decide +kernel
theorem dX7_wears_4 : decode cX7_wears 4 = .ok (.aload_n 0, 1) := by decide +kernel
theorem dX7_wears_5 : decode cX7_wears 5 = .ok (.iload_n 1, 1) := by decide +kernel
theorem dX7_wears_6 : decode cX7_wears 6 = .ok (.iconst 5, 1) := by decide +kernel
theorem dX7_wears_7 : decode cX7_wears 7 = .ok (.invokevirtual 45, 3) := by decide +kernel
theorem dX7_wears_10 : decode cX7_wears 10 = .ok (.aload_n 0, 1) := by decide +kernel
theorem dX7_wears_11 : decode cX7_wears 11 = .ok (.iload_n 1, 1) := by decide +kernel
theorem dX7_wears_12 : decode cX7_wears 12 = .ok (.iconst 5, 1) := by decide +kernel
theorem dX7_wears_13 : decode cX7_wears 13 = .ok (.invokevirtual 57, 3) := by decide +kernel
theorem dX7_wears_16 : decode cX7_wears 16 = .ok (.iload_n 2, 1) := by decide +kernel
theorem dX7_wears_17 : decode cX7_wears 17 = .ok (.if_icmp .le 14, 3) := by decide +kernel
theorem dX7_wears_20 : decode cX7_wears 20 = .ok (.aload_n 0, 1) := by decide +kernel
theorem dX7_wears_21 : decode cX7_wears 21 = .ok (.iload_n 1, 1) := by decide +kernel
theorem dX7_wears_22 : decode cX7_wears 22 = .ok (.iconst 5, 1) := by decide +kernel
theorem dX7_wears_23 : decode cX7_wears 23 = .ok (.invokevirtual 57, 3) := by decide +kernel
theorem dX7_wears_26 : decode cX7_wears 26 = .ok (.iload_n 2, 1) := by decide +kernel
theorem dX7_wears_27 : decode cX7_wears 27 = .ok (.isub, 1) := by decide +kernel
theorem dX7_wears_28 : decode cX7_wears 28 = .ok (.goto 4, 3) := by decide +kernel
theorem dX7_wears_31 : decode cX7_wears 31 = .ok (.iconst 0, 1) := by decide +kernel
theorem dX7_wears_32 : decode cX7_wears 32 = .ok (.iastore, 1) := by decide +kernel
theorem dX7_wears_33 : decode cX7_wears 33 = .ok (.aload_n 0, 1) := by decide +kernel
theorem dX7_wears_34 : decode cX7_wears 34 = .ok (.iload_n 1, 1) := by decide +kernel
theorem dX7_wears_35 : decode cX7_wears 35 = .ok (.invokevirtual 76, 3) := by decide +kernel
theorem dX7_wears_38 : decode cX7_wears 38 = .ok (.return_, 1) := by decide +kernel
theorem dX7_lays_0 : decode cX7_lays 0 = .ok (.aload_n 0, 1) := by decide +kernel
theorem dX7_lays_1 : decode cX7_lays 1 = .ok (.getfield 7, 3) := by decide +kernel
theorem dX7_lays_4 : decode cX7_lays 4 = .ok (.aload_n 0, 1) := by decide +kernel
theorem dX7_lays_5 : decode cX7_lays 5 = .ok (.iload_n 1, 1) := by decide +kernel
theorem dX7_lays_6 : decode cX7_lays 6 = .ok (.iconst 0, 1) := by decide +kernel
theorem dX7_lays_7 : decode cX7_lays 7 = .ok (.invokevirtual 45, 3) := by decide +kernel
theorem dX7_lays_10 : decode cX7_lays 10 = .ok (.iload_n 2, 1) := by decide +kernel
theorem dX7_lays_11 : decode cX7_lays 11 = .ok (.iastore, 1) := by decide +kernel
theorem dX7_lays_12 : decode cX7_lays 12 = .ok (.aload_n 0, 1) := by decide +kernel
theorem dX7_lays_13 : decode cX7_lays 13 = .ok (.getfield 7, 3) := by decide +kernel
theorem dX7_lays_16 : decode cX7_lays 16 = .ok (.aload_n 0, 1) := by decide +kernel
theorem dX7_lays_17 : decode cX7_lays 17 = .ok (.iload_n 1, 1) := by decide +kernel
theorem dX7_lays_18 : decode cX7_lays 18 = .ok (.iconst 1, 1) := by decide +kernel
theorem dX7_lays_19 : decode cX7_lays 19 = .ok (.invokevirtual 45, 3) := by decide +kernel
theorem dX7_lays_22 : decode cX7_lays 22 = .ok (.iload_n 3, 1) := by decide +kernel
theorem dX7_lays_23 : decode cX7_lays 23 = .ok (.iastore, 1) := by decide +kernel
theorem dX7_lays_24 : decode cX7_lays 24 = .ok (.aload_n 0, 1) := by decide +kernel
theorem dX7_lays_25 : decode cX7_lays 25 = .ok (.getfield 7, 3) := by decide +kernel
theorem dX7_lays_28 : decode cX7_lays 28 = .ok (.aload_n 0, 1) := by decide +kernel
theorem dX7_lays_29 : decode cX7_lays 29 = .ok (.iload_n 1, 1) := by decide +kernel
theorem dX7_lays_30 : decode cX7_lays 30 = .ok (.iconst 2, 1) := by decide +kernel
theorem dX7_lays_31 : decode cX7_lays 31 = .ok (.invokevirtual 45, 3) := by decide +kernel
theorem dX7_lays_34 : decode cX7_lays 34 = .ok (.iload 4, 2) := by decide +kernel
theorem dX7_lays_36 : decode cX7_lays 36 = .ok (.iastore, 1) := by decide +kernel
theorem dX7_lays_37 : decode cX7_lays 37 = .ok (.aload_n 0, 1) := by decide +kernel
theorem dX7_lays_38 : decode cX7_lays 38 = .ok (.getfield 7, 3) := by decide +kernel
theorem dX7_lays_41 : decode cX7_lays 41 = .ok (.aload_n 0, 1) := by decide +kernel
theorem dX7_lays_42 : decode cX7_lays 42 = .ok (.iload_n 1, 1) := by decide +kernel
theorem dX7_lays_43 : decode cX7_lays 43 = .ok (.iconst 3, 1) := by decide +kernel
theorem dX7_lays_44 : decode cX7_lays 44 = .ok (.invokevirtual 45, 3) := by decide +kernel
theorem dX7_lays_47 : decode cX7_lays 47 = .ok (.iload 5, 2) := by decide +kernel
theorem dX7_lays_49 : decode cX7_lays 49 = .ok (.iastore, 1) := by decide +kernel
theorem dX7_lays_50 : decode cX7_lays 50 = .ok (.aload_n 0, 1) := by decide +kernel
theorem dX7_lays_51 : decode cX7_lays 51 = .ok (.getfield 7, 3) := by decide +kernel
theorem dX7_lays_54 : decode cX7_lays 54 = .ok (.aload_n 0, 1) := by decide +kernel
theorem dX7_lays_55 : decode cX7_lays 55 = .ok (.iload_n 1, 1) := by decide +kernel
theorem dX7_lays_56 : decode cX7_lays 56 = .ok (.iconst 4, 1) := by decide +kernel
theorem dX7_lays_57 : decode cX7_lays 57 = .ok (.invokevirtual 45, 3) := by decide +kernel
theorem dX7_lays_60 : decode cX7_lays 60 = .ok (.iload 6, 2) := by decide +kernel
theorem dX7_lays_62 : decode cX7_lays 62 = .ok (.ifCond .eq 7, 3) := by decide +kernel
theorem dX7_lays_65 : decode cX7_lays 65 = .ok (.iconst 1, 1) := by decide +kernel
theorem dX7_lays_66 : decode cX7_lays 66 = .ok (.goto 4, 3) := by decide +kernel
theorem dX7_lays_69 : decode cX7_lays 69 = .ok (.iconst 0, 1) := by decide +kernel
theorem dX7_lays_70 : decode cX7_lays 70 = .ok (.iastore, 1) := by decide +kernel
theorem dX7_lays_71 : decode cX7_lays 71 = .ok (.aload_n 0, 1) := by decide +kernel
theorem dX7_lays_72 : decode cX7_lays 72 = .ok (.getfield 7, 3) := by decide +kernel
theorem dX7_lays_75 : decode cX7_lays 75 = .ok (.aload_n 0, 1) := by decide +kernel
theorem dX7_lays_76 : decode cX7_lays 76 = .ok (.iload_n 1, 1) := by decide +kernel
theorem dX7_lays_77 : decode cX7_lays 77 = .ok (.iconst 5, 1) := by decide +kernel
theorem dX7_lays_78 : decode cX7_lays 78 = .ok (.invokevirtual 45, 3) := by decide +kernel
theorem dX7_lays_81 : decode cX7_lays 81 = .ok (.sipush 1000, 3) := by decide +kernel
theorem dX7_lays_84 : decode cX7_lays 84 = .ok (.iastore, 1) := by decide +kernel
theorem dX7_lays_85 : decode cX7_lays 85 = .ok (.aload_n 0, 1) := by decide +kernel
theorem dX7_lays_86 : decode cX7_lays 86 = .ok (.getfield 7, 3) := by decide +kernel
theorem dX7_lays_89 : decode cX7_lays 89 = .ok (.aload_n 0, 1) := by decide +kernel
theorem dX7_lays_90 : decode cX7_lays 90 = .ok (.iload_n 1, 1) := by decide +kernel
theorem dX7_lays_91 : decode cX7_lays 91 = .ok (.bipush 6, 2) := by decide +kernel
theorem dX7_lays_93 : decode cX7_lays 93 = .ok (.invokevirtual 45, 3) := by decide +kernel
theorem dX7_lays_96 : decode cX7_lays 96 = .ok (.bipush 24, 2) := by decide +kernel
theorem dX7_lays_98 : decode cX7_lays 98 = .ok (.aload_n 0, 1) := by decide +kernel
theorem dX7_lays_99 : decode cX7_lays 99 = .ok (.iload_n 1, 1) := by decide +kernel
theorem dX7_lays_100 : decode cX7_lays 100 = .ok (.invokevirtual 73, 3) := by decide +kernel
theorem dX7_lays_103 : decode cX7_lays 103 = .ok (.imul, 1) := by decide +kernel
theorem dX7_lays_104 : decode cX7_lays 104 = .ok (.iastore, 1) := by decide +kernel
theorem dX7_lays_105 : decode cX7_lays 105 = .ok (.aload_n 0, 1) := by decide +kernel
theorem dX7_lays_106 : decode cX7_lays 106 = .ok (.getfield 7, 3) := by decide +kernel
theorem dX7_lays_109 : decode cX7_lays 109 = .ok (.aload_n 0, 1) := by decide +kernel
theorem dX7_lays_110 : decode cX7_lays 110 = .ok (.iload_n 1, 1) := by decide +kernel
theorem dX7_lays_111 : decode cX7_lays 111 = .ok (.bipush 7, 2) := by decide +kernel
theorem dX7_lays_113 : decode cX7_lays 113 = .ok (.invokevirtual 45, 3) := by decide +kernel
theorem dX7_lays_116 : decode cX7_lays 116 = .ok (.iconst 0, 1) := by decide +kernel
theorem dX7_lays_117 : decode cX7_lays 117 = .ok (.iastore, 1) := by decide +kernel
theorem dX7_lays_118 : decode cX7_lays 118 = .ok (.aload_n 0, 1) := by decide +kernel
theorem dX7_lays_119 : decode cX7_lays 119 = .ok (.getfield 7, 3) := by decide +kernel
theorem dX7_lays_122 : decode cX7_lays 122 = .ok (.aload_n 0, 1) := by decide +kernel
theorem dX7_lays_123 : decode cX7_lays 123 = .ok (.iload_n 1, 1) := by decide +kernel
theorem dX7_lays_124 : decode cX7_lays 124 = .ok (.bipush 8, 2) := by decide +kernel
theorem dX7_lays_126 : decode cX7_lays 126 = .ok (.invokevirtual 45, 3) := by decide +kernel
theorem dX7_lays_129 : decode cX7_lays 129 = .ok (.bipush (-9), 2) := by decide +kernel
theorem dX7_lays_131 : decode cX7_lays 131 = .ok (.iastore, 1) := by decide +kernel
theorem dX7_lays_132 : decode cX7_lays 132 = .ok (.return_, 1) := by decide +kernel
theorem dX7_isPlace_0 : decode cX7_isPlace 0 = .ok (.iload_n 0, 1) := by decide +kernel
theorem dX7_isPlace_1 : decode cX7_isPlace 1 = .ok (.iconst 0, 1) := by decide +kernel
theorem dX7_isPlace_2 : decode cX7_isPlace 2 = .ok (.sipush 200, 3) := by decide +kernel
theorem dX7_isPlace_5 : decode cX7_isPlace 5 = .ok (.invokestatic 53, 3) := by decide +kernel
theorem dX7_isPlace_8 : decode cX7_isPlace 8 = .ok (.ireturn, 1) := by decide +kernel
theorem dX7_isLamp_0 : decode cX7_isLamp 0 = .ok (.iload_n 0, 1) := by decide +kernel
theorem dX7_isLamp_1 : decode cX7_isLamp 1 = .ok (.iconst 0, 1) := by decide +kernel
theorem dX7_isLamp_2 : decode cX7_isLamp 2 = .ok (.iconst 2, 1) := by decide +kernel
theorem dX7_isLamp_3 : decode cX7_isLamp 3 = .ok (.invokestatic 53, 3) := by decide +kernel
theorem dX7_isLamp_6 : decode cX7_isLamp 6 = .ok (.ireturn, 1) := by decide +kernel
theorem dX7_add_0 : decode cX7_add 0 = .ok (.iload_n 1, 1) := by decide +kernel
theorem dX7_add_1 : decode cX7_add 1 = .ok (.invokestatic 80, 3) := by decide +kernel
theorem dX7_add_4 : decode cX7_add 4 = .ok (.ifCond .eq 29, 3) := by decide +kernel
theorem dX7_add_7 : decode cX7_add 7 = .ok (.iload_n 2, 1) := by decide +kernel
theorem dX7_add_8 : decode cX7_add 8 = .ok (.iconst 0, 1) := by decide +kernel
theorem dX7_add_9 : decode cX7_add 9 = .ok (.iconst 3, 1) := by decide +kernel
theorem dX7_add_10 : decode cX7_add 10 = .ok (.invokestatic 53, 3) := by decide +kernel
theorem dX7_add_13 : decode cX7_add 13 = .ok (.ifCond .eq 20, 3) := by decide +kernel
theorem dX7_add_16 : decode cX7_add 16 = .ok (.iload_n 3, 1) := by decide +kernel
theorem dX7_add_17 : decode cX7_add 17 = .ok (.iconst 0, 1) := by decide +kernel
theorem dX7_add_18 : decode cX7_add 18 = .ok (.iconst 3, 1) := by decide +kernel
theorem dX7_add_19 : decode cX7_add 19 = .ok (.invokestatic 53, 3) := by decide +kernel
theorem dX7_add_22 : decode cX7_add 22 = .ok (.ifCond .eq 11, 3) := by decide +kernel
theorem dX7_add_25 : decode cX7_add 25 = .ok (.iload 4, 2) := by decide +kernel
theorem dX7_add_27 : decode cX7_add 27 = .ok (.invokestatic 84, 3) := by decide +kernel
theorem dX7_add_30 : decode cX7_add 30 = .ok (.ifCond .ne 5, 3) := by decide +kernel
theorem dX7_add_33 : decode cX7_add 33 = .ok (.iconst (-1), 1) := by decide +kernel
theorem dX7_add_34 : decode cX7_add 34 = .ok (.ireturn, 1) := by decide +kernel
theorem dX7_add_35 : decode cX7_add 35 = .ok (.aload_n 0, 1) := by decide +kernel
theorem dX7_add_36 : decode cX7_add 36 = .ok (.invokevirtual 49, 3) := by decide +kernel
theorem dX7_add_39 : decode cX7_add 39 = .ok (.bipush 10, 2) := by decide +kernel
theorem dX7_add_41 : decode cX7_add 41 = .ok (.if_icmp .ne 6, 3) := by decide +kernel
theorem dX7_add_44 : decode cX7_add 44 = .ok (.bipush (-3), 2) := by decide +kernel
theorem dX7_add_46 : decode cX7_add 46 = .ok (.ireturn, 1) := by decide +kernel
theorem dX7_add_47 : decode cX7_add 47 = .ok (.aload_n 0, 1) := by decide +kernel
theorem dX7_add_48 : decode cX7_add 48 = .ok (.invokevirtual 87, 3) := by decide +kernel
theorem dX7_add_51 : decode cX7_add 51 = .ok (.aload_n 0, 1) := by decide +kernel
theorem dX7_add_52 : decode cX7_add 52 = .ok (.aload_n 0, 1) := by decide +kernel
theorem dX7_add_53 : decode cX7_add 53 = .ok (.invokevirtual 49, 3) := by decide +kernel
theorem dX7_add_56 : decode cX7_add 56 = .ok (.iload_n 1, 1) := by decide +kernel
theorem dX7_add_57 : decode cX7_add 57 = .ok (.iload_n 2, 1) := by decide +kernel
theorem dX7_add_58 : decode cX7_add 58 = .ok (.iload_n 3, 1) := by decide +kernel
theorem dX7_add_59 : decode cX7_add 59 = .ok (.iload 4, 2) := by decide +kernel
theorem dX7_add_61 : decode cX7_add 61 = .ok (.iconst 0, 1) := by decide +kernel
theorem dX7_add_62 : decode cX7_add 62 = .ok (.invokevirtual 90, 3) := by decide +kernel
theorem dX7_add_65 : decode cX7_add 65 = .ok (.aload_n 0, 1) := by decide +kernel
theorem dX7_add_66 : decode cX7_add 66 = .ok (.getfield 7, 3) := by decide +kernel
theorem dX7_add_69 : decode cX7_add 69 = .ok (.iconst 0, 1) := by decide +kernel
theorem dX7_add_70 : decode cX7_add 70 = .ok (.dup2, 1) := by decide +kernel
theorem dX7_add_71 : decode cX7_add 71 = .ok (.iaload, 1) := by decide +kernel
theorem dX7_add_72 : decode cX7_add 72 = .ok (.iconst 1, 1) := by decide +kernel
theorem dX7_add_73 : decode cX7_add 73 = .ok (.iadd, 1) := by decide +kernel
theorem dX7_add_74 : decode cX7_add 74 = .ok (.iastore, 1) := by decide +kernel
theorem dX7_add_75 : decode cX7_add 75 = .ok (.aload_n 0, 1) := by decide +kernel
theorem dX7_add_76 : decode cX7_add 76 = .ok (.invokevirtual 49, 3) := by decide +kernel
theorem dX7_add_79 : decode cX7_add 79 = .ok (.iconst 1, 1) := by decide +kernel
theorem dX7_add_80 : decode cX7_add 80 = .ok (.isub, 1) := by decide +kernel
theorem dX7_add_81 : decode cX7_add 81 = .ok (.ireturn, 1) := by decide +kernel
theorem dX7_drop_0 : decode cX7_drop 0 = .ok (.aload_n 0, 1) := by decide +kernel
theorem dX7_drop_1 : decode cX7_drop 1 = .ok (.iload_n 1, 1) := by decide +kernel
theorem dX7_drop_2 : decode cX7_drop 2 = .ok (.invokevirtual 94, 3) := by decide +kernel
theorem dX7_drop_5 : decode cX7_drop 5 = .ok (.ifCond .ne 5, 3) := by decide +kernel
theorem dX7_drop_8 : decode cX7_drop 8 = .ok (.iconst (-1), 1) := by decide +kernel
theorem dX7_drop_9 : decode cX7_drop 9 = .ok (.ireturn, 1) := by decide +kernel
theorem dX7_drop_10 : decode cX7_drop 10 = .ok (.aload_n 0, 1) := by decide +kernel
theorem dX7_drop_11 : decode cX7_drop 11 = .ok (.invokevirtual 87, 3) := by decide +kernel
theorem dX7_drop_14 : decode cX7_drop 14 = .ok (.aload_n 0, 1) := by decide +kernel
theorem dX7_drop_15 : decode cX7_drop 15 = .ok (.getfield 7, 3) := by decide +kernel
theorem dX7_drop_18 : decode cX7_drop 18 = .ok (.iconst 0, 1) := by decide +kernel
theorem dX7_drop_19 : decode cX7_drop 19 = .ok (.dup2, 1) := by decide +kernel
theorem dX7_drop_20 : decode cX7_drop 20 = .ok (.iaload, 1) := by decide +kernel
theorem dX7_drop_21 : decode cX7_drop 21 = .ok (.iconst 1, 1) := by decide +kernel
theorem dX7_drop_22 : decode cX7_drop 22 = .ok (.isub, 1) := by decide +kernel
theorem dX7_drop_23 : decode cX7_drop 23 = .ok (.iastore, 1) := by decide +kernel
theorem dX7_drop_24 : decode cX7_drop 24 = .ok (.aload_n 0, 1) := by decide +kernel
theorem dX7_drop_25 : decode cX7_drop 25 = .ok (.iload_n 1, 1) := by decide +kernel
theorem dX7_drop_26 : decode cX7_drop 26 = .ok (.iconst 0, 1) := by decide +kernel
theorem dX7_drop_27 : decode cX7_drop 27 = .ok (.invokevirtual 45, 3) := by decide +kernel
theorem dX7_drop_30 : decode cX7_drop 30 = .ok (.istore_n 2, 1) := by decide +kernel
theorem dX7_drop_31 : decode cX7_drop 31 = .ok (.iload_n 2, 1) := by decide +kernel
theorem dX7_drop_32 : decode cX7_drop 32 = .ok (.aload_n 0, 1) := by decide +kernel
theorem dX7_drop_33 : decode cX7_drop 33 = .ok (.aload_n 0, 1) := by decide +kernel
theorem dX7_drop_34 : decode cX7_drop 34 = .ok (.invokevirtual 49, 3) := by decide +kernel
theorem dX7_drop_37 : decode cX7_drop 37 = .ok (.iconst 0, 1) := by decide +kernel
theorem dX7_drop_38 : decode cX7_drop 38 = .ok (.invokevirtual 45, 3) := by decide +kernel
theorem dX7_drop_41 : decode cX7_drop 41 = .ok (.if_icmp .ge 24, 3) := by decide +kernel
theorem dX7_drop_44 : decode cX7_drop 44 = .ok (.aload_n 0, 1) := by decide +kernel
theorem dX7_drop_45 : decode cX7_drop 45 = .ok (.getfield 7, 3) := by decide +kernel
theorem dX7_drop_48 : decode cX7_drop 48 = .ok (.iload_n 2, 1) := by decide +kernel
theorem dX7_drop_49 : decode cX7_drop 49 = .ok (.aload_n 0, 1) := by decide +kernel
theorem dX7_drop_50 : decode cX7_drop 50 = .ok (.getfield 7, 3) := by decide +kernel
theorem dX7_drop_53 : decode cX7_drop 53 = .ok (.iload_n 2, 1) := by decide +kernel
theorem dX7_drop_54 : decode cX7_drop 54 = .ok (.bipush 9, 2) := by decide +kernel
theorem dX7_drop_56 : decode cX7_drop 56 = .ok (.iadd, 1) := by decide +kernel
theorem dX7_drop_57 : decode cX7_drop 57 = .ok (.iaload, 1) := by decide +kernel
theorem dX7_drop_58 : decode cX7_drop 58 = .ok (.iastore, 1) := by decide +kernel
theorem dX7_drop_59 : decode cX7_drop 59 = .ok (.iinc 2 1, 3) := by decide +kernel
theorem dX7_drop_62 : decode cX7_drop 62 = .ok (.goto (-31), 3) := by decide +kernel
theorem dX7_drop_65 : decode cX7_drop 65 = .ok (.aload_n 0, 1) := by decide +kernel
theorem dX7_drop_66 : decode cX7_drop 66 = .ok (.invokevirtual 49, 3) := by decide +kernel
theorem dX7_drop_69 : decode cX7_drop 69 = .ok (.ireturn, 1) := by decide +kernel
theorem dX7_maintain_0 : decode cX7_maintain 0 = .ok (.aload_n 0, 1) := by decide +kernel
theorem dX7_maintain_1 : decode cX7_maintain 1 = .ok (.iload_n 1, 1) := by decide +kernel
theorem dX7_maintain_2 : decode cX7_maintain 2 = .ok (.invokevirtual 94, 3) := by decide +kernel
theorem dX7_maintain_5 : decode cX7_maintain 5 = .ok (.ifCond .ne 5, 3) := by decide +kernel
theorem dX7_maintain_8 : decode cX7_maintain 8 = .ok (.iconst (-1), 1) := by decide +kernel
theorem dX7_maintain_9 : decode cX7_maintain 9 = .ok (.ireturn, 1) := by decide +kernel
theorem dX7_maintain_10 : decode cX7_maintain 10 = .ok (.aload_n 0, 1) := by decide +kernel
theorem dX7_maintain_11 : decode cX7_maintain 11 = .ok (.invokevirtual 87, 3) := by decide +kernel
theorem dX7_maintain_14 : decode cX7_maintain 14 = .ok (.aload_n 0, 1) := by decide +kernel
theorem dX7_maintain_15 : decode cX7_maintain 15 = .ok (.iload_n 1, 1) := by decide +kernel
theorem dX7_maintain_16 : decode cX7_maintain 16 = .ok (.iconst 4, 1) := by decide +kernel
theorem dX7_maintain_17 : decode cX7_maintain 17 = .ok (.invokevirtual 57, 3) := by decide +kernel
theorem dX7_maintain_20 : decode cX7_maintain 20 = .ok (.istore_n 3, 1) := by decide +kernel
theorem dX7_maintain_21 : decode cX7_maintain 21 = .ok (.aload_n 0, 1) := by decide +kernel
theorem dX7_maintain_22 : decode cX7_maintain 22 = .ok (.getfield 7, 3) := by decide +kernel
theorem dX7_maintain_25 : decode cX7_maintain 25 = .ok (.aload_n 0, 1) := by decide +kernel
theorem dX7_maintain_26 : decode cX7_maintain 26 = .ok (.iload_n 1, 1) := by decide +kernel
theorem dX7_maintain_27 : decode cX7_maintain 27 = .ok (.iconst 4, 1) := by decide +kernel
theorem dX7_maintain_28 : decode cX7_maintain 28 = .ok (.invokevirtual 45, 3) := by decide +kernel
theorem dX7_maintain_31 : decode cX7_maintain 31 = .ok (.iload_n 2, 1) := by decide +kernel
theorem dX7_maintain_32 : decode cX7_maintain 32 = .ok (.ifCond .eq 7, 3) := by decide +kernel
theorem dX7_maintain_35 : decode cX7_maintain 35 = .ok (.iconst 1, 1) := by decide +kernel
theorem dX7_maintain_36 : decode cX7_maintain 36 = .ok (.goto 4, 3) := by decide +kernel
theorem dX7_maintain_39 : decode cX7_maintain 39 = .ok (.iconst 0, 1) := by decide +kernel
theorem dX7_maintain_40 : decode cX7_maintain 40 = .ok (.iastore, 1) := by decide +kernel
theorem dX7_maintain_41 : decode cX7_maintain 41 = .ok (.iload_n 3, 1) := by decide +kernel
theorem dX7_maintain_42 : decode cX7_maintain 42 = .ok (.ireturn, 1) := by decide +kernel
theorem dX7_route_0 : decode cX7_route 0 = .ok (.iload_n 1, 1) := by decide +kernel
theorem dX7_route_1 : decode cX7_route 1 = .ok (.invokestatic 80, 3) := by decide +kernel
theorem dX7_route_4 : decode cX7_route 4 = .ok (.ifCond .eq 14, 3) := by decide +kernel
theorem dX7_route_7 : decode cX7_route 7 = .ok (.iload_n 2, 1) := by decide +kernel
theorem dX7_route_8 : decode cX7_route 8 = .ok (.iload_n 1, 1) := by decide +kernel
theorem dX7_route_9 : decode cX7_route 9 = .ok (.sipush 200, 3) := by decide +kernel
theorem dX7_route_12 : decode cX7_route 12 = .ok (.invokestatic 53, 3) := by decide +kernel
theorem dX7_route_15 : decode cX7_route 15 = .ok (.ifCond .ne 5, 3) := by decide +kernel
theorem dX7_route_18 : decode cX7_route 18 = .ok (.iconst (-1), 1) := by decide +kernel
theorem dX7_route_19 : decode cX7_route 19 = .ok (.ireturn, 1) := by decide +kernel
theorem dX7_route_20 : decode cX7_route 20 = .ok (.aload_n 0, 1) := by decide +kernel
theorem dX7_route_21 : decode cX7_route 21 = .ok (.getfield 7, 3) := by decide +kernel
theorem dX7_route_24 : decode cX7_route 24 = .ok (.bipush 91, 2) := by decide +kernel
theorem dX7_route_26 : decode cX7_route 26 = .ok (.iaload, 1) := by decide +kernel
theorem dX7_route_27 : decode cX7_route 27 = .ok (.bipush 6, 2) := by decide +kernel
theorem dX7_route_29 : decode cX7_route 29 = .ok (.if_icmp .ne 6, 3) := by decide +kernel
theorem dX7_route_32 : decode cX7_route 32 = .ok (.bipush (-3), 2) := by decide +kernel
theorem dX7_route_34 : decode cX7_route 34 = .ok (.ireturn, 1) := by decide +kernel
theorem dX7_route_35 : decode cX7_route 35 = .ok (.aload_n 0, 1) := by decide +kernel
theorem dX7_route_36 : decode cX7_route 36 = .ok (.invokevirtual 87, 3) := by decide +kernel
theorem dX7_route_39 : decode cX7_route 39 = .ok (.aload_n 0, 1) := by decide +kernel
theorem dX7_route_40 : decode cX7_route 40 = .ok (.getfield 7, 3) := by decide +kernel
theorem dX7_route_43 : decode cX7_route 43 = .ok (.bipush 92, 2) := by decide +kernel
theorem dX7_route_45 : decode cX7_route 45 = .ok (.iconst 2, 1) := by decide +kernel
theorem dX7_route_46 : decode cX7_route 46 = .ok (.aload_n 0, 1) := by decide +kernel
theorem dX7_route_47 : decode cX7_route 47 = .ok (.getfield 7, 3) := by decide +kernel
theorem dX7_route_50 : decode cX7_route 50 = .ok (.bipush 91, 2) := by decide +kernel
theorem dX7_route_52 : decode cX7_route 52 = .ok (.iaload, 1) := by decide +kernel
theorem dX7_route_53 : decode cX7_route 53 = .ok (.imul, 1) := by decide +kernel
theorem dX7_route_54 : decode cX7_route 54 = .ok (.iadd, 1) := by decide +kernel
theorem dX7_route_55 : decode cX7_route 55 = .ok (.iload_n 1, 1) := by decide +kernel
theorem dX7_route_56 : decode cX7_route 56 = .ok (.iastore, 1) := by decide +kernel
theorem dX7_route_57 : decode cX7_route 57 = .ok (.aload_n 0, 1) := by decide +kernel
theorem dX7_route_58 : decode cX7_route 58 = .ok (.getfield 7, 3) := by decide +kernel
theorem dX7_route_61 : decode cX7_route 61 = .ok (.bipush 92, 2) := by decide +kernel
theorem dX7_route_63 : decode cX7_route 63 = .ok (.iconst 2, 1) := by decide +kernel
theorem dX7_route_64 : decode cX7_route 64 = .ok (.aload_n 0, 1) := by decide +kernel
theorem dX7_route_65 : decode cX7_route 65 = .ok (.getfield 7, 3) := by decide +kernel
theorem dX7_route_68 : decode cX7_route 68 = .ok (.bipush 91, 2) := by decide +kernel
theorem dX7_route_70 : decode cX7_route 70 = .ok (.iaload, 1) := by decide +kernel
theorem dX7_route_71 : decode cX7_route 71 = .ok (.imul, 1) := by decide +kernel
theorem dX7_route_72 : decode cX7_route 72 = .ok (.iadd, 1) := by decide +kernel
theorem dX7_route_73 : decode cX7_route 73 = .ok (.iconst 1, 1) := by decide +kernel
theorem dX7_route_74 : decode cX7_route 74 = .ok (.iadd, 1) := by decide +kernel
theorem dX7_route_75 : decode cX7_route 75 = .ok (.iload_n 2, 1) := by decide +kernel
theorem dX7_route_76 : decode cX7_route 76 = .ok (.iastore, 1) := by decide +kernel
theorem dX7_route_77 : decode cX7_route 77 = .ok (.aload_n 0, 1) := by decide +kernel
theorem dX7_route_78 : decode cX7_route 78 = .ok (.getfield 7, 3) := by decide +kernel
theorem dX7_route_81 : decode cX7_route 81 = .ok (.bipush 91, 2) := by decide +kernel
theorem dX7_route_83 : decode cX7_route 83 = .ok (.dup2, 1) := by decide +kernel
theorem dX7_route_84 : decode cX7_route 84 = .ok (.iaload, 1) := by decide +kernel
theorem dX7_route_85 : decode cX7_route 85 = .ok (.iconst 1, 1) := by decide +kernel
theorem dX7_route_86 : decode cX7_route 86 = .ok (.iadd, 1) := by decide +kernel
theorem dX7_route_87 : decode cX7_route 87 = .ok (.iastore, 1) := by decide +kernel
theorem dX7_route_88 : decode cX7_route 88 = .ok (.aload_n 0, 1) := by decide +kernel
theorem dX7_route_89 : decode cX7_route 89 = .ok (.getfield 7, 3) := by decide +kernel
theorem dX7_route_92 : decode cX7_route 92 = .ok (.bipush 91, 2) := by decide +kernel
theorem dX7_route_94 : decode cX7_route 94 = .ok (.iaload, 1) := by decide +kernel
theorem dX7_route_95 : decode cX7_route 95 = .ok (.iconst 1, 1) := by decide +kernel
theorem dX7_route_96 : decode cX7_route 96 = .ok (.isub, 1) := by decide +kernel
theorem dX7_route_97 : decode cX7_route 97 = .ok (.ireturn, 1) := by decide +kernel
theorem dX7_dropRoute_0 : decode cX7_dropRoute 0 = .ok (.aload_n 0, 1) := by decide +kernel
theorem dX7_dropRoute_1 : decode cX7_dropRoute 1 = .ok (.iload_n 1, 1) := by decide +kernel
theorem dX7_dropRoute_2 : decode cX7_dropRoute 2 = .ok (.invokevirtual 97, 3) := by decide +kernel
theorem dX7_dropRoute_5 : decode cX7_dropRoute 5 = .ok (.ifCond .ne 5, 3) := by decide +kernel
theorem dX7_dropRoute_8 : decode cX7_dropRoute 8 = .ok (.iconst (-1), 1) := by decide +kernel
theorem dX7_dropRoute_9 : decode cX7_dropRoute 9 = .ok (.ireturn, 1) := by decide +kernel
theorem dX7_dropRoute_10 : decode cX7_dropRoute 10 = .ok (.aload_n 0, 1) := by decide +kernel
theorem dX7_dropRoute_11 : decode cX7_dropRoute 11 = .ok (.invokevirtual 87, 3) := by decide +kernel
theorem dX7_dropRoute_14 : decode cX7_dropRoute 14 = .ok (.aload_n 0, 1) := by decide +kernel
theorem dX7_dropRoute_15 : decode cX7_dropRoute 15 = .ok (.getfield 7, 3) := by decide +kernel
theorem dX7_dropRoute_18 : decode cX7_dropRoute 18 = .ok (.bipush 91, 2) := by decide +kernel
theorem dX7_dropRoute_20 : decode cX7_dropRoute 20 = .ok (.dup2, 1) := by decide +kernel
theorem dX7_dropRoute_21 : decode cX7_dropRoute 21 = .ok (.iaload, 1) := by decide +kernel
theorem dX7_dropRoute_22 : decode cX7_dropRoute 22 = .ok (.iconst 1, 1) := by decide +kernel
theorem dX7_dropRoute_23 : decode cX7_dropRoute 23 = .ok (.isub, 1) := by decide +kernel
theorem dX7_dropRoute_24 : decode cX7_dropRoute 24 = .ok (.iastore, 1) := by decide +kernel
theorem dX7_dropRoute_25 : decode cX7_dropRoute 25 = .ok (.bipush 92, 2) := by decide +kernel
theorem dX7_dropRoute_27 : decode cX7_dropRoute 27 = .ok (.iconst 2, 1) := by decide +kernel
theorem dX7_dropRoute_28 : decode cX7_dropRoute 28 = .ok (.iload_n 1, 1) := by decide +kernel
theorem dX7_dropRoute_29 : decode cX7_dropRoute 29 = .ok (.imul, 1) := by decide +kernel
theorem dX7_dropRoute_30 : decode cX7_dropRoute 30 = .ok (.iadd, 1) := by decide +kernel
theorem dX7_dropRoute_31 : decode cX7_dropRoute 31 = .ok (.istore_n 2, 1) := by decide +kernel
theorem dX7_dropRoute_32 : decode cX7_dropRoute 32 = .ok (.iload_n 2, 1) := by decide +kernel
theorem dX7_dropRoute_33 : decode cX7_dropRoute 33 = .ok (.bipush 92, 2) := by decide +kernel
theorem dX7_dropRoute_35 : decode cX7_dropRoute 35 = .ok (.iconst 2, 1) := by decide +kernel
theorem dX7_dropRoute_36 : decode cX7_dropRoute 36 = .ok (.aload_n 0, 1) := by decide +kernel
theorem dX7_dropRoute_37 : decode cX7_dropRoute 37 = .ok (.getfield 7, 3) := by decide +kernel
theorem dX7_dropRoute_40 : decode cX7_dropRoute 40 = .ok (.bipush 91, 2) := by decide +kernel
theorem dX7_dropRoute_42 : decode cX7_dropRoute 42 = .ok (.iaload, 1) := by decide +kernel
theorem dX7_dropRoute_43 : decode cX7_dropRoute 43 = .ok (.imul, 1) := by decide +kernel
theorem dX7_dropRoute_44 : decode cX7_dropRoute 44 = .ok (.iadd, 1) := by decide +kernel
theorem dX7_dropRoute_45 : decode cX7_dropRoute 45 = .ok (.if_icmp .ge 23, 3) := by decide +kernel
theorem dX7_dropRoute_48 : decode cX7_dropRoute 48 = .ok (.aload_n 0, 1) := by decide +kernel
theorem dX7_dropRoute_49 : decode cX7_dropRoute 49 = .ok (.getfield 7, 3) := by decide +kernel
theorem dX7_dropRoute_52 : decode cX7_dropRoute 52 = .ok (.iload_n 2, 1) := by decide +kernel
theorem dX7_dropRoute_53 : decode cX7_dropRoute 53 = .ok (.aload_n 0, 1) := by decide +kernel
theorem dX7_dropRoute_54 : decode cX7_dropRoute 54 = .ok (.getfield 7, 3) := by decide +kernel
theorem dX7_dropRoute_57 : decode cX7_dropRoute 57 = .ok (.iload_n 2, 1) := by decide +kernel
theorem dX7_dropRoute_58 : decode cX7_dropRoute 58 = .ok (.iconst 2, 1) := by decide +kernel
theorem dX7_dropRoute_59 : decode cX7_dropRoute 59 = .ok (.iadd, 1) := by decide +kernel
theorem dX7_dropRoute_60 : decode cX7_dropRoute 60 = .ok (.iaload, 1) := by decide +kernel
theorem dX7_dropRoute_61 : decode cX7_dropRoute 61 = .ok (.iastore, 1) := by decide +kernel
theorem dX7_dropRoute_62 : decode cX7_dropRoute 62 = .ok (.iinc 2 1, 3) := by decide +kernel
theorem dX7_dropRoute_65 : decode cX7_dropRoute 65 = .ok (.goto (-33), 3) := by decide +kernel
theorem dX7_dropRoute_68 : decode cX7_dropRoute 68 = .ok (.aload_n 0, 1) := by decide +kernel
theorem dX7_dropRoute_69 : decode cX7_dropRoute 69 = .ok (.getfield 7, 3) := by decide +kernel
theorem dX7_dropRoute_72 : decode cX7_dropRoute 72 = .ok (.bipush 91, 2) := by decide +kernel
theorem dX7_dropRoute_74 : decode cX7_dropRoute 74 = .ok (.iaload, 1) := by decide +kernel
theorem dX7_dropRoute_75 : decode cX7_dropRoute 75 = .ok (.ireturn, 1) := by decide +kernel
theorem dX7_setNeed_0 : decode cX7_setNeed 0 = .ok (.iload_n 1, 1) := by decide +kernel
theorem dX7_setNeed_1 : decode cX7_setNeed 1 = .ok (.iconst 1, 1) := by decide +kernel
theorem dX7_setNeed_2 : decode cX7_setNeed 2 = .ok (.sipush 180, 3) := by decide +kernel
theorem dX7_setNeed_5 : decode cX7_setNeed 5 = .ok (.invokestatic 53, 3) := by decide +kernel
theorem dX7_setNeed_8 : decode cX7_setNeed 8 = .ok (.ifCond .ne 5, 3) := by decide +kernel
theorem dX7_setNeed_11 : decode cX7_setNeed 11 = .ok (.iconst (-1), 1) := by decide +kernel
theorem dX7_setNeed_12 : decode cX7_setNeed 12 = .ok (.ireturn, 1) := by decide +kernel
theorem dX7_setNeed_13 : decode cX7_setNeed 13 = .ok (.aload_n 0, 1) := by decide +kernel
theorem dX7_setNeed_14 : decode cX7_setNeed 14 = .ok (.invokevirtual 87, 3) := by decide +kernel
theorem dX7_setNeed_17 : decode cX7_setNeed 17 = .ok (.aload_n 0, 1) := by decide +kernel
theorem dX7_setNeed_18 : decode cX7_setNeed 18 = .ok (.getfield 7, 3) := by decide +kernel
theorem dX7_setNeed_21 : decode cX7_setNeed 21 = .ok (.bipush 104, 2) := by decide +kernel
theorem dX7_setNeed_23 : decode cX7_setNeed 23 = .ok (.iaload, 1) := by decide +kernel
theorem dX7_setNeed_24 : decode cX7_setNeed 24 = .ok (.istore_n 2, 1) := by decide +kernel
theorem dX7_setNeed_25 : decode cX7_setNeed 25 = .ok (.aload_n 0, 1) := by decide +kernel
theorem dX7_setNeed_26 : decode cX7_setNeed 26 = .ok (.getfield 7, 3) := by decide +kernel
theorem dX7_setNeed_29 : decode cX7_setNeed 29 = .ok (.bipush 104, 2) := by decide +kernel
theorem dX7_setNeed_31 : decode cX7_setNeed 31 = .ok (.iload_n 1, 1) := by decide +kernel
theorem dX7_setNeed_32 : decode cX7_setNeed 32 = .ok (.iastore, 1) := by decide +kernel
theorem dX7_setNeed_33 : decode cX7_setNeed 33 = .ok (.iload_n 2, 1) := by decide +kernel
theorem dX7_setNeed_34 : decode cX7_setNeed 34 = .ok (.ireturn, 1) := by decide +kernel
theorem dX7_setStock_0 : decode cX7_setStock 0 = .ok (.iload_n 1, 1) := by decide +kernel
theorem dX7_setStock_1 : decode cX7_setStock 1 = .ok (.invokestatic 84, 3) := by decide +kernel
theorem dX7_setStock_4 : decode cX7_setStock 4 = .ok (.ifCond .eq 13, 3) := by decide +kernel
theorem dX7_setStock_7 : decode cX7_setStock 7 = .ok (.iload_n 2, 1) := by decide +kernel
theorem dX7_setStock_8 : decode cX7_setStock 8 = .ok (.iconst 0, 1) := by decide +kernel
theorem dX7_setStock_9 : decode cX7_setStock 9 = .ok (.bipush 99, 2) := by decide +kernel
theorem dX7_setStock_11 : decode cX7_setStock 11 = .ok (.invokestatic 53, 3) := by decide +kernel
theorem dX7_setStock_14 : decode cX7_setStock 14 = .ok (.ifCond .ne 5, 3) := by decide +kernel
theorem dX7_setStock_17 : decode cX7_setStock 17 = .ok (.iconst (-1), 1) := by decide +kernel
theorem dX7_setStock_18 : decode cX7_setStock 18 = .ok (.ireturn, 1) := by decide +kernel
theorem dX7_setStock_19 : decode cX7_setStock 19 = .ok (.aload_n 0, 1) := by decide +kernel
theorem dX7_setStock_20 : decode cX7_setStock 20 = .ok (.invokevirtual 87, 3) := by decide +kernel
theorem dX7_setStock_23 : decode cX7_setStock 23 = .ok (.aload_n 0, 1) := by decide +kernel
theorem dX7_setStock_24 : decode cX7_setStock 24 = .ok (.getfield 7, 3) := by decide +kernel
theorem dX7_setStock_27 : decode cX7_setStock 27 = .ok (.bipush 106, 2) := by decide +kernel
theorem dX7_setStock_29 : decode cX7_setStock 29 = .ok (.iload_n 1, 1) := by decide +kernel
theorem dX7_setStock_30 : decode cX7_setStock 30 = .ok (.iadd, 1) := by decide +kernel
theorem dX7_setStock_31 : decode cX7_setStock 31 = .ok (.iaload, 1) := by decide +kernel
theorem dX7_setStock_32 : decode cX7_setStock 32 = .ok (.istore_n 3, 1) := by decide +kernel
theorem dX7_setStock_33 : decode cX7_setStock 33 = .ok (.aload_n 0, 1) := by decide +kernel
theorem dX7_setStock_34 : decode cX7_setStock 34 = .ok (.getfield 7, 3) := by decide +kernel
theorem dX7_setStock_37 : decode cX7_setStock 37 = .ok (.bipush 106, 2) := by decide +kernel
theorem dX7_setStock_39 : decode cX7_setStock 39 = .ok (.iload_n 1, 1) := by decide +kernel
theorem dX7_setStock_40 : decode cX7_setStock 40 = .ok (.iadd, 1) := by decide +kernel
theorem dX7_setStock_41 : decode cX7_setStock 41 = .ok (.iload_n 2, 1) := by decide +kernel
theorem dX7_setStock_42 : decode cX7_setStock 42 = .ok (.iastore, 1) := by decide +kernel
theorem dX7_setStock_43 : decode cX7_setStock 43 = .ok (.iload_n 3, 1) := by decide +kernel
theorem dX7_setStock_44 : decode cX7_setStock 44 = .ok (.ireturn, 1) := by decide +kernel
theorem dX7_type_0 : decode cX7_type 0 = .ok (.iload_n 1, 1) := by decide +kernel
theorem dX7_type_1 : decode cX7_type 1 = .ok (.bipush 33, 2) := by decide +kernel
theorem dX7_type_3 : decode cX7_type 3 = .ok (.bipush 126, 2) := by decide +kernel
theorem dX7_type_5 : decode cX7_type 5 = .ok (.invokestatic 53, 3) := by decide +kernel
theorem dX7_type_8 : decode cX7_type 8 = .ok (.ifCond .ne 5, 3) := by decide +kernel
theorem dX7_type_11 : decode cX7_type 11 = .ok (.iconst (-1), 1) := by decide +kernel
theorem dX7_type_12 : decode cX7_type 12 = .ok (.ireturn, 1) := by decide +kernel
theorem dX7_type_13 : decode cX7_type 13 = .ok (.aload_n 0, 1) := by decide +kernel
theorem dX7_type_14 : decode cX7_type 14 = .ok (.getfield 100, 3) := by decide +kernel
theorem dX7_type_17 : decode cX7_type 17 = .ok (.bipush 80, 2) := by decide +kernel
theorem dX7_type_19 : decode cX7_type 19 = .ok (.if_icmp .ne 6, 3) := by decide +kernel
theorem dX7_type_22 : decode cX7_type 22 = .ok (.bipush (-3), 2) := by decide +kernel
theorem dX7_type_24 : decode cX7_type 24 = .ok (.ireturn, 1) := by decide +kernel
theorem dX7_type_25 : decode cX7_type 25 = .ok (.aload_n 0, 1) := by decide +kernel
theorem dX7_type_26 : decode cX7_type 26 = .ok (.getfield 13, 3) := by decide +kernel
theorem dX7_type_29 : decode cX7_type 29 = .ok (.aload_n 0, 1) := by decide +kernel
theorem dX7_type_30 : decode cX7_type 30 = .ok (.getfield 100, 3) := by decide +kernel
theorem dX7_type_33 : decode cX7_type 33 = .ok (.iload_n 1, 1) := by decide +kernel
theorem dX7_type_34 : decode cX7_type 34 = .ok (.iastore, 1) := by decide +kernel
theorem dX7_type_35 : decode cX7_type 35 = .ok (.aload_n 0, 1) := by decide +kernel
theorem dX7_type_36 : decode cX7_type 36 = .ok (.dup, 1) := by decide +kernel
theorem dX7_type_37 : decode cX7_type 37 = .ok (.getfield 100, 3) := by decide +kernel
theorem dX7_type_40 : decode cX7_type 40 = .ok (.iconst 1, 1) := by decide +kernel
theorem dX7_type_41 : decode cX7_type 41 = .ok (.iadd, 1) := by decide +kernel
theorem dX7_type_42 : decode cX7_type 42 = .ok (.putfield 100, 3) := by decide +kernel
theorem dX7_type_45 : decode cX7_type 45 = .ok (.aload_n 0, 1) := by decide +kernel
theorem dX7_type_46 : decode cX7_type 46 = .ok (.getfield 100, 3) := by decide +kernel
theorem dX7_type_49 : decode cX7_type 49 = .ok (.ireturn, 1) := by decide +kernel
theorem dX7_clear_0 : decode cX7_clear 0 = .ok (.aload_n 0, 1) := by decide +kernel
theorem dX7_clear_1 : decode cX7_clear 1 = .ok (.getfield 100, 3) := by decide +kernel
theorem dX7_clear_4 : decode cX7_clear 4 = .ok (.istore_n 1, 1) := by decide +kernel
theorem dX7_clear_5 : decode cX7_clear 5 = .ok (.aload_n 0, 1) := by decide +kernel
theorem dX7_clear_6 : decode cX7_clear 6 = .ok (.iconst 0, 1) := by decide +kernel
theorem dX7_clear_7 : decode cX7_clear 7 = .ok (.putfield 100, 3) := by decide +kernel
theorem dX7_clear_10 : decode cX7_clear 10 = .ok (.iload_n 1, 1) := by decide +kernel
theorem dX7_clear_11 : decode cX7_clear 11 = .ok (.ireturn, 1) := by decide +kernel
theorem dX7_here_0 : decode cX7_here 0 = .ok (.aload_n 0, 1) := by decide +kernel
theorem dX7_here_1 : decode cX7_here 1 = .ok (.getfield 103, 3) := by decide +kernel
theorem dX7_here_4 : decode cX7_here 4 = .ok (.aload_n 0, 1) := by decide +kernel
theorem dX7_here_5 : decode cX7_here 5 = .ok (.getfield 100, 3) := by decide +kernel
theorem dX7_here_8 : decode cX7_here 8 = .ok (.if_icmp .ge 15, 3) := by decide +kernel
theorem dX7_here_11 : decode cX7_here 11 = .ok (.aload_n 0, 1) := by decide +kernel
theorem dX7_here_12 : decode cX7_here 12 = .ok (.getfield 13, 3) := by decide +kernel
theorem dX7_here_15 : decode cX7_here 15 = .ok (.aload_n 0, 1) := by decide +kernel
theorem dX7_here_16 : decode cX7_here 16 = .ok (.getfield 103, 3) := by decide +kernel
theorem dX7_here_19 : decode cX7_here 19 = .ok (.iaload, 1) := by decide +kernel
theorem dX7_here_20 : decode cX7_here 20 = .ok (.goto 5, 3) := by decide +kernel
theorem dX7_here_23 : decode cX7_here 23 = .ok (.bipush (-9), 2) := by decide +kernel
theorem dX7_here_25 : decode cX7_here 25 = .ok (.ireturn, 1) := by decide +kernel
theorem dX7_takes_0 : decode cX7_takes 0 = .ok (.aload_n 0, 1) := by decide +kernel
theorem dX7_takes_1 : decode cX7_takes 1 = .ok (.invokevirtual 106, 3) := by decide +kernel
theorem dX7_takes_4 : decode cX7_takes 4 = .ok (.iload_n 1, 1) := by decide +kernel
theorem dX7_takes_5 : decode cX7_takes 5 = .ok (.if_icmp .ne 7, 3) := by decide +kernel
theorem dX7_takes_8 : decode cX7_takes 8 = .ok (.iconst 1, 1) := by decide +kernel
theorem dX7_takes_9 : decode cX7_takes 9 = .ok (.goto 4, 3) := by decide +kernel
theorem dX7_takes_12 : decode cX7_takes 12 = .ok (.iconst 0, 1) := by decide +kernel
theorem dX7_takes_13 : decode cX7_takes 13 = .ok (.istore_n 2, 1) := by decide +kernel
theorem dX7_takes_14 : decode cX7_takes 14 = .ok (.aload_n 0, 1) := by decide +kernel
theorem dX7_takes_15 : decode cX7_takes 15 = .ok (.dup, 1) := by decide +kernel
theorem dX7_takes_16 : decode cX7_takes 16 = .ok (.getfield 103, 3) := by decide +kernel
theorem dX7_takes_19 : decode cX7_takes 19 = .ok (.iload_n 2, 1) := by decide +kernel
theorem dX7_takes_20 : decode cX7_takes 20 = .ok (.ifCond .eq 7, 3) := by decide +kernel
theorem dX7_takes_23 : decode cX7_takes 23 = .ok (.iconst 1, 1) := by decide +kernel
theorem dX7_takes_24 : decode cX7_takes 24 = .ok (.goto 4, 3) := by decide +kernel
theorem dX7_takes_27 : decode cX7_takes 27 = .ok (.iconst 0, 1) := by decide +kernel
theorem dX7_takes_28 : decode cX7_takes 28 = .ok (.iadd, 1) := by decide +kernel
theorem dX7_takes_29 : decode cX7_takes 29 = .ok (.putfield 103, 3) := by decide +kernel
theorem dX7_takes_32 : decode cX7_takes 32 = .ok (.iload_n 2, 1) := by decide +kernel
theorem dX7_takes_33 : decode cX7_takes 33 = .ok (.ireturn, 1) := by decide +kernel
theorem dX7_isFigure_0 : decode cX7_isFigure 0 = .ok (.aload_n 0, 1) := by decide +kernel
theorem dX7_isFigure_1 : decode cX7_isFigure 1 = .ok (.invokevirtual 106, 3) := by decide +kernel
theorem dX7_isFigure_4 : decode cX7_isFigure 4 = .ok (.bipush 48, 2) := by decide +kernel
theorem dX7_isFigure_6 : decode cX7_isFigure 6 = .ok (.bipush 57, 2) := by decide +kernel
theorem dX7_isFigure_8 : decode cX7_isFigure 8 = .ok (.invokestatic 53, 3) := by decide +kernel
theorem dX7_isFigure_11 : decode cX7_isFigure 11 = .ok (.ireturn, 1) := by decide +kernel
theorem dX7_readsNumber_0 : decode cX7_readsNumber 0 = .ok (.iconst 0, 1) := by decide +kernel
theorem dX7_readsNumber_1 : decode cX7_readsNumber 1 = .ok (.istore 4, 2) := by decide +kernel
theorem dX7_readsNumber_3 : decode cX7_readsNumber 3 = .ok (.aload_n 0, 1) := by decide +kernel
theorem dX7_readsNumber_4 : decode cX7_readsNumber 4 = .ok (.iconst 0, 1) := by decide +kernel
theorem dX7_readsNumber_5 : decode cX7_readsNumber 5 = .ok (.putfield 109, 3) := by decide +kernel
theorem dX7_readsNumber_8 : decode cX7_readsNumber 8 = .ok (.aload_n 0, 1) := by decide +kernel
theorem dX7_readsNumber_9 : decode cX7_readsNumber 9 = .ok (.invokevirtual 112, 3) := by decide +kernel
theorem dX7_readsNumber_12 : decode cX7_readsNumber 12 = .ok (.ifCond .eq 44, 3) := by decide +kernel
theorem dX7_readsNumber_15 : decode cX7_readsNumber 15 = .ok (.iload 4, 2) := by decide +kernel
theorem dX7_readsNumber_17 : decode cX7_readsNumber 17 = .ok (.iload_n 1, 1) := by decide +kernel
theorem dX7_readsNumber_18 : decode cX7_readsNumber 18 = .ok (.if_icmp .ge 38, 3) := by decide +kernel
theorem dX7_readsNumber_21 : decode cX7_readsNumber 21 = .ok (.aload_n 0, 1) := by decide +kernel
theorem dX7_readsNumber_22 : decode cX7_readsNumber 22 = .ok (.bipush 10, 2) := by decide +kernel
theorem dX7_readsNumber_24 : decode cX7_readsNumber 24 = .ok (.aload_n 0, 1) := by decide +kernel
theorem dX7_readsNumber_25 : decode cX7_readsNumber 25 = .ok (.getfield 109, 3) := by decide +kernel
theorem dX7_readsNumber_28 : decode cX7_readsNumber 28 = .ok (.imul, 1) := by decide +kernel
theorem dX7_readsNumber_29 : decode cX7_readsNumber 29 = .ok (.aload_n 0, 1) := by decide +kernel
theorem dX7_readsNumber_30 : decode cX7_readsNumber 30 = .ok (.invokevirtual 106, 3) := by decide +kernel
theorem dX7_readsNumber_33 : decode cX7_readsNumber 33 = .ok (.iadd, 1) := by decide +kernel
theorem dX7_readsNumber_34 : decode cX7_readsNumber 34 = .ok (.bipush 48, 2) := by decide +kernel
theorem dX7_readsNumber_36 : decode cX7_readsNumber 36 = .ok (.isub, 1) := by decide +kernel
theorem dX7_readsNumber_37 : decode cX7_readsNumber 37 = .ok (.putfield 109, 3) := by decide +kernel
theorem dX7_readsNumber_40 : decode cX7_readsNumber 40 = .ok (.aload_n 0, 1) := by decide +kernel
theorem dX7_readsNumber_41 : decode cX7_readsNumber 41 = .ok (.dup, 1) := by decide +kernel
theorem dX7_readsNumber_42 : decode cX7_readsNumber 42 = .ok (.getfield 103, 3) := by decide +kernel
theorem dX7_readsNumber_45 : decode cX7_readsNumber 45 = .ok (.iconst 1, 1) := by decide +kernel
theorem dX7_readsNumber_46 : decode cX7_readsNumber 46 = .ok (.iadd, 1) := by decide +kernel
theorem dX7_readsNumber_47 : decode cX7_readsNumber 47 = .ok (.putfield 103, 3) := by decide +kernel
theorem dX7_readsNumber_50 : decode cX7_readsNumber 50 = .ok (.iinc 4 1, 3) := by decide +kernel
theorem dX7_readsNumber_53 : decode cX7_readsNumber 53 = .ok (.goto (-45), 3) := by decide +kernel
theorem dX7_readsNumber_56 : decode cX7_readsNumber 56 = .ok (.iload 4, 2) := by decide +kernel
theorem dX7_readsNumber_58 : decode cX7_readsNumber 58 = .ok (.ifCond .eq 10, 3) := by decide +kernel
theorem dX7_readsNumber_61 : decode cX7_readsNumber 61 = .ok (.aload_n 0, 1) := by decide +kernel
theorem dX7_readsNumber_62 : decode cX7_readsNumber 62 = .ok (.invokevirtual 112, 3) := by decide +kernel
theorem dX7_readsNumber_65 : decode cX7_readsNumber 65 = .ok (.ifCond .eq 5, 3) := by decide +kernel
theorem dX7_readsNumber_68 : decode cX7_readsNumber 68 = .ok (.iconst 0, 1) := by decide +kernel
theorem dX7_readsNumber_69 : decode cX7_readsNumber 69 = .ok (.ireturn, 1) := by decide +kernel
theorem dX7_readsNumber_70 : decode cX7_readsNumber 70 = .ok (.aload_n 0, 1) := by decide +kernel
theorem dX7_readsNumber_71 : decode cX7_readsNumber 71 = .ok (.getfield 109, 3) := by decide +kernel
theorem dX7_readsNumber_74 : decode cX7_readsNumber 74 = .ok (.iload_n 2, 1) := by decide +kernel
theorem dX7_readsNumber_75 : decode cX7_readsNumber 75 = .ok (.iload_n 3, 1) := by decide +kernel
theorem dX7_readsNumber_76 : decode cX7_readsNumber 76 = .ok (.invokestatic 53, 3) := by decide +kernel
theorem dX7_readsNumber_79 : decode cX7_readsNumber 79 = .ok (.istore 5, 2) := by decide +kernel
theorem dX7_readsNumber_81 : decode cX7_readsNumber 81 = .ok (.aload_n 0, 1) := by decide +kernel
theorem dX7_readsNumber_82 : decode cX7_readsNumber 82 = .ok (.dup, 1) := by decide +kernel
theorem dX7_readsNumber_83 : decode cX7_readsNumber 83 = .ok (.getfield 103, 3) := by decide +kernel
theorem dX7_readsNumber_86 : decode cX7_readsNumber 86 = .ok (.iload 5, 2) := by decide +kernel
theorem dX7_readsNumber_88 : decode cX7_readsNumber 88 = .ok (.ifCond .eq 7, 3) := by decide +kernel
theorem dX7_readsNumber_91 : decode cX7_readsNumber 91 = .ok (.iconst 0, 1) := by decide +kernel
theorem dX7_readsNumber_92 : decode cX7_readsNumber 92 = .ok (.goto 4, 3) := by decide +kernel
theorem dX7_readsNumber_95 : decode cX7_readsNumber 95 = .ok (.iconst 1, 1) := by decide +kernel
theorem dX7_readsNumber_96 : decode cX7_readsNumber 96 = .ok (.isub, 1) := by decide +kernel
theorem dX7_readsNumber_97 : decode cX7_readsNumber 97 = .ok (.putfield 103, 3) := by decide +kernel
theorem dX7_readsNumber_100 : decode cX7_readsNumber 100 = .ok (.iload 5, 2) := by decide +kernel
theorem dX7_readsNumber_102 : decode cX7_readsNumber 102 = .ok (.ireturn, 1) := by decide +kernel
theorem dX7_readsLight_0 : decode cX7_readsLight 0 = .ok (.aload_n 0, 1) := by decide +kernel
theorem dX7_readsLight_1 : decode cX7_readsLight 1 = .ok (.getfield 116, 3) := by decide +kernel
theorem dX7_readsLight_4 : decode cX7_readsLight 4 = .ok (.bipush 10, 2) := by decide +kernel
theorem dX7_readsLight_6 : decode cX7_readsLight 6 = .ok (.if_icmp .ne 5, 3) := by decide +kernel
theorem dX7_readsLight_9 : decode cX7_readsLight 9 = .ok (.iconst 0, 1) := by decide +kernel
theorem dX7_readsLight_10 : decode cX7_readsLight 10 = .ok (.ireturn, 1) := by decide +kernel
theorem dX7_readsLight_11 : decode cX7_readsLight 11 = .ok (.aload_n 0, 1) := by decide +kernel
theorem dX7_readsLight_12 : decode cX7_readsLight 12 = .ok (.dup, 1) := by decide +kernel
theorem dX7_readsLight_13 : decode cX7_readsLight 13 = .ok (.getfield 103, 3) := by decide +kernel
theorem dX7_readsLight_16 : decode cX7_readsLight 16 = .ok (.iconst 1, 1) := by decide +kernel
theorem dX7_readsLight_17 : decode cX7_readsLight 17 = .ok (.iadd, 1) := by decide +kernel
theorem dX7_readsLight_18 : decode cX7_readsLight 18 = .ok (.putfield 103, 3) := by decide +kernel
theorem dX7_readsLight_21 : decode cX7_readsLight 21 = .ok (.iconst 5, 1) := by decide +kernel
theorem dX7_readsLight_22 : decode cX7_readsLight 22 = .ok (.aload_n 0, 1) := by decide +kernel
theorem dX7_readsLight_23 : decode cX7_readsLight 23 = .ok (.getfield 116, 3) := by decide +kernel
theorem dX7_readsLight_26 : decode cX7_readsLight 26 = .ok (.imul, 1) := by decide +kernel
theorem dX7_readsLight_27 : decode cX7_readsLight 27 = .ok (.istore_n 1, 1) := by decide +kernel
theorem dX7_readsLight_28 : decode cX7_readsLight 28 = .ok (.aload_n 0, 1) := by decide +kernel
theorem dX7_readsLight_29 : decode cX7_readsLight 29 = .ok (.iconst 3, 1) := by decide +kernel
theorem dX7_readsLight_30 : decode cX7_readsLight 30 = .ok (.iconst 0, 1) := by decide +kernel
theorem dX7_readsLight_31 : decode cX7_readsLight 31 = .ok (.sipush 200, 3) := by decide +kernel
theorem dX7_readsLight_34 : decode cX7_readsLight 34 = .ok (.invokevirtual 119, 3) := by decide +kernel
theorem dX7_readsLight_37 : decode cX7_readsLight 37 = .ok (.ifCond .ne 5, 3) := by decide +kernel
theorem dX7_readsLight_40 : decode cX7_readsLight 40 = .ok (.iconst 0, 1) := by decide +kernel
theorem dX7_readsLight_41 : decode cX7_readsLight 41 = .ok (.ireturn, 1) := by decide +kernel
theorem dX7_readsLight_42 : decode cX7_readsLight 42 = .ok (.aload_n 0, 1) := by decide +kernel
theorem dX7_readsLight_43 : decode cX7_readsLight 43 = .ok (.getfield 16, 3) := by decide +kernel
theorem dX7_readsLight_46 : decode cX7_readsLight 46 = .ok (.iload_n 1, 1) := by decide +kernel
theorem dX7_readsLight_47 : decode cX7_readsLight 47 = .ok (.aload_n 0, 1) := by decide +kernel
theorem dX7_readsLight_48 : decode cX7_readsLight 48 = .ok (.getfield 109, 3) := by decide +kernel
theorem dX7_readsLight_51 : decode cX7_readsLight 51 = .ok (.iastore, 1) := by decide +kernel
theorem dX7_readsLight_52 : decode cX7_readsLight 52 = .ok (.aload_n 0, 1) := by decide +kernel
theorem dX7_readsLight_53 : decode cX7_readsLight 53 = .ok (.bipush 99, 2) := by decide +kernel
theorem dX7_readsLight_55 : decode cX7_readsLight 55 = .ok (.invokevirtual 122, 3) := by decide +kernel
theorem dX7_readsLight_58 : decode cX7_readsLight 58 = .ok (.ifCond .eq 13, 3) := by decide +kernel
theorem dX7_readsLight_61 : decode cX7_readsLight 61 = .ok (.aload_n 0, 1) := by decide +kernel
theorem dX7_readsLight_62 : decode cX7_readsLight 62 = .ok (.iconst 1, 1) := by decide +kernel
theorem dX7_readsLight_63 : decode cX7_readsLight 63 = .ok (.iconst 0, 1) := by decide +kernel
theorem dX7_readsLight_64 : decode cX7_readsLight 64 = .ok (.iconst 3, 1) := by decide +kernel
theorem dX7_readsLight_65 : decode cX7_readsLight 65 = .ok (.invokevirtual 119, 3) := by decide +kernel
theorem dX7_readsLight_68 : decode cX7_readsLight 68 = .ok (.ifCond .ne 5, 3) := by decide +kernel
theorem dX7_readsLight_71 : decode cX7_readsLight 71 = .ok (.iconst 0, 1) := by decide +kernel
theorem dX7_readsLight_72 : decode cX7_readsLight 72 = .ok (.ireturn, 1) := by decide +kernel
theorem dX7_readsLight_73 : decode cX7_readsLight 73 = .ok (.aload_n 0, 1) := by decide +kernel
theorem dX7_readsLight_74 : decode cX7_readsLight 74 = .ok (.getfield 16, 3) := by decide +kernel
theorem dX7_readsLight_77 : decode cX7_readsLight 77 = .ok (.iload_n 1, 1) := by decide +kernel
theorem dX7_readsLight_78 : decode cX7_readsLight 78 = .ok (.iconst 1, 1) := by decide +kernel
theorem dX7_readsLight_79 : decode cX7_readsLight 79 = .ok (.iadd, 1) := by decide +kernel
theorem dX7_readsLight_80 : decode cX7_readsLight 80 = .ok (.aload_n 0, 1) := by decide +kernel
theorem dX7_readsLight_81 : decode cX7_readsLight 81 = .ok (.getfield 109, 3) := by decide +kernel
theorem dX7_readsLight_84 : decode cX7_readsLight 84 = .ok (.iastore, 1) := by decide +kernel
theorem dX7_readsLight_85 : decode cX7_readsLight 85 = .ok (.aload_n 0, 1) := by decide +kernel
theorem dX7_readsLight_86 : decode cX7_readsLight 86 = .ok (.bipush 98, 2) := by decide +kernel
theorem dX7_readsLight_88 : decode cX7_readsLight 88 = .ok (.invokevirtual 122, 3) := by decide +kernel
theorem dX7_readsLight_91 : decode cX7_readsLight 91 = .ok (.ifCond .eq 13, 3) := by decide +kernel
theorem dX7_readsLight_94 : decode cX7_readsLight 94 = .ok (.aload_n 0, 1) := by decide +kernel
theorem dX7_readsLight_95 : decode cX7_readsLight 95 = .ok (.iconst 1, 1) := by decide +kernel
theorem dX7_readsLight_96 : decode cX7_readsLight 96 = .ok (.iconst 0, 1) := by decide +kernel
theorem dX7_readsLight_97 : decode cX7_readsLight 97 = .ok (.iconst 3, 1) := by decide +kernel
theorem dX7_readsLight_98 : decode cX7_readsLight 98 = .ok (.invokevirtual 119, 3) := by decide +kernel
theorem dX7_readsLight_101 : decode cX7_readsLight 101 = .ok (.ifCond .ne 5, 3) := by decide +kernel
theorem dX7_readsLight_104 : decode cX7_readsLight 104 = .ok (.iconst 0, 1) := by decide +kernel
theorem dX7_readsLight_105 : decode cX7_readsLight 105 = .ok (.ireturn, 1) := by decide +kernel
theorem dX7_readsLight_106 : decode cX7_readsLight 106 = .ok (.aload_n 0, 1) := by decide +kernel
theorem dX7_readsLight_107 : decode cX7_readsLight 107 = .ok (.getfield 16, 3) := by decide +kernel
theorem dX7_readsLight_110 : decode cX7_readsLight 110 = .ok (.iload_n 1, 1) := by decide +kernel
theorem dX7_readsLight_111 : decode cX7_readsLight 111 = .ok (.iconst 2, 1) := by decide +kernel
theorem dX7_readsLight_112 : decode cX7_readsLight 112 = .ok (.iadd, 1) := by decide +kernel
theorem dX7_readsLight_113 : decode cX7_readsLight 113 = .ok (.aload_n 0, 1) := by decide +kernel
theorem dX7_readsLight_114 : decode cX7_readsLight 114 = .ok (.getfield 109, 3) := by decide +kernel
theorem dX7_readsLight_117 : decode cX7_readsLight 117 = .ok (.iastore, 1) := by decide +kernel
theorem dX7_readsLight_118 : decode cX7_readsLight 118 = .ok (.aload_n 0, 1) := by decide +kernel
theorem dX7_readsLight_119 : decode cX7_readsLight 119 = .ok (.bipush 108, 2) := by decide +kernel
theorem dX7_readsLight_121 : decode cX7_readsLight 121 = .ok (.invokevirtual 122, 3) := by decide +kernel
theorem dX7_readsLight_124 : decode cX7_readsLight 124 = .ok (.ifCond .eq 13, 3) := by decide +kernel
theorem dX7_readsLight_127 : decode cX7_readsLight 127 = .ok (.aload_n 0, 1) := by decide +kernel
theorem dX7_readsLight_128 : decode cX7_readsLight 128 = .ok (.iconst 1, 1) := by decide +kernel
theorem dX7_readsLight_129 : decode cX7_readsLight 129 = .ok (.iconst 0, 1) := by decide +kernel
theorem dX7_readsLight_130 : decode cX7_readsLight 130 = .ok (.iconst 2, 1) := by decide +kernel
theorem dX7_readsLight_131 : decode cX7_readsLight 131 = .ok (.invokevirtual 119, 3) := by decide +kernel
theorem dX7_readsLight_134 : decode cX7_readsLight 134 = .ok (.ifCond .ne 5, 3) := by decide +kernel
theorem dX7_readsLight_137 : decode cX7_readsLight 137 = .ok (.iconst 0, 1) := by decide +kernel
theorem dX7_readsLight_138 : decode cX7_readsLight 138 = .ok (.ireturn, 1) := by decide +kernel
theorem dX7_readsLight_139 : decode cX7_readsLight 139 = .ok (.aload_n 0, 1) := by decide +kernel
theorem dX7_readsLight_140 : decode cX7_readsLight 140 = .ok (.getfield 16, 3) := by decide +kernel
theorem dX7_readsLight_143 : decode cX7_readsLight 143 = .ok (.iload_n 1, 1) := by decide +kernel
theorem dX7_readsLight_144 : decode cX7_readsLight 144 = .ok (.iconst 3, 1) := by decide +kernel
theorem dX7_readsLight_145 : decode cX7_readsLight 145 = .ok (.iadd, 1) := by decide +kernel
theorem dX7_readsLight_146 : decode cX7_readsLight 146 = .ok (.aload_n 0, 1) := by decide +kernel
theorem dX7_readsLight_147 : decode cX7_readsLight 147 = .ok (.getfield 109, 3) := by decide +kernel
theorem dX7_readsLight_150 : decode cX7_readsLight 150 = .ok (.iastore, 1) := by decide +kernel
theorem dX7_readsLight_151 : decode cX7_readsLight 151 = .ok (.aload_n 0, 1) := by decide +kernel
theorem dX7_readsLight_152 : decode cX7_readsLight 152 = .ok (.getfield 16, 3) := by decide +kernel
theorem dX7_readsLight_155 : decode cX7_readsLight 155 = .ok (.iload_n 1, 1) := by decide +kernel
theorem dX7_readsLight_156 : decode cX7_readsLight 156 = .ok (.iconst 4, 1) := by decide +kernel
theorem dX7_readsLight_157 : decode cX7_readsLight 157 = .ok (.iadd, 1) := by decide +kernel
theorem dX7_readsLight_158 : decode cX7_readsLight 158 = .ok (.aload_n 0, 1) := by decide +kernel
theorem dX7_readsLight_159 : decode cX7_readsLight 159 = .ok (.bipush 109, 2) := by decide +kernel
theorem dX7_readsLight_161 : decode cX7_readsLight 161 = .ok (.invokevirtual 122, 3) := by decide +kernel
theorem dX7_readsLight_164 : decode cX7_readsLight 164 = .ok (.ifCond .eq 7, 3) := by decide +kernel
theorem dX7_readsLight_167 : decode cX7_readsLight 167 = .ok (.iconst 1, 1) := by decide +kernel
theorem dX7_readsLight_168 : decode cX7_readsLight 168 = .ok (.goto 4, 3) := by decide +kernel
theorem dX7_readsLight_171 : decode cX7_readsLight 171 = .ok (.iconst 0, 1) := by decide +kernel
theorem dX7_readsLight_172 : decode cX7_readsLight 172 = .ok (.iastore, 1) := by decide +kernel
theorem dX7_readsLight_173 : decode cX7_readsLight 173 = .ok (.aload_n 0, 1) := by decide +kernel
theorem dX7_readsLight_174 : decode cX7_readsLight 174 = .ok (.dup, 1) := by decide +kernel
theorem dX7_readsLight_175 : decode cX7_readsLight 175 = .ok (.getfield 116, 3) := by decide +kernel
theorem dX7_readsLight_178 : decode cX7_readsLight 178 = .ok (.iconst 1, 1) := by decide +kernel
theorem dX7_readsLight_179 : decode cX7_readsLight 179 = .ok (.iadd, 1) := by decide +kernel
theorem dX7_readsLight_180 : decode cX7_readsLight 180 = .ok (.putfield 116, 3) := by decide +kernel
theorem dX7_readsLight_183 : decode cX7_readsLight 183 = .ok (.aload_n 0, 1) := by decide +kernel
theorem dX7_readsLight_184 : decode cX7_readsLight 184 = .ok (.bipush 59, 2) := by decide +kernel
theorem dX7_readsLight_186 : decode cX7_readsLight 186 = .ok (.invokevirtual 122, 3) := by decide +kernel
theorem dX7_readsLight_189 : decode cX7_readsLight 189 = .ok (.ireturn, 1) := by decide +kernel
theorem dX7_readsRoute_0 : decode cX7_readsRoute 0 = .ok (.aload_n 0, 1) := by decide +kernel
theorem dX7_readsRoute_1 : decode cX7_readsRoute 1 = .ok (.getfield 125, 3) := by decide +kernel
theorem dX7_readsRoute_4 : decode cX7_readsRoute 4 = .ok (.bipush 6, 2) := by decide +kernel
theorem dX7_readsRoute_6 : decode cX7_readsRoute 6 = .ok (.if_icmp .ne 5, 3) := by decide +kernel
theorem dX7_readsRoute_9 : decode cX7_readsRoute 9 = .ok (.iconst 0, 1) := by decide +kernel
theorem dX7_readsRoute_10 : decode cX7_readsRoute 10 = .ok (.ireturn, 1) := by decide +kernel
theorem dX7_readsRoute_11 : decode cX7_readsRoute 11 = .ok (.aload_n 0, 1) := by decide +kernel
theorem dX7_readsRoute_12 : decode cX7_readsRoute 12 = .ok (.dup, 1) := by decide +kernel
theorem dX7_readsRoute_13 : decode cX7_readsRoute 13 = .ok (.getfield 103, 3) := by decide +kernel
theorem dX7_readsRoute_16 : decode cX7_readsRoute 16 = .ok (.iconst 1, 1) := by decide +kernel
theorem dX7_readsRoute_17 : decode cX7_readsRoute 17 = .ok (.iadd, 1) := by decide +kernel
theorem dX7_readsRoute_18 : decode cX7_readsRoute 18 = .ok (.putfield 103, 3) := by decide +kernel
theorem dX7_readsRoute_21 : decode cX7_readsRoute 21 = .ok (.iconst 2, 1) := by decide +kernel
theorem dX7_readsRoute_22 : decode cX7_readsRoute 22 = .ok (.aload_n 0, 1) := by decide +kernel
theorem dX7_readsRoute_23 : decode cX7_readsRoute 23 = .ok (.getfield 125, 3) := by decide +kernel
theorem dX7_readsRoute_26 : decode cX7_readsRoute 26 = .ok (.imul, 1) := by decide +kernel
theorem dX7_readsRoute_27 : decode cX7_readsRoute 27 = .ok (.istore_n 1, 1) := by decide +kernel
theorem dX7_readsRoute_28 : decode cX7_readsRoute 28 = .ok (.aload_n 0, 1) := by decide +kernel
theorem dX7_readsRoute_29 : decode cX7_readsRoute 29 = .ok (.iconst 3, 1) := by decide +kernel
theorem dX7_readsRoute_30 : decode cX7_readsRoute 30 = .ok (.iconst 0, 1) := by decide +kernel
theorem dX7_readsRoute_31 : decode cX7_readsRoute 31 = .ok (.sipush 200, 3) := by decide +kernel
theorem dX7_readsRoute_34 : decode cX7_readsRoute 34 = .ok (.invokevirtual 119, 3) := by decide +kernel
theorem dX7_readsRoute_37 : decode cX7_readsRoute 37 = .ok (.ifCond .ne 5, 3) := by decide +kernel
theorem dX7_readsRoute_40 : decode cX7_readsRoute 40 = .ok (.iconst 0, 1) := by decide +kernel
theorem dX7_readsRoute_41 : decode cX7_readsRoute 41 = .ok (.ireturn, 1) := by decide +kernel
theorem dX7_readsRoute_42 : decode cX7_readsRoute 42 = .ok (.aload_n 0, 1) := by decide +kernel
theorem dX7_readsRoute_43 : decode cX7_readsRoute 43 = .ok (.getfield 19, 3) := by decide +kernel
theorem dX7_readsRoute_46 : decode cX7_readsRoute 46 = .ok (.iload_n 1, 1) := by decide +kernel
theorem dX7_readsRoute_47 : decode cX7_readsRoute 47 = .ok (.aload_n 0, 1) := by decide +kernel
theorem dX7_readsRoute_48 : decode cX7_readsRoute 48 = .ok (.getfield 109, 3) := by decide +kernel
theorem dX7_readsRoute_51 : decode cX7_readsRoute 51 = .ok (.iastore, 1) := by decide +kernel
theorem dX7_readsRoute_52 : decode cX7_readsRoute 52 = .ok (.aload_n 0, 1) := by decide +kernel
theorem dX7_readsRoute_53 : decode cX7_readsRoute 53 = .ok (.bipush 45, 2) := by decide +kernel
theorem dX7_readsRoute_55 : decode cX7_readsRoute 55 = .ok (.invokevirtual 122, 3) := by decide +kernel
theorem dX7_readsRoute_58 : decode cX7_readsRoute 58 = .ok (.ifCond .eq 20, 3) := by decide +kernel
theorem dX7_readsRoute_61 : decode cX7_readsRoute 61 = .ok (.aload_n 0, 1) := by decide +kernel
theorem dX7_readsRoute_62 : decode cX7_readsRoute 62 = .ok (.iconst 3, 1) := by decide +kernel
theorem dX7_readsRoute_63 : decode cX7_readsRoute 63 = .ok (.aload_n 0, 1) := by decide +kernel
theorem dX7_readsRoute_64 : decode cX7_readsRoute 64 = .ok (.getfield 19, 3) := by decide +kernel
theorem dX7_readsRoute_67 : decode cX7_readsRoute 67 = .ok (.iload_n 1, 1) := by decide +kernel
theorem dX7_readsRoute_68 : decode cX7_readsRoute 68 = .ok (.iaload, 1) := by decide +kernel
theorem dX7_readsRoute_69 : decode cX7_readsRoute 69 = .ok (.sipush 200, 3) := by decide +kernel
theorem dX7_readsRoute_72 : decode cX7_readsRoute 72 = .ok (.invokevirtual 119, 3) := by decide +kernel
theorem dX7_readsRoute_75 : decode cX7_readsRoute 75 = .ok (.ifCond .ne 5, 3) := by decide +kernel
theorem dX7_readsRoute_78 : decode cX7_readsRoute 78 = .ok (.iconst 0, 1) := by decide +kernel
theorem dX7_readsRoute_79 : decode cX7_readsRoute 79 = .ok (.ireturn, 1) := by decide +kernel
theorem dX7_readsRoute_80 : decode cX7_readsRoute 80 = .ok (.aload_n 0, 1) := by decide +kernel
theorem dX7_readsRoute_81 : decode cX7_readsRoute 81 = .ok (.getfield 19, 3) := by decide +kernel
theorem dX7_readsRoute_84 : decode cX7_readsRoute 84 = .ok (.iload_n 1, 1) := by decide +kernel
theorem dX7_readsRoute_85 : decode cX7_readsRoute 85 = .ok (.iconst 1, 1) := by decide +kernel
theorem dX7_readsRoute_86 : decode cX7_readsRoute 86 = .ok (.iadd, 1) := by decide +kernel
theorem dX7_readsRoute_87 : decode cX7_readsRoute 87 = .ok (.aload_n 0, 1) := by decide +kernel
theorem dX7_readsRoute_88 : decode cX7_readsRoute 88 = .ok (.getfield 109, 3) := by decide +kernel
theorem dX7_readsRoute_91 : decode cX7_readsRoute 91 = .ok (.iastore, 1) := by decide +kernel
theorem dX7_readsRoute_92 : decode cX7_readsRoute 92 = .ok (.aload_n 0, 1) := by decide +kernel
theorem dX7_readsRoute_93 : decode cX7_readsRoute 93 = .ok (.dup, 1) := by decide +kernel
theorem dX7_readsRoute_94 : decode cX7_readsRoute 94 = .ok (.getfield 125, 3) := by decide +kernel
theorem dX7_readsRoute_97 : decode cX7_readsRoute 97 = .ok (.iconst 1, 1) := by decide +kernel
theorem dX7_readsRoute_98 : decode cX7_readsRoute 98 = .ok (.iadd, 1) := by decide +kernel
theorem dX7_readsRoute_99 : decode cX7_readsRoute 99 = .ok (.putfield 125, 3) := by decide +kernel
theorem dX7_readsRoute_102 : decode cX7_readsRoute 102 = .ok (.aload_n 0, 1) := by decide +kernel
theorem dX7_readsRoute_103 : decode cX7_readsRoute 103 = .ok (.bipush 59, 2) := by decide +kernel
theorem dX7_readsRoute_105 : decode cX7_readsRoute 105 = .ok (.invokevirtual 122, 3) := by decide +kernel
theorem dX7_readsRoute_108 : decode cX7_readsRoute 108 = .ok (.ireturn, 1) := by decide +kernel
theorem dX7_load_0 : decode cX7_load 0 = .ok (.aload_n 0, 1) := by decide +kernel
theorem dX7_load_1 : decode cX7_load 1 = .ok (.iconst 0, 1) := by decide +kernel
theorem dX7_load_2 : decode cX7_load 2 = .ok (.putfield 103, 3) := by decide +kernel
theorem dX7_load_5 : decode cX7_load 5 = .ok (.aload_n 0, 1) := by decide +kernel
theorem dX7_load_6 : decode cX7_load 6 = .ok (.iconst 0, 1) := by decide +kernel
theorem dX7_load_7 : decode cX7_load 7 = .ok (.putfield 116, 3) := by decide +kernel
theorem dX7_load_10 : decode cX7_load 10 = .ok (.aload_n 0, 1) := by decide +kernel
theorem dX7_load_11 : decode cX7_load 11 = .ok (.iconst 0, 1) := by decide +kernel
theorem dX7_load_12 : decode cX7_load 12 = .ok (.putfield 125, 3) := by decide +kernel
theorem dX7_load_15 : decode cX7_load 15 = .ok (.iconst 1, 1) := by decide +kernel
theorem dX7_load_16 : decode cX7_load 16 = .ok (.istore_n 1, 1) := by decide +kernel
theorem dX7_load_17 : decode cX7_load 17 = .ok (.iload_n 1, 1) := by decide +kernel
theorem dX7_load_18 : decode cX7_load 18 = .ok (.ifCond .eq 55, 3) := by decide +kernel
theorem dX7_load_21 : decode cX7_load 21 = .ok (.aload_n 0, 1) := by decide +kernel
theorem dX7_load_22 : decode cX7_load 22 = .ok (.getfield 103, 3) := by decide +kernel
theorem dX7_load_25 : decode cX7_load 25 = .ok (.aload_n 0, 1) := by decide +kernel
theorem dX7_load_26 : decode cX7_load 26 = .ok (.getfield 100, 3) := by decide +kernel
theorem dX7_load_29 : decode cX7_load 29 = .ok (.if_icmp .ge 44, 3) := by decide +kernel
theorem dX7_load_32 : decode cX7_load 32 = .ok (.aload_n 0, 1) := by decide +kernel
theorem dX7_load_33 : decode cX7_load 33 = .ok (.invokevirtual 106, 3) := by decide +kernel
theorem dX7_load_36 : decode cX7_load 36 = .ok (.bipush 112, 2) := by decide +kernel
theorem dX7_load_38 : decode cX7_load 38 = .ok (.if_icmp .ne 10, 3) := by decide +kernel
theorem dX7_load_41 : decode cX7_load 41 = .ok (.aload_n 0, 1) := by decide +kernel
theorem dX7_load_42 : decode cX7_load 42 = .ok (.invokevirtual 128, 3) := by decide +kernel
theorem dX7_load_45 : decode cX7_load 45 = .ok (.goto 24, 3) := by decide +kernel
theorem dX7_load_48 : decode cX7_load 48 = .ok (.aload_n 0, 1) := by decide +kernel
theorem dX7_load_49 : decode cX7_load 49 = .ok (.invokevirtual 106, 3) := by decide +kernel
theorem dX7_load_52 : decode cX7_load 52 = .ok (.bipush 114, 2) := by decide +kernel
theorem dX7_load_54 : decode cX7_load 54 = .ok (.if_icmp .ne 14, 3) := by decide +kernel
theorem dX7_load_57 : decode cX7_load 57 = .ok (.aload_n 0, 1) := by decide +kernel
theorem dX7_load_58 : decode cX7_load 58 = .ok (.invokevirtual 131, 3) := by decide +kernel
theorem dX7_load_61 : decode cX7_load 61 = .ok (.ifCond .eq 7, 3) := by decide +kernel
theorem dX7_load_64 : decode cX7_load 64 = .ok (.iconst 1, 1) := by decide +kernel
theorem dX7_load_65 : decode cX7_load 65 = .ok (.goto 4, 3) := by decide +kernel
theorem dX7_load_68 : decode cX7_load 68 = .ok (.iconst 0, 1) := by decide +kernel
theorem dX7_load_69 : decode cX7_load 69 = .ok (.istore_n 1, 1) := by decide +kernel
theorem dX7_load_70 : decode cX7_load 70 = .ok (.goto (-53), 3) := by decide +kernel
theorem dX7_load_73 : decode cX7_load 73 = .ok (.iload_n 1, 1) := by decide +kernel
theorem dX7_load_74 : decode cX7_load 74 = .ok (.ifCond .ne 11, 3) := by decide +kernel
theorem dX7_load_77 : decode cX7_load 77 = .ok (.bipush (-10), 2) := by decide +kernel
theorem dX7_load_79 : decode cX7_load 79 = .ok (.aload_n 0, 1) := by decide +kernel
theorem dX7_load_80 : decode cX7_load 80 = .ok (.getfield 103, 3) := by decide +kernel
theorem dX7_load_83 : decode cX7_load 83 = .ok (.isub, 1) := by decide +kernel
theorem dX7_load_84 : decode cX7_load 84 = .ok (.ireturn, 1) := by decide +kernel
theorem dX7_load_85 : decode cX7_load 85 = .ok (.aload_n 0, 1) := by decide +kernel
theorem dX7_load_86 : decode cX7_load 86 = .ok (.invokevirtual 87, 3) := by decide +kernel
theorem dX7_load_89 : decode cX7_load 89 = .ok (.aload_n 0, 1) := by decide +kernel
theorem dX7_load_90 : decode cX7_load 90 = .ok (.getfield 7, 3) := by decide +kernel
theorem dX7_load_93 : decode cX7_load 93 = .ok (.iconst 0, 1) := by decide +kernel
theorem dX7_load_94 : decode cX7_load 94 = .ok (.aload_n 0, 1) := by decide +kernel
theorem dX7_load_95 : decode cX7_load 95 = .ok (.getfield 116, 3) := by decide +kernel
theorem dX7_load_98 : decode cX7_load 98 = .ok (.iastore, 1) := by decide +kernel
theorem dX7_load_99 : decode cX7_load 99 = .ok (.iconst 0, 1) := by decide +kernel
theorem dX7_load_100 : decode cX7_load 100 = .ok (.istore_n 2, 1) := by decide +kernel
theorem dX7_load_101 : decode cX7_load 101 = .ok (.iload_n 2, 1) := by decide +kernel
theorem dX7_load_102 : decode cX7_load 102 = .ok (.aload_n 0, 1) := by decide +kernel
theorem dX7_load_103 : decode cX7_load 103 = .ok (.getfield 116, 3) := by decide +kernel
theorem dX7_load_106 : decode cX7_load 106 = .ok (.if_icmp .ge 71, 3) := by decide +kernel
theorem dX7_load_109 : decode cX7_load 109 = .ok (.aload_n 0, 1) := by decide +kernel
theorem dX7_load_110 : decode cX7_load 110 = .ok (.iload_n 2, 1) := by decide +kernel
theorem dX7_load_111 : decode cX7_load 111 = .ok (.aload_n 0, 1) := by decide +kernel
theorem dX7_load_112 : decode cX7_load 112 = .ok (.getfield 16, 3) := by decide +kernel
theorem dX7_load_115 : decode cX7_load 115 = .ok (.iconst 5, 1) := by decide +kernel
theorem dX7_load_116 : decode cX7_load 116 = .ok (.iload_n 2, 1) := by decide +kernel
theorem dX7_load_117 : decode cX7_load 117 = .ok (.imul, 1) := by decide +kernel
theorem dX7_load_118 : decode cX7_load 118 = .ok (.iaload, 1) := by decide +kernel
theorem dX7_load_119 : decode cX7_load 119 = .ok (.aload_n 0, 1) := by decide +kernel
theorem dX7_load_120 : decode cX7_load 120 = .ok (.getfield 16, 3) := by decide +kernel
theorem dX7_load_123 : decode cX7_load 123 = .ok (.iconst 5, 1) := by decide +kernel
theorem dX7_load_124 : decode cX7_load 124 = .ok (.iload_n 2, 1) := by decide +kernel
theorem dX7_load_125 : decode cX7_load 125 = .ok (.imul, 1) := by decide +kernel
theorem dX7_load_126 : decode cX7_load 126 = .ok (.iconst 1, 1) := by decide +kernel
theorem dX7_load_127 : decode cX7_load 127 = .ok (.iadd, 1) := by decide +kernel
theorem dX7_load_128 : decode cX7_load 128 = .ok (.iaload, 1) := by decide +kernel
theorem dX7_load_129 : decode cX7_load 129 = .ok (.aload_n 0, 1) := by decide +kernel
theorem dX7_load_130 : decode cX7_load 130 = .ok (.getfield 16, 3) := by decide +kernel
theorem dX7_load_133 : decode cX7_load 133 = .ok (.iconst 5, 1) := by decide +kernel
theorem dX7_load_134 : decode cX7_load 134 = .ok (.iload_n 2, 1) := by decide +kernel
theorem dX7_load_135 : decode cX7_load 135 = .ok (.imul, 1) := by decide +kernel
theorem dX7_load_136 : decode cX7_load 136 = .ok (.iconst 2, 1) := by decide +kernel
theorem dX7_load_137 : decode cX7_load 137 = .ok (.iadd, 1) := by decide +kernel
theorem dX7_load_138 : decode cX7_load 138 = .ok (.iaload, 1) := by decide +kernel
theorem dX7_load_139 : decode cX7_load 139 = .ok (.aload_n 0, 1) := by decide +kernel
theorem dX7_load_140 : decode cX7_load 140 = .ok (.getfield 16, 3) := by decide +kernel
theorem dX7_load_143 : decode cX7_load 143 = .ok (.iconst 5, 1) := by decide +kernel
theorem dX7_load_144 : decode cX7_load 144 = .ok (.iload_n 2, 1) := by decide +kernel
theorem dX7_load_145 : decode cX7_load 145 = .ok (.imul, 1) := by decide +kernel
theorem dX7_load_146 : decode cX7_load 146 = .ok (.iconst 3, 1) := by decide +kernel
theorem dX7_load_147 : decode cX7_load 147 = .ok (.iadd, 1) := by decide +kernel
theorem dX7_load_148 : decode cX7_load 148 = .ok (.iaload, 1) := by decide +kernel
theorem dX7_load_149 : decode cX7_load 149 = .ok (.aload_n 0, 1) := by decide +kernel
theorem dX7_load_150 : decode cX7_load 150 = .ok (.getfield 16, 3) := by decide +kernel
theorem dX7_load_153 : decode cX7_load 153 = .ok (.iconst 5, 1) := by decide +kernel
theorem dX7_load_154 : decode cX7_load 154 = .ok (.iload_n 2, 1) := by decide +kernel
theorem dX7_load_155 : decode cX7_load 155 = .ok (.imul, 1) := by decide +kernel
theorem dX7_load_156 : decode cX7_load 156 = .ok (.iconst 4, 1) := by decide +kernel
theorem dX7_load_157 : decode cX7_load 157 = .ok (.iadd, 1) := by decide +kernel
theorem dX7_load_158 : decode cX7_load 158 = .ok (.iaload, 1) := by decide +kernel
theorem dX7_load_159 : decode cX7_load 159 = .ok (.iconst 1, 1) := by decide +kernel
theorem dX7_load_160 : decode cX7_load 160 = .ok (.if_icmp .ne 7, 3) := by decide +kernel
theorem dX7_load_163 : decode cX7_load 163 = .ok (.iconst 1, 1) := by decide +kernel
theorem dX7_load_164 : decode cX7_load 164 = .ok (.goto 4, 3) := by decide +kernel
theorem dX7_load_167 : decode cX7_load 167 = .ok (.iconst 0, 1) := by decide +kernel
theorem dX7_load_168 : decode cX7_load 168 = .ok (.invokevirtual 90, 3) := by decide +kernel
theorem dX7_load_171 : decode cX7_load 171 = .ok (.iinc 2 1, 3) := by decide +kernel
theorem dX7_load_174 : decode cX7_load 174 = .ok (.goto (-73), 3) := by decide +kernel
theorem dX7_load_177 : decode cX7_load 177 = .ok (.aload_n 0, 1) := by decide +kernel
theorem dX7_load_178 : decode cX7_load 178 = .ok (.getfield 7, 3) := by decide +kernel
theorem dX7_load_181 : decode cX7_load 181 = .ok (.bipush 91, 2) := by decide +kernel
theorem dX7_load_183 : decode cX7_load 183 = .ok (.aload_n 0, 1) := by decide +kernel
theorem dX7_load_184 : decode cX7_load 184 = .ok (.getfield 125, 3) := by decide +kernel
theorem dX7_load_187 : decode cX7_load 187 = .ok (.iastore, 1) := by decide +kernel
theorem dX7_load_188 : decode cX7_load 188 = .ok (.iconst 0, 1) := by decide +kernel
theorem dX7_load_189 : decode cX7_load 189 = .ok (.istore_n 2, 1) := by decide +kernel
theorem dX7_load_190 : decode cX7_load 190 = .ok (.iload_n 2, 1) := by decide +kernel
theorem dX7_load_191 : decode cX7_load 191 = .ok (.iconst 2, 1) := by decide +kernel
theorem dX7_load_192 : decode cX7_load 192 = .ok (.aload_n 0, 1) := by decide +kernel
theorem dX7_load_193 : decode cX7_load 193 = .ok (.getfield 125, 3) := by decide +kernel
theorem dX7_load_196 : decode cX7_load 196 = .ok (.imul, 1) := by decide +kernel
theorem dX7_load_197 : decode cX7_load 197 = .ok (.if_icmp .ge 24, 3) := by decide +kernel
theorem dX7_load_200 : decode cX7_load 200 = .ok (.aload_n 0, 1) := by decide +kernel
theorem dX7_load_201 : decode cX7_load 201 = .ok (.getfield 7, 3) := by decide +kernel
theorem dX7_load_204 : decode cX7_load 204 = .ok (.bipush 92, 2) := by decide +kernel
theorem dX7_load_206 : decode cX7_load 206 = .ok (.iload_n 2, 1) := by decide +kernel
theorem dX7_load_207 : decode cX7_load 207 = .ok (.iadd, 1) := by decide +kernel
theorem dX7_load_208 : decode cX7_load 208 = .ok (.aload_n 0, 1) := by decide +kernel
theorem dX7_load_209 : decode cX7_load 209 = .ok (.getfield 19, 3) := by decide +kernel
theorem dX7_load_212 : decode cX7_load 212 = .ok (.iload_n 2, 1) := by decide +kernel
theorem dX7_load_213 : decode cX7_load 213 = .ok (.iaload, 1) := by decide +kernel
theorem dX7_load_214 : decode cX7_load 214 = .ok (.iastore, 1) := by decide +kernel
theorem dX7_load_215 : decode cX7_load 215 = .ok (.iinc 2 1, 3) := by decide +kernel
theorem dX7_load_218 : decode cX7_load 218 = .ok (.goto (-28), 3) := by decide +kernel
theorem dX7_load_221 : decode cX7_load 221 = .ok (.aload_n 0, 1) := by decide +kernel
theorem dX7_load_222 : decode cX7_load 222 = .ok (.getfield 116, 3) := by decide +kernel
theorem dX7_load_225 : decode cX7_load 225 = .ok (.bipush 100, 2) := by decide +kernel
theorem dX7_load_227 : decode cX7_load 227 = .ok (.aload_n 0, 1) := by decide +kernel
theorem dX7_load_228 : decode cX7_load 228 = .ok (.getfield 125, 3) := by decide +kernel
theorem dX7_load_231 : decode cX7_load 231 = .ok (.imul, 1) := by decide +kernel
theorem dX7_load_232 : decode cX7_load 232 = .ok (.iadd, 1) := by decide +kernel
theorem dX7_load_233 : decode cX7_load 233 = .ok (.ireturn, 1) := by decide +kernel
theorem dX7_puts_0 : decode cX7_puts 0 = .ok (.aload_n 0, 1) := by decide +kernel
theorem dX7_puts_1 : decode cX7_puts 1 = .ok (.getfield 7, 3) := by decide +kernel
theorem dX7_puts_4 : decode cX7_puts 4 = .ok (.aload_n 0, 1) := by decide +kernel
theorem dX7_puts_5 : decode cX7_puts 5 = .ok (.iload_n 1, 1) := by decide +kernel
theorem dX7_puts_6 : decode cX7_puts 6 = .ok (.iconst 3, 1) := by decide +kernel
theorem dX7_puts_7 : decode cX7_puts 7 = .ok (.invokevirtual 45, 3) := by decide +kernel
theorem dX7_puts_10 : decode cX7_puts 10 = .ok (.iload_n 2, 1) := by decide +kernel
theorem dX7_puts_11 : decode cX7_puts 11 = .ok (.iastore, 1) := by decide +kernel
theorem dX7_puts_12 : decode cX7_puts 12 = .ok (.aload_n 0, 1) := by decide +kernel
theorem dX7_puts_13 : decode cX7_puts 13 = .ok (.getfield 7, 3) := by decide +kernel
theorem dX7_puts_16 : decode cX7_puts 16 = .ok (.aload_n 0, 1) := by decide +kernel
theorem dX7_puts_17 : decode cX7_puts 17 = .ok (.iload_n 1, 1) := by decide +kernel
theorem dX7_puts_18 : decode cX7_puts 18 = .ok (.bipush 7, 2) := by decide +kernel
theorem dX7_puts_20 : decode cX7_puts 20 = .ok (.invokevirtual 45, 3) := by decide +kernel
theorem dX7_puts_23 : decode cX7_puts 23 = .ok (.iconst 0, 1) := by decide +kernel
theorem dX7_puts_24 : decode cX7_puts 24 = .ok (.iastore, 1) := by decide +kernel
theorem dX7_puts_25 : decode cX7_puts 25 = .ok (.aload_n 0, 1) := by decide +kernel
theorem dX7_puts_26 : decode cX7_puts 26 = .ok (.getfield 7, 3) := by decide +kernel
theorem dX7_puts_29 : decode cX7_puts 29 = .ok (.bipush 106, 2) := by decide +kernel
theorem dX7_puts_31 : decode cX7_puts 31 = .ok (.iload_n 2, 1) := by decide +kernel
theorem dX7_puts_32 : decode cX7_puts 32 = .ok (.iadd, 1) := by decide +kernel
theorem dX7_puts_33 : decode cX7_puts 33 = .ok (.dup2, 1) := by decide +kernel
theorem dX7_puts_34 : decode cX7_puts 34 = .ok (.iaload, 1) := by decide +kernel
theorem dX7_puts_35 : decode cX7_puts 35 = .ok (.iconst 1, 1) := by decide +kernel
theorem dX7_puts_36 : decode cX7_puts 36 = .ok (.isub, 1) := by decide +kernel
theorem dX7_puts_37 : decode cX7_puts 37 = .ok (.iastore, 1) := by decide +kernel
theorem dX7_puts_38 : decode cX7_puts 38 = .ok (.return_, 1) := by decide +kernel
theorem dX7_swap_0 : decode cX7_swap 0 = .ok (.aload_n 0, 1) := by decide +kernel
theorem dX7_swap_1 : decode cX7_swap 1 = .ok (.iload_n 1, 1) := by decide +kernel
theorem dX7_swap_2 : decode cX7_swap 2 = .ok (.invokevirtual 94, 3) := by decide +kernel
theorem dX7_swap_5 : decode cX7_swap 5 = .ok (.ifCond .eq 10, 3) := by decide +kernel
theorem dX7_swap_8 : decode cX7_swap 8 = .ok (.iload_n 2, 1) := by decide +kernel
theorem dX7_swap_9 : decode cX7_swap 9 = .ok (.invokestatic 84, 3) := by decide +kernel
theorem dX7_swap_12 : decode cX7_swap 12 = .ok (.ifCond .ne 5, 3) := by decide +kernel
theorem dX7_swap_15 : decode cX7_swap 15 = .ok (.iconst (-1), 1) := by decide +kernel
theorem dX7_swap_16 : decode cX7_swap 16 = .ok (.ireturn, 1) := by decide +kernel
theorem dX7_swap_17 : decode cX7_swap 17 = .ok (.aload_n 0, 1) := by decide +kernel
theorem dX7_swap_18 : decode cX7_swap 18 = .ok (.getfield 7, 3) := by decide +kernel
theorem dX7_swap_21 : decode cX7_swap 21 = .ok (.bipush 106, 2) := by decide +kernel
theorem dX7_swap_23 : decode cX7_swap 23 = .ok (.iload_n 2, 1) := by decide +kernel
theorem dX7_swap_24 : decode cX7_swap 24 = .ok (.iadd, 1) := by decide +kernel
theorem dX7_swap_25 : decode cX7_swap 25 = .ok (.iaload, 1) := by decide +kernel
theorem dX7_swap_26 : decode cX7_swap 26 = .ok (.ifCond .ne 6, 3) := by decide +kernel
theorem dX7_swap_29 : decode cX7_swap 29 = .ok (.bipush (-2), 2) := by decide +kernel
theorem dX7_swap_31 : decode cX7_swap 31 = .ok (.ireturn, 1) := by decide +kernel
theorem dX7_swap_32 : decode cX7_swap 32 = .ok (.aload_n 0, 1) := by decide +kernel
theorem dX7_swap_33 : decode cX7_swap 33 = .ok (.invokevirtual 87, 3) := by decide +kernel
theorem dX7_swap_36 : decode cX7_swap 36 = .ok (.aload_n 0, 1) := by decide +kernel
theorem dX7_swap_37 : decode cX7_swap 37 = .ok (.iload_n 1, 1) := by decide +kernel
theorem dX7_swap_38 : decode cX7_swap 38 = .ok (.iload_n 2, 1) := by decide +kernel
theorem dX7_swap_39 : decode cX7_swap 39 = .ok (.invokevirtual 134, 3) := by decide +kernel
theorem dX7_swap_42 : decode cX7_swap 42 = .ok (.aload_n 0, 1) := by decide +kernel
theorem dX7_swap_43 : decode cX7_swap 43 = .ok (.getfield 7, 3) := by decide +kernel
theorem dX7_swap_46 : decode cX7_swap 46 = .ok (.bipush 106, 2) := by decide +kernel
theorem dX7_swap_48 : decode cX7_swap 48 = .ok (.iload_n 2, 1) := by decide +kernel
theorem dX7_swap_49 : decode cX7_swap 49 = .ok (.iadd, 1) := by decide +kernel
theorem dX7_swap_50 : decode cX7_swap 50 = .ok (.iaload, 1) := by decide +kernel
theorem dX7_swap_51 : decode cX7_swap 51 = .ok (.ireturn, 1) := by decide +kernel
theorem dX7_instead_0 : decode cX7_instead 0 = .ok (.aload_n 0, 1) := by decide +kernel
theorem dX7_instead_1 : decode cX7_instead 1 = .ok (.getfield 7, 3) := by decide +kernel
theorem dX7_instead_4 : decode cX7_instead 4 = .ok (.bipush 106, 2) := by decide +kernel
theorem dX7_instead_6 : decode cX7_instead 6 = .ok (.iload_n 1, 1) := by decide +kernel
theorem dX7_instead_7 : decode cX7_instead 7 = .ok (.iadd, 1) := by decide +kernel
theorem dX7_instead_8 : decode cX7_instead 8 = .ok (.iaload, 1) := by decide +kernel
theorem dX7_instead_9 : decode cX7_instead 9 = .ok (.ifCond .le 5, 3) := by decide +kernel
theorem dX7_instead_12 : decode cX7_instead 12 = .ok (.iload_n 1, 1) := by decide +kernel
theorem dX7_instead_13 : decode cX7_instead 13 = .ok (.ireturn, 1) := by decide +kernel
theorem dX7_instead_14 : decode cX7_instead 14 = .ok (.iconst 2, 1) := by decide +kernel
theorem dX7_instead_15 : decode cX7_instead 15 = .ok (.istore_n 2, 1) := by decide +kernel
theorem dX7_instead_16 : decode cX7_instead 16 = .ok (.iload_n 2, 1) := by decide +kernel
theorem dX7_instead_17 : decode cX7_instead 17 = .ok (.ifCond .lt 21, 3) := by decide +kernel
theorem dX7_instead_20 : decode cX7_instead 20 = .ok (.aload_n 0, 1) := by decide +kernel
theorem dX7_instead_21 : decode cX7_instead 21 = .ok (.getfield 7, 3) := by decide +kernel
theorem dX7_instead_24 : decode cX7_instead 24 = .ok (.bipush 106, 2) := by decide +kernel
theorem dX7_instead_26 : decode cX7_instead 26 = .ok (.iload_n 2, 1) := by decide +kernel
theorem dX7_instead_27 : decode cX7_instead 27 = .ok (.iadd, 1) := by decide +kernel
theorem dX7_instead_28 : decode cX7_instead 28 = .ok (.iaload, 1) := by decide +kernel
theorem dX7_instead_29 : decode cX7_instead 29 = .ok (.ifCond .ne 9, 3) := by decide +kernel
theorem dX7_instead_32 : decode cX7_instead 32 = .ok (.iinc 2 (-1), 3) := by decide +kernel
theorem dX7_instead_35 : decode cX7_instead 35 = .ok (.goto (-19), 3) := by decide +kernel
theorem dX7_instead_38 : decode cX7_instead 38 = .ok (.iload_n 2, 1) := by decide +kernel
theorem dX7_instead_39 : decode cX7_instead 39 = .ok (.ifCond .lt 18, 3) := by decide +kernel
theorem dX7_instead_42 : decode cX7_instead 42 = .ok (.iload_n 2, 1) := by decide +kernel
theorem dX7_instead_43 : decode cX7_instead 43 = .ok (.invokestatic 70, 3) := by decide +kernel
theorem dX7_instead_46 : decode cX7_instead 46 = .ok (.iload_n 1, 1) := by decide +kernel
theorem dX7_instead_47 : decode cX7_instead 47 = .ok (.invokestatic 70, 3) := by decide +kernel
theorem dX7_instead_50 : decode cX7_instead 50 = .ok (.if_icmp .lt 7, 3) := by decide +kernel
theorem dX7_instead_53 : decode cX7_instead 53 = .ok (.iload_n 2, 1) := by decide +kernel
theorem dX7_instead_54 : decode cX7_instead 54 = .ok (.goto 5, 3) := by decide +kernel
theorem dX7_instead_57 : decode cX7_instead 57 = .ok (.bipush (-9), 2) := by decide +kernel
theorem dX7_instead_59 : decode cX7_instead 59 = .ok (.ireturn, 1) := by decide +kernel
theorem dX7_swapAll_0 : decode cX7_swapAll 0 = .ok (.iload_n 1, 1) := by decide +kernel
theorem dX7_swapAll_1 : decode cX7_swapAll 1 = .ok (.iconst 1, 1) := by decide +kernel
theorem dX7_swapAll_2 : decode cX7_swapAll 2 = .ok (.sipush 9000, 3) := by decide +kernel
theorem dX7_swapAll_5 : decode cX7_swapAll 5 = .ok (.invokestatic 53, 3) := by decide +kernel
theorem dX7_swapAll_8 : decode cX7_swapAll 8 = .ok (.ifCond .ne 5, 3) := by decide +kernel
theorem dX7_swapAll_11 : decode cX7_swapAll 11 = .ok (.iconst (-1), 1) := by decide +kernel
theorem dX7_swapAll_12 : decode cX7_swapAll 12 = .ok (.ireturn, 1) := by decide +kernel
theorem dX7_swapAll_13 : decode cX7_swapAll 13 = .ok (.aload_n 0, 1) := by decide +kernel
theorem dX7_swapAll_14 : decode cX7_swapAll 14 = .ok (.invokevirtual 87, 3) := by decide +kernel
theorem dX7_swapAll_17 : decode cX7_swapAll 17 = .ok (.iconst 0, 1) := by decide +kernel
theorem dX7_swapAll_18 : decode cX7_swapAll 18 = .ok (.istore_n 2, 1) := by decide +kernel
theorem dX7_swapAll_19 : decode cX7_swapAll 19 = .ok (.iconst 0, 1) := by decide +kernel
theorem dX7_swapAll_20 : decode cX7_swapAll 20 = .ok (.istore_n 3, 1) := by decide +kernel
theorem dX7_swapAll_21 : decode cX7_swapAll 21 = .ok (.iload_n 3, 1) := by decide +kernel
theorem dX7_swapAll_22 : decode cX7_swapAll 22 = .ok (.aload_n 0, 1) := by decide +kernel
theorem dX7_swapAll_23 : decode cX7_swapAll 23 = .ok (.invokevirtual 49, 3) := by decide +kernel
theorem dX7_swapAll_26 : decode cX7_swapAll 26 = .ok (.if_icmp .ge 52, 3) := by decide +kernel
theorem dX7_swapAll_29 : decode cX7_swapAll 29 = .ok (.aload_n 0, 1) := by decide +kernel
theorem dX7_swapAll_30 : decode cX7_swapAll 30 = .ok (.iload_n 3, 1) := by decide +kernel
theorem dX7_swapAll_31 : decode cX7_swapAll 31 = .ok (.invokevirtual 64, 3) := by decide +kernel
theorem dX7_swapAll_34 : decode cX7_swapAll 34 = .ok (.iload_n 1, 1) := by decide +kernel
theorem dX7_swapAll_35 : decode cX7_swapAll 35 = .ok (.if_icmp .ge 16, 3) := by decide +kernel
theorem dX7_swapAll_38 : decode cX7_swapAll 38 = .ok (.aload_n 0, 1) := by decide +kernel
theorem dX7_swapAll_39 : decode cX7_swapAll 39 = .ok (.aload_n 0, 1) := by decide +kernel
theorem dX7_swapAll_40 : decode cX7_swapAll 40 = .ok (.iload_n 3, 1) := by decide +kernel
theorem dX7_swapAll_41 : decode cX7_swapAll 41 = .ok (.iconst 3, 1) := by decide +kernel
theorem dX7_swapAll_42 : decode cX7_swapAll 42 = .ok (.invokevirtual 57, 3) := by decide +kernel
theorem dX7_swapAll_45 : decode cX7_swapAll 45 = .ok (.invokevirtual 138, 3) := by decide +kernel
theorem dX7_swapAll_48 : decode cX7_swapAll 48 = .ok (.goto 5, 3) := by decide +kernel
theorem dX7_swapAll_51 : decode cX7_swapAll 51 = .ok (.bipush (-9), 2) := by decide +kernel
theorem dX7_swapAll_53 : decode cX7_swapAll 53 = .ok (.istore 4, 2) := by decide +kernel
theorem dX7_swapAll_55 : decode cX7_swapAll 55 = .ok (.iload 4, 2) := by decide +kernel
theorem dX7_swapAll_57 : decode cX7_swapAll 57 = .ok (.bipush (-9), 2) := by decide +kernel
theorem dX7_swapAll_59 : decode cX7_swapAll 59 = .ok (.if_icmp .eq 13, 3) := by decide +kernel
theorem dX7_swapAll_62 : decode cX7_swapAll 62 = .ok (.aload_n 0, 1) := by decide +kernel
theorem dX7_swapAll_63 : decode cX7_swapAll 63 = .ok (.iload_n 3, 1) := by decide +kernel
theorem dX7_swapAll_64 : decode cX7_swapAll 64 = .ok (.iload 4, 2) := by decide +kernel
theorem dX7_swapAll_66 : decode cX7_swapAll 66 = .ok (.invokevirtual 134, 3) := by decide +kernel
theorem dX7_swapAll_69 : decode cX7_swapAll 69 = .ok (.iinc 2 1, 3) := by decide +kernel
theorem dX7_swapAll_72 : decode cX7_swapAll 72 = .ok (.iinc 3 1, 3) := by decide +kernel
theorem dX7_swapAll_75 : decode cX7_swapAll 75 = .ok (.goto (-54), 3) := by decide +kernel
theorem dX7_swapAll_78 : decode cX7_swapAll 78 = .ok (.iload_n 2, 1) := by decide +kernel
theorem dX7_swapAll_79 : decode cX7_swapAll 79 = .ok (.ireturn, 1) := by decide +kernel
theorem dX7_renew_0 : decode cX7_renew 0 = .ok (.aload_n 0, 1) := by decide +kernel
theorem dX7_renew_1 : decode cX7_renew 1 = .ok (.iload_n 1, 1) := by decide +kernel
theorem dX7_renew_2 : decode cX7_renew 2 = .ok (.invokevirtual 94, 3) := by decide +kernel
theorem dX7_renew_5 : decode cX7_renew 5 = .ok (.ifCond .ne 5, 3) := by decide +kernel
theorem dX7_renew_8 : decode cX7_renew 8 = .ok (.iconst (-1), 1) := by decide +kernel
theorem dX7_renew_9 : decode cX7_renew 9 = .ok (.ireturn, 1) := by decide +kernel
theorem dX7_renew_10 : decode cX7_renew 10 = .ok (.aload_n 0, 1) := by decide +kernel
theorem dX7_renew_11 : decode cX7_renew 11 = .ok (.invokevirtual 87, 3) := by decide +kernel
theorem dX7_renew_14 : decode cX7_renew 14 = .ok (.aload_n 0, 1) := by decide +kernel
theorem dX7_renew_15 : decode cX7_renew 15 = .ok (.iload_n 1, 1) := by decide +kernel
theorem dX7_renew_16 : decode cX7_renew 16 = .ok (.iconst 5, 1) := by decide +kernel
theorem dX7_renew_17 : decode cX7_renew 17 = .ok (.invokevirtual 57, 3) := by decide +kernel
theorem dX7_renew_20 : decode cX7_renew 20 = .ok (.istore_n 2, 1) := by decide +kernel
theorem dX7_renew_21 : decode cX7_renew 21 = .ok (.aload_n 0, 1) := by decide +kernel
theorem dX7_renew_22 : decode cX7_renew 22 = .ok (.getfield 7, 3) := by decide +kernel
theorem dX7_renew_25 : decode cX7_renew 25 = .ok (.aload_n 0, 1) := by decide +kernel
theorem dX7_renew_26 : decode cX7_renew 26 = .ok (.iload_n 1, 1) := by decide +kernel
theorem dX7_renew_27 : decode cX7_renew 27 = .ok (.iconst 5, 1) := by decide +kernel
theorem dX7_renew_28 : decode cX7_renew 28 = .ok (.invokevirtual 45, 3) := by decide +kernel
theorem dX7_renew_31 : decode cX7_renew 31 = .ok (.sipush 1000, 3) := by decide +kernel
theorem dX7_renew_34 : decode cX7_renew 34 = .ok (.iastore, 1) := by decide +kernel
theorem dX7_renew_35 : decode cX7_renew 35 = .ok (.aload_n 0, 1) := by decide +kernel
theorem dX7_renew_36 : decode cX7_renew 36 = .ok (.getfield 7, 3) := by decide +kernel
theorem dX7_renew_39 : decode cX7_renew 39 = .ok (.aload_n 0, 1) := by decide +kernel
theorem dX7_renew_40 : decode cX7_renew 40 = .ok (.iload_n 1, 1) := by decide +kernel
theorem dX7_renew_41 : decode cX7_renew 41 = .ok (.bipush 6, 2) := by decide +kernel
theorem dX7_renew_43 : decode cX7_renew 43 = .ok (.invokevirtual 45, 3) := by decide +kernel
theorem dX7_renew_46 : decode cX7_renew 46 = .ok (.iconst 0, 1) := by decide +kernel
theorem dX7_renew_47 : decode cX7_renew 47 = .ok (.iastore, 1) := by decide +kernel
theorem dX7_renew_48 : decode cX7_renew 48 = .ok (.iload_n 2, 1) := by decide +kernel
theorem dX7_renew_49 : decode cX7_renew 49 = .ok (.ireturn, 1) := by decide +kernel
theorem dX7_hour_0 : decode cX7_hour 0 = .ok (.iconst 0, 1) := by decide +kernel
theorem dX7_hour_1 : decode cX7_hour 1 = .ok (.istore_n 1, 1) := by decide +kernel
theorem dX7_hour_2 : decode cX7_hour 2 = .ok (.iload_n 1, 1) := by decide +kernel
theorem dX7_hour_3 : decode cX7_hour 3 = .ok (.aload_n 0, 1) := by decide +kernel
theorem dX7_hour_4 : decode cX7_hour 4 = .ok (.invokevirtual 49, 3) := by decide +kernel
theorem dX7_hour_7 : decode cX7_hour 7 = .ok (.if_icmp .ge 73, 3) := by decide +kernel
theorem dX7_hour_10 : decode cX7_hour 10 = .ok (.aload_n 0, 1) := by decide +kernel
theorem dX7_hour_11 : decode cX7_hour 11 = .ok (.getfield 7, 3) := by decide +kernel
theorem dX7_hour_14 : decode cX7_hour 14 = .ok (.aload_n 0, 1) := by decide +kernel
theorem dX7_hour_15 : decode cX7_hour 15 = .ok (.iload_n 1, 1) := by decide +kernel
theorem dX7_hour_16 : decode cX7_hour 16 = .ok (.bipush 7, 2) := by decide +kernel
theorem dX7_hour_18 : decode cX7_hour 18 = .ok (.invokevirtual 45, 3) := by decide +kernel
theorem dX7_hour_21 : decode cX7_hour 21 = .ok (.dup2, 1) := by decide +kernel
theorem dX7_hour_22 : decode cX7_hour 22 = .ok (.iaload, 1) := by decide +kernel
theorem dX7_hour_23 : decode cX7_hour 23 = .ok (.aload_n 0, 1) := by decide +kernel
theorem dX7_hour_24 : decode cX7_hour 24 = .ok (.iload_n 1, 1) := by decide +kernel
theorem dX7_hour_25 : decode cX7_hour 25 = .ok (.iconst 4, 1) := by decide +kernel
theorem dX7_hour_26 : decode cX7_hour 26 = .ok (.invokevirtual 57, 3) := by decide +kernel
theorem dX7_hour_29 : decode cX7_hour 29 = .ok (.iconst 1, 1) := by decide +kernel
theorem dX7_hour_30 : decode cX7_hour 30 = .ok (.if_icmp .ne 16, 3) := by decide +kernel
theorem dX7_hour_33 : decode cX7_hour 33 = .ok (.aload_n 0, 1) := by decide +kernel
theorem dX7_hour_34 : decode cX7_hour 34 = .ok (.iload_n 1, 1) := by decide +kernel
theorem dX7_hour_35 : decode cX7_hour 35 = .ok (.invokevirtual 64, 3) := by decide +kernel
theorem dX7_hour_38 : decode cX7_hour 38 = .ok (.ifCond .le 8, 3) := by decide +kernel
theorem dX7_hour_41 : decode cX7_hour 41 = .ok (.bipush 60, 2) := by decide +kernel
theorem dX7_hour_43 : decode cX7_hour 43 = .ok (.goto 4, 3) := by decide +kernel
theorem dX7_hour_46 : decode cX7_hour 46 = .ok (.iconst 0, 1) := by decide +kernel
theorem dX7_hour_47 : decode cX7_hour 47 = .ok (.iadd, 1) := by decide +kernel
theorem dX7_hour_48 : decode cX7_hour 48 = .ok (.iastore, 1) := by decide +kernel
theorem dX7_hour_49 : decode cX7_hour 49 = .ok (.aload_n 0, 1) := by decide +kernel
theorem dX7_hour_50 : decode cX7_hour 50 = .ok (.getfield 7, 3) := by decide +kernel
theorem dX7_hour_53 : decode cX7_hour 53 = .ok (.aload_n 0, 1) := by decide +kernel
theorem dX7_hour_54 : decode cX7_hour 54 = .ok (.iload_n 1, 1) := by decide +kernel
theorem dX7_hour_55 : decode cX7_hour 55 = .ok (.bipush 6, 2) := by decide +kernel
theorem dX7_hour_57 : decode cX7_hour 57 = .ok (.invokevirtual 45, 3) := by decide +kernel
theorem dX7_hour_60 : decode cX7_hour 60 = .ok (.dup2, 1) := by decide +kernel
theorem dX7_hour_61 : decode cX7_hour 61 = .ok (.iaload, 1) := by decide +kernel
theorem dX7_hour_62 : decode cX7_hour 62 = .ok (.aload_n 0, 1) := by decide +kernel
theorem dX7_hour_63 : decode cX7_hour 63 = .ok (.iload_n 1, 1) := by decide +kernel
theorem dX7_hour_64 : decode cX7_hour 64 = .ok (.invokevirtual 73, 3) := by decide +kernel
theorem dX7_hour_67 : decode cX7_hour 67 = .ok (.iadd, 1) := by decide +kernel
theorem dX7_hour_68 : decode cX7_hour 68 = .ok (.iastore, 1) := by decide +kernel
theorem dX7_hour_69 : decode cX7_hour 69 = .ok (.aload_n 0, 1) := by decide +kernel
theorem dX7_hour_70 : decode cX7_hour 70 = .ok (.iload_n 1, 1) := by decide +kernel
theorem dX7_hour_71 : decode cX7_hour 71 = .ok (.invokevirtual 76, 3) := by decide +kernel
theorem dX7_hour_74 : decode cX7_hour 74 = .ok (.iinc 1 1, 3) := by decide +kernel
theorem dX7_hour_77 : decode cX7_hour 77 = .ok (.goto (-75), 3) := by decide +kernel
theorem dX7_hour_80 : decode cX7_hour 80 = .ok (.aload_n 0, 1) := by decide +kernel
theorem dX7_hour_81 : decode cX7_hour 81 = .ok (.getfield 7, 3) := by decide +kernel
theorem dX7_hour_84 : decode cX7_hour 84 = .ok (.bipush 105, 2) := by decide +kernel
theorem dX7_hour_86 : decode cX7_hour 86 = .ok (.dup2, 1) := by decide +kernel
theorem dX7_hour_87 : decode cX7_hour 87 = .ok (.iaload, 1) := by decide +kernel
theorem dX7_hour_88 : decode cX7_hour 88 = .ok (.iconst 1, 1) := by decide +kernel
theorem dX7_hour_89 : decode cX7_hour 89 = .ok (.iadd, 1) := by decide +kernel
theorem dX7_hour_90 : decode cX7_hour 90 = .ok (.iastore, 1) := by decide +kernel
theorem dX7_hour_91 : decode cX7_hour 91 = .ok (.iconst 0, 1) := by decide +kernel
theorem dX7_hour_92 : decode cX7_hour 92 = .ok (.istore_n 1, 1) := by decide +kernel
theorem dX7_hour_93 : decode cX7_hour 93 = .ok (.iload_n 1, 1) := by decide +kernel
theorem dX7_hour_94 : decode cX7_hour 94 = .ok (.aload_n 0, 1) := by decide +kernel
theorem dX7_hour_95 : decode cX7_hour 95 = .ok (.invokevirtual 49, 3) := by decide +kernel
theorem dX7_hour_98 : decode cX7_hour 98 = .ok (.if_icmp .ge 29, 3) := by decide +kernel
theorem dX7_hour_101 : decode cX7_hour 101 = .ok (.aload_n 0, 1) := by decide +kernel
theorem dX7_hour_102 : decode cX7_hour 102 = .ok (.getfield 7, 3) := by decide +kernel
theorem dX7_hour_105 : decode cX7_hour 105 = .ok (.bipush 105, 2) := by decide +kernel
theorem dX7_hour_107 : decode cX7_hour 107 = .ok (.iaload, 1) := by decide +kernel
theorem dX7_hour_108 : decode cX7_hour 108 = .ok (.sipush 1000, 3) := by decide +kernel
theorem dX7_hour_111 : decode cX7_hour 111 = .ok (.irem, 1) := by decide +kernel
theorem dX7_hour_112 : decode cX7_hour 112 = .ok (.ifCond .ne 15, 3) := by decide +kernel
theorem dX7_hour_115 : decode cX7_hour 115 = .ok (.aload_n 0, 1) := by decide +kernel
theorem dX7_hour_116 : decode cX7_hour 116 = .ok (.iload_n 1, 1) := by decide +kernel
theorem dX7_hour_117 : decode cX7_hour 117 = .ok (.iconst 1, 1) := by decide +kernel
theorem dX7_hour_118 : decode cX7_hour 118 = .ok (.invokevirtual 141, 3) := by decide +kernel
theorem dX7_hour_121 : decode cX7_hour 121 = .ok (.iinc 1 1, 3) := by decide +kernel
theorem dX7_hour_124 : decode cX7_hour 124 = .ok (.goto (-31), 3) := by decide +kernel
theorem dX7_hour_127 : decode cX7_hour 127 = .ok (.return_, 1) := by decide +kernel
theorem dX7_ready_0 : decode cX7_ready 0 = .ok (.iconst 0, 1) := by decide +kernel
theorem dX7_ready_1 : decode cX7_ready 1 = .ok (.istore_n 1, 1) := by decide +kernel
theorem dX7_ready_2 : decode cX7_ready 2 = .ok (.iconst 0, 1) := by decide +kernel
theorem dX7_ready_3 : decode cX7_ready 3 = .ok (.istore_n 2, 1) := by decide +kernel
theorem dX7_ready_4 : decode cX7_ready 4 = .ok (.iload_n 2, 1) := by decide +kernel
theorem dX7_ready_5 : decode cX7_ready 5 = .ok (.aload_n 0, 1) := by decide +kernel
theorem dX7_ready_6 : decode cX7_ready 6 = .ok (.invokevirtual 49, 3) := by decide +kernel
theorem dX7_ready_9 : decode cX7_ready 9 = .ok (.if_icmp .ge 25, 3) := by decide +kernel
theorem dX7_ready_12 : decode cX7_ready 12 = .ok (.iload_n 1, 1) := by decide +kernel
theorem dX7_ready_13 : decode cX7_ready 13 = .ok (.aload_n 0, 1) := by decide +kernel
theorem dX7_ready_14 : decode cX7_ready 14 = .ok (.iload_n 2, 1) := by decide +kernel
theorem dX7_ready_15 : decode cX7_ready 15 = .ok (.invokevirtual 144, 3) := by decide +kernel
theorem dX7_ready_18 : decode cX7_ready 18 = .ok (.ifCond .eq 7, 3) := by decide +kernel
theorem dX7_ready_21 : decode cX7_ready 21 = .ok (.iconst 1, 1) := by decide +kernel
theorem dX7_ready_22 : decode cX7_ready 22 = .ok (.goto 4, 3) := by decide +kernel
theorem dX7_ready_25 : decode cX7_ready 25 = .ok (.iconst 0, 1) := by decide +kernel
theorem dX7_ready_26 : decode cX7_ready 26 = .ok (.iadd, 1) := by decide +kernel
theorem dX7_ready_27 : decode cX7_ready 27 = .ok (.istore_n 1, 1) := by decide +kernel
theorem dX7_ready_28 : decode cX7_ready 28 = .ok (.iinc 2 1, 3) := by decide +kernel
theorem dX7_ready_31 : decode cX7_ready 31 = .ok (.goto (-27), 3) := by decide +kernel
theorem dX7_ready_34 : decode cX7_ready 34 = .ok (.iload_n 1, 1) := by decide +kernel
theorem dX7_ready_35 : decode cX7_ready 35 = .ok (.ireturn, 1) := by decide +kernel
theorem dX7_pass_0 : decode cX7_pass 0 = .ok (.iload_n 1, 1) := by decide +kernel
theorem dX7_pass_1 : decode cX7_pass 1 = .ok (.iconst 1, 1) := by decide +kernel
theorem dX7_pass_2 : decode cX7_pass 2 = .ok (.sipush 2000, 3) := by decide +kernel
theorem dX7_pass_5 : decode cX7_pass 5 = .ok (.invokestatic 53, 3) := by decide +kernel
theorem dX7_pass_8 : decode cX7_pass 8 = .ok (.ifCond .ne 5, 3) := by decide +kernel
theorem dX7_pass_11 : decode cX7_pass 11 = .ok (.iconst (-1), 1) := by decide +kernel
theorem dX7_pass_12 : decode cX7_pass 12 = .ok (.ireturn, 1) := by decide +kernel
theorem dX7_pass_13 : decode cX7_pass 13 = .ok (.aload_n 0, 1) := by decide +kernel
theorem dX7_pass_14 : decode cX7_pass 14 = .ok (.getfield 7, 3) := by decide +kernel
theorem dX7_pass_17 : decode cX7_pass 17 = .ok (.bipush 105, 2) := by decide +kernel
theorem dX7_pass_19 : decode cX7_pass 19 = .ok (.iaload, 1) := by decide +kernel
theorem dX7_pass_20 : decode cX7_pass 20 = .ok (.iload_n 1, 1) := by decide +kernel
theorem dX7_pass_21 : decode cX7_pass 21 = .ok (.iadd, 1) := by decide +kernel
theorem dX7_pass_22 : decode cX7_pass 22 = .ok (.ldc 147, 2) := by decide +kernel
theorem dX7_pass_24 : decode cX7_pass 24 = .ok (.if_icmp .le 6, 3) := by decide +kernel
theorem dX7_pass_27 : decode cX7_pass 27 = .ok (.bipush (-3), 2) := by decide +kernel
theorem dX7_pass_29 : decode cX7_pass 29 = .ok (.ireturn, 1) := by decide +kernel
theorem dX7_pass_30 : decode cX7_pass 30 = .ok (.aload_n 0, 1) := by decide +kernel
theorem dX7_pass_31 : decode cX7_pass 31 = .ok (.invokevirtual 87, 3) := by decide +kernel
theorem dX7_pass_34 : decode cX7_pass 34 = .ok (.iconst 0, 1) := by decide +kernel
theorem dX7_pass_35 : decode cX7_pass 35 = .ok (.istore_n 2, 1) := by decide +kernel
theorem dX7_pass_36 : decode cX7_pass 36 = .ok (.iload_n 2, 1) := by decide +kernel
theorem dX7_pass_37 : decode cX7_pass 37 = .ok (.iload_n 1, 1) := by decide +kernel
theorem dX7_pass_38 : decode cX7_pass 38 = .ok (.if_icmp .ge 13, 3) := by decide +kernel
theorem dX7_pass_41 : decode cX7_pass 41 = .ok (.aload_n 0, 1) := by decide +kernel
theorem dX7_pass_42 : decode cX7_pass 42 = .ok (.invokevirtual 148, 3) := by decide +kernel
theorem dX7_pass_45 : decode cX7_pass 45 = .ok (.iinc 2 1, 3) := by decide +kernel
theorem dX7_pass_48 : decode cX7_pass 48 = .ok (.goto (-12), 3) := by decide +kernel
theorem dX7_pass_51 : decode cX7_pass 51 = .ok (.aload_n 0, 1) := by decide +kernel
theorem dX7_pass_52 : decode cX7_pass 52 = .ok (.invokevirtual 151, 3) := by decide +kernel
theorem dX7_pass_55 : decode cX7_pass 55 = .ok (.ireturn, 1) := by decide +kernel
theorem dX7_tests_0 : decode cX7_tests 0 = .ok (.iconst 0, 1) := by decide +kernel
theorem dX7_tests_1 : decode cX7_tests 1 = .ok (.istore_n 2, 1) := by decide +kernel
theorem dX7_tests_2 : decode cX7_tests 2 = .ok (.iconst 0, 1) := by decide +kernel
theorem dX7_tests_3 : decode cX7_tests 3 = .ok (.istore_n 3, 1) := by decide +kernel
theorem dX7_tests_4 : decode cX7_tests 4 = .ok (.iload_n 3, 1) := by decide +kernel
theorem dX7_tests_5 : decode cX7_tests 5 = .ok (.aload_n 0, 1) := by decide +kernel
theorem dX7_tests_6 : decode cX7_tests 6 = .ok (.invokevirtual 49, 3) := by decide +kernel
theorem dX7_tests_9 : decode cX7_tests 9 = .ok (.if_icmp .ge 149, 3) := by decide +kernel
theorem dX7_tests_12 : decode cX7_tests 12 = .ok (.iload_n 1, 1) := by decide +kernel
theorem dX7_tests_13 : decode cX7_tests 13 = .ok (.iload_n 3, 1) := by decide +kernel
theorem dX7_tests_14 : decode cX7_tests 14 = .ok (.ishr, 1) := by decide +kernel
theorem dX7_tests_15 : decode cX7_tests 15 = .ok (.iconst 1, 1) := by decide +kernel
theorem dX7_tests_16 : decode cX7_tests 16 = .ok (.iand, 1) := by decide +kernel
theorem dX7_tests_17 : decode cX7_tests 17 = .ok (.iconst 1, 1) := by decide +kernel
theorem dX7_tests_18 : decode cX7_tests 18 = .ok (.if_icmp .ne 134, 3) := by decide +kernel
theorem dX7_tests_21 : decode cX7_tests 21 = .ok (.aload_n 0, 1) := by decide +kernel
theorem dX7_tests_22 : decode cX7_tests 22 = .ok (.iload_n 3, 1) := by decide +kernel
theorem dX7_tests_23 : decode cX7_tests 23 = .ok (.invokevirtual 60, 3) := by decide +kernel
theorem dX7_tests_26 : decode cX7_tests 26 = .ok (.istore 4, 2) := by decide +kernel
theorem dX7_tests_28 : decode cX7_tests 28 = .ok (.aload_n 0, 1) := by decide +kernel
theorem dX7_tests_29 : decode cX7_tests 29 = .ok (.iload_n 3, 1) := by decide +kernel
theorem dX7_tests_30 : decode cX7_tests 30 = .ok (.invokevirtual 67, 3) := by decide +kernel
theorem dX7_tests_33 : decode cX7_tests 33 = .ok (.iload 4, 2) := by decide +kernel
theorem dX7_tests_35 : decode cX7_tests 35 = .ok (.if_icmp .ge 11, 3) := by decide +kernel
theorem dX7_tests_38 : decode cX7_tests 38 = .ok (.aload_n 0, 1) := by decide +kernel
theorem dX7_tests_39 : decode cX7_tests 39 = .ok (.iload_n 3, 1) := by decide +kernel
theorem dX7_tests_40 : decode cX7_tests 40 = .ok (.invokevirtual 67, 3) := by decide +kernel
theorem dX7_tests_43 : decode cX7_tests 43 = .ok (.goto 5, 3) := by decide +kernel
theorem dX7_tests_46 : decode cX7_tests 46 = .ok (.iload 4, 2) := by decide +kernel
theorem dX7_tests_48 : decode cX7_tests 48 = .ok (.istore 5, 2) := by decide +kernel
theorem dX7_tests_50 : decode cX7_tests 50 = .ok (.aload_n 0, 1) := by decide +kernel
theorem dX7_tests_51 : decode cX7_tests 51 = .ok (.getfield 7, 3) := by decide +kernel
theorem dX7_tests_54 : decode cX7_tests 54 = .ok (.aload_n 0, 1) := by decide +kernel
theorem dX7_tests_55 : decode cX7_tests 55 = .ok (.iload_n 3, 1) := by decide +kernel
theorem dX7_tests_56 : decode cX7_tests 56 = .ok (.bipush 7, 2) := by decide +kernel
theorem dX7_tests_58 : decode cX7_tests 58 = .ok (.invokevirtual 45, 3) := by decide +kernel
theorem dX7_tests_61 : decode cX7_tests 61 = .ok (.dup2, 1) := by decide +kernel
theorem dX7_tests_62 : decode cX7_tests 62 = .ok (.iaload, 1) := by decide +kernel
theorem dX7_tests_63 : decode cX7_tests 63 = .ok (.iload 5, 2) := by decide +kernel
theorem dX7_tests_65 : decode cX7_tests 65 = .ok (.iadd, 1) := by decide +kernel
theorem dX7_tests_66 : decode cX7_tests 66 = .ok (.iastore, 1) := by decide +kernel
theorem dX7_tests_67 : decode cX7_tests 67 = .ok (.aload_n 0, 1) := by decide +kernel
theorem dX7_tests_68 : decode cX7_tests 68 = .ok (.getfield 7, 3) := by decide +kernel
theorem dX7_tests_71 : decode cX7_tests 71 = .ok (.aload_n 0, 1) := by decide +kernel
theorem dX7_tests_72 : decode cX7_tests 72 = .ok (.iload_n 3, 1) := by decide +kernel
theorem dX7_tests_73 : decode cX7_tests 73 = .ok (.bipush 6, 2) := by decide +kernel
theorem dX7_tests_75 : decode cX7_tests 75 = .ok (.invokevirtual 45, 3) := by decide +kernel
theorem dX7_tests_78 : decode cX7_tests 78 = .ok (.dup2, 1) := by decide +kernel
theorem dX7_tests_79 : decode cX7_tests 79 = .ok (.iaload, 1) := by decide +kernel
theorem dX7_tests_80 : decode cX7_tests 80 = .ok (.bipush 24, 2) := by decide +kernel
theorem dX7_tests_82 : decode cX7_tests 82 = .ok (.iload 5, 2) := by decide +kernel
theorem dX7_tests_84 : decode cX7_tests 84 = .ok (.imul, 1) := by decide +kernel
theorem dX7_tests_85 : decode cX7_tests 85 = .ok (.isub, 1) := by decide +kernel
theorem dX7_tests_86 : decode cX7_tests 86 = .ok (.iastore, 1) := by decide +kernel
theorem dX7_tests_87 : decode cX7_tests 87 = .ok (.aload_n 0, 1) := by decide +kernel
theorem dX7_tests_88 : decode cX7_tests 88 = .ok (.getfield 7, 3) := by decide +kernel
theorem dX7_tests_91 : decode cX7_tests 91 = .ok (.aload_n 0, 1) := by decide +kernel
theorem dX7_tests_92 : decode cX7_tests 92 = .ok (.iload_n 3, 1) := by decide +kernel
theorem dX7_tests_93 : decode cX7_tests 93 = .ok (.bipush 8, 2) := by decide +kernel
theorem dX7_tests_95 : decode cX7_tests 95 = .ok (.invokevirtual 45, 3) := by decide +kernel
theorem dX7_tests_98 : decode cX7_tests 98 = .ok (.iload 5, 2) := by decide +kernel
theorem dX7_tests_100 : decode cX7_tests 100 = .ok (.iastore, 1) := by decide +kernel
theorem dX7_tests_101 : decode cX7_tests 101 = .ok (.aload_n 0, 1) := by decide +kernel
theorem dX7_tests_102 : decode cX7_tests 102 = .ok (.iload_n 3, 1) := by decide +kernel
theorem dX7_tests_103 : decode cX7_tests 103 = .ok (.iconst 5, 1) := by decide +kernel
theorem dX7_tests_104 : decode cX7_tests 104 = .ok (.aload_n 0, 1) := by decide +kernel
theorem dX7_tests_105 : decode cX7_tests 105 = .ok (.iload_n 3, 1) := by decide +kernel
theorem dX7_tests_106 : decode cX7_tests 106 = .ok (.iconst 2, 1) := by decide +kernel
theorem dX7_tests_107 : decode cX7_tests 107 = .ok (.invokevirtual 57, 3) := by decide +kernel
theorem dX7_tests_110 : decode cX7_tests 110 = .ok (.isub, 1) := by decide +kernel
theorem dX7_tests_111 : decode cX7_tests 111 = .ok (.invokevirtual 141, 3) := by decide +kernel
theorem dX7_tests_114 : decode cX7_tests 114 = .ok (.iload_n 2, 1) := by decide +kernel
theorem dX7_tests_115 : decode cX7_tests 115 = .ok (.iload 5, 2) := by decide +kernel
theorem dX7_tests_117 : decode cX7_tests 117 = .ok (.iload 4, 2) := by decide +kernel
theorem dX7_tests_119 : decode cX7_tests 119 = .ok (.if_icmp .ne 7, 3) := by decide +kernel
theorem dX7_tests_122 : decode cX7_tests 122 = .ok (.iconst 1, 1) := by decide +kernel
theorem dX7_tests_123 : decode cX7_tests 123 = .ok (.goto 4, 3) := by decide +kernel
theorem dX7_tests_126 : decode cX7_tests 126 = .ok (.iconst 0, 1) := by decide +kernel
theorem dX7_tests_127 : decode cX7_tests 127 = .ok (.iadd, 1) := by decide +kernel
theorem dX7_tests_128 : decode cX7_tests 128 = .ok (.istore_n 2, 1) := by decide +kernel
theorem dX7_tests_129 : decode cX7_tests 129 = .ok (.aload_n 0, 1) := by decide +kernel
theorem dX7_tests_130 : decode cX7_tests 130 = .ok (.getfield 7, 3) := by decide +kernel
theorem dX7_tests_133 : decode cX7_tests 133 = .ok (.iload 5, 2) := by decide +kernel
theorem dX7_tests_135 : decode cX7_tests 135 = .ok (.iload 4, 2) := by decide +kernel
theorem dX7_tests_137 : decode cX7_tests 137 = .ok (.if_icmp .ne 8, 3) := by decide +kernel
theorem dX7_tests_140 : decode cX7_tests 140 = .ok (.bipush 109, 2) := by decide +kernel
theorem dX7_tests_142 : decode cX7_tests 142 = .ok (.goto 5, 3) := by decide +kernel
theorem dX7_tests_145 : decode cX7_tests 145 = .ok (.bipush 110, 2) := by decide +kernel
theorem dX7_tests_147 : decode cX7_tests 147 = .ok (.dup2, 1) := by decide +kernel
theorem dX7_tests_148 : decode cX7_tests 148 = .ok (.iaload, 1) := by decide +kernel
theorem dX7_tests_149 : decode cX7_tests 149 = .ok (.iconst 1, 1) := by decide +kernel
theorem dX7_tests_150 : decode cX7_tests 150 = .ok (.iadd, 1) := by decide +kernel
theorem dX7_tests_151 : decode cX7_tests 151 = .ok (.iastore, 1) := by decide +kernel
theorem dX7_tests_152 : decode cX7_tests 152 = .ok (.iinc 3 1, 3) := by decide +kernel
theorem dX7_tests_155 : decode cX7_tests 155 = .ok (.goto (-151), 3) := by decide +kernel
theorem dX7_tests_158 : decode cX7_tests 158 = .ok (.iload_n 2, 1) := by decide +kernel
theorem dX7_tests_159 : decode cX7_tests 159 = .ok (.ireturn, 1) := by decide +kernel
theorem dX7_isSet_0 : decode cX7_isSet 0 = .ok (.iload_n 1, 1) := by decide +kernel
theorem dX7_isSet_1 : decode cX7_isSet 1 = .ok (.iconst 0, 1) := by decide +kernel
theorem dX7_isSet_2 : decode cX7_isSet 2 = .ok (.iconst 1, 1) := by decide +kernel
theorem dX7_isSet_3 : decode cX7_isSet 3 = .ok (.aload_n 0, 1) := by decide +kernel
theorem dX7_isSet_4 : decode cX7_isSet 4 = .ok (.invokevirtual 49, 3) := by decide +kernel
theorem dX7_isSet_7 : decode cX7_isSet 7 = .ok (.ishl, 1) := by decide +kernel
theorem dX7_isSet_8 : decode cX7_isSet 8 = .ok (.iconst 1, 1) := by decide +kernel
theorem dX7_isSet_9 : decode cX7_isSet 9 = .ok (.isub, 1) := by decide +kernel
theorem dX7_isSet_10 : decode cX7_isSet 10 = .ok (.invokestatic 53, 3) := by decide +kernel
theorem dX7_isSet_13 : decode cX7_isSet 13 = .ok (.ireturn, 1) := by decide +kernel
theorem dX7_laysPlaces_0 : decode cX7_laysPlaces 0 = .ok (.iconst 0, 1) := by decide +kernel
theorem dX7_laysPlaces_1 : decode cX7_laysPlaces 1 = .ok (.istore_n 1, 1) := by decide +kernel
theorem dX7_laysPlaces_2 : decode cX7_laysPlaces 2 = .ok (.iload_n 1, 1) := by decide +kernel
theorem dX7_laysPlaces_3 : decode cX7_laysPlaces 3 = .ok (.sipush 200, 3) := by decide +kernel
theorem dX7_laysPlaces_6 : decode cX7_laysPlaces 6 = .ok (.if_icmp .gt 72, 3) := by decide +kernel
theorem dX7_laysPlaces_9 : decode cX7_laysPlaces 9 = .ok (.aload_n 0, 1) := by decide +kernel
theorem dX7_laysPlaces_10 : decode cX7_laysPlaces 10 = .ok (.getfield 22, 3) := by decide +kernel
theorem dX7_laysPlaces_13 : decode cX7_laysPlaces 13 = .ok (.iload_n 1, 1) := by decide +kernel
theorem dX7_laysPlaces_14 : decode cX7_laysPlaces 14 = .ok (.iconst 0, 1) := by decide +kernel
theorem dX7_laysPlaces_15 : decode cX7_laysPlaces 15 = .ok (.iastore, 1) := by decide +kernel
theorem dX7_laysPlaces_16 : decode cX7_laysPlaces 16 = .ok (.aload_n 0, 1) := by decide +kernel
theorem dX7_laysPlaces_17 : decode cX7_laysPlaces 17 = .ok (.getfield 25, 3) := by decide +kernel
theorem dX7_laysPlaces_20 : decode cX7_laysPlaces 20 = .ok (.iload_n 1, 1) := by decide +kernel
theorem dX7_laysPlaces_21 : decode cX7_laysPlaces 21 = .ok (.iconst 0, 1) := by decide +kernel
theorem dX7_laysPlaces_22 : decode cX7_laysPlaces 22 = .ok (.bastore, 1) := by decide +kernel
theorem dX7_laysPlaces_23 : decode cX7_laysPlaces 23 = .ok (.iconst 0, 1) := by decide +kernel
theorem dX7_laysPlaces_24 : decode cX7_laysPlaces 24 = .ok (.istore_n 2, 1) := by decide +kernel
theorem dX7_laysPlaces_25 : decode cX7_laysPlaces 25 = .ok (.iload_n 2, 1) := by decide +kernel
theorem dX7_laysPlaces_26 : decode cX7_laysPlaces 26 = .ok (.aload_n 0, 1) := by decide +kernel
theorem dX7_laysPlaces_27 : decode cX7_laysPlaces 27 = .ok (.invokevirtual 49, 3) := by decide +kernel
theorem dX7_laysPlaces_30 : decode cX7_laysPlaces 30 = .ok (.if_icmp .ge 42, 3) := by decide +kernel
theorem dX7_laysPlaces_33 : decode cX7_laysPlaces 33 = .ok (.aload_n 0, 1) := by decide +kernel
theorem dX7_laysPlaces_34 : decode cX7_laysPlaces 34 = .ok (.getfield 22, 3) := by decide +kernel
theorem dX7_laysPlaces_37 : decode cX7_laysPlaces 37 = .ok (.iload_n 1, 1) := by decide +kernel
theorem dX7_laysPlaces_38 : decode cX7_laysPlaces 38 = .ok (.dup2, 1) := by decide +kernel
theorem dX7_laysPlaces_39 : decode cX7_laysPlaces 39 = .ok (.iaload, 1) := by decide +kernel
theorem dX7_laysPlaces_40 : decode cX7_laysPlaces 40 = .ok (.aload_n 0, 1) := by decide +kernel
theorem dX7_laysPlaces_41 : decode cX7_laysPlaces 41 = .ok (.iload_n 2, 1) := by decide +kernel
theorem dX7_laysPlaces_42 : decode cX7_laysPlaces 42 = .ok (.invokevirtual 144, 3) := by decide +kernel
theorem dX7_laysPlaces_45 : decode cX7_laysPlaces 45 = .ok (.ifCond .eq 18, 3) := by decide +kernel
theorem dX7_laysPlaces_48 : decode cX7_laysPlaces 48 = .ok (.aload_n 0, 1) := by decide +kernel
theorem dX7_laysPlaces_49 : decode cX7_laysPlaces 49 = .ok (.iload_n 2, 1) := by decide +kernel
theorem dX7_laysPlaces_50 : decode cX7_laysPlaces 50 = .ok (.iload_n 1, 1) := by decide +kernel
theorem dX7_laysPlaces_51 : decode cX7_laysPlaces 51 = .ok (.invokevirtual 154, 3) := by decide +kernel
theorem dX7_laysPlaces_54 : decode cX7_laysPlaces 54 = .ok (.ifCond .eq 9, 3) := by decide +kernel
theorem dX7_laysPlaces_57 : decode cX7_laysPlaces 57 = .ok (.iconst 1, 1) := by decide +kernel
theorem dX7_laysPlaces_58 : decode cX7_laysPlaces 58 = .ok (.iload_n 2, 1) := by decide +kernel
theorem dX7_laysPlaces_59 : decode cX7_laysPlaces 59 = .ok (.ishl, 1) := by decide +kernel
theorem dX7_laysPlaces_60 : decode cX7_laysPlaces 60 = .ok (.goto 4, 3) := by decide +kernel
theorem dX7_laysPlaces_63 : decode cX7_laysPlaces 63 = .ok (.iconst 0, 1) := by decide +kernel
theorem dX7_laysPlaces_64 : decode cX7_laysPlaces 64 = .ok (.ior, 1) := by decide +kernel
theorem dX7_laysPlaces_65 : decode cX7_laysPlaces 65 = .ok (.iastore, 1) := by decide +kernel
theorem dX7_laysPlaces_66 : decode cX7_laysPlaces 66 = .ok (.iinc 2 1, 3) := by decide +kernel
theorem dX7_laysPlaces_69 : decode cX7_laysPlaces 69 = .ok (.goto (-44), 3) := by decide +kernel
theorem dX7_laysPlaces_72 : decode cX7_laysPlaces 72 = .ok (.iinc 1 1, 3) := by decide +kernel
theorem dX7_laysPlaces_75 : decode cX7_laysPlaces 75 = .ok (.goto (-73), 3) := by decide +kernel
theorem dX7_laysPlaces_78 : decode cX7_laysPlaces 78 = .ok (.iconst 0, 1) := by decide +kernel
theorem dX7_laysPlaces_79 : decode cX7_laysPlaces 79 = .ok (.istore_n 1, 1) := by decide +kernel
theorem dX7_laysPlaces_80 : decode cX7_laysPlaces 80 = .ok (.iload_n 1, 1) := by decide +kernel
theorem dX7_laysPlaces_81 : decode cX7_laysPlaces 81 = .ok (.aload_n 0, 1) := by decide +kernel
theorem dX7_laysPlaces_82 : decode cX7_laysPlaces 82 = .ok (.getfield 7, 3) := by decide +kernel
theorem dX7_laysPlaces_85 : decode cX7_laysPlaces 85 = .ok (.bipush 91, 2) := by decide +kernel
theorem dX7_laysPlaces_87 : decode cX7_laysPlaces 87 = .ok (.iaload, 1) := by decide +kernel
theorem dX7_laysPlaces_88 : decode cX7_laysPlaces 88 = .ok (.if_icmp .ge 82, 3) := by decide +kernel
theorem dX7_laysPlaces_91 : decode cX7_laysPlaces 91 = .ok (.aload_n 0, 1) := by decide +kernel
theorem dX7_laysPlaces_92 : decode cX7_laysPlaces 92 = .ok (.iload_n 1, 1) := by decide +kernel
theorem dX7_laysPlaces_93 : decode cX7_laysPlaces 93 = .ok (.invokevirtual 158, 3) := by decide +kernel
theorem dX7_laysPlaces_96 : decode cX7_laysPlaces 96 = .ok (.ifCond .ne 7, 3) := by decide +kernel
theorem dX7_laysPlaces_99 : decode cX7_laysPlaces 99 = .ok (.iconst 1, 1) := by decide +kernel
theorem dX7_laysPlaces_100 : decode cX7_laysPlaces 100 = .ok (.goto 4, 3) := by decide +kernel
theorem dX7_laysPlaces_103 : decode cX7_laysPlaces 103 = .ok (.iconst 0, 1) := by decide +kernel
theorem dX7_laysPlaces_104 : decode cX7_laysPlaces 104 = .ok (.istore_n 2, 1) := by decide +kernel
theorem dX7_laysPlaces_105 : decode cX7_laysPlaces 105 = .ok (.aload_n 0, 1) := by decide +kernel
theorem dX7_laysPlaces_106 : decode cX7_laysPlaces 106 = .ok (.getfield 7, 3) := by decide +kernel
theorem dX7_laysPlaces_109 : decode cX7_laysPlaces 109 = .ok (.bipush 92, 2) := by decide +kernel
theorem dX7_laysPlaces_111 : decode cX7_laysPlaces 111 = .ok (.iconst 2, 1) := by decide +kernel
theorem dX7_laysPlaces_112 : decode cX7_laysPlaces 112 = .ok (.iload_n 1, 1) := by decide +kernel
theorem dX7_laysPlaces_113 : decode cX7_laysPlaces 113 = .ok (.imul, 1) := by decide +kernel
theorem dX7_laysPlaces_114 : decode cX7_laysPlaces 114 = .ok (.iadd, 1) := by decide +kernel
theorem dX7_laysPlaces_115 : decode cX7_laysPlaces 115 = .ok (.iaload, 1) := by decide +kernel
theorem dX7_laysPlaces_116 : decode cX7_laysPlaces 116 = .ok (.istore_n 3, 1) := by decide +kernel
theorem dX7_laysPlaces_117 : decode cX7_laysPlaces 117 = .ok (.iload_n 3, 1) := by decide +kernel
theorem dX7_laysPlaces_118 : decode cX7_laysPlaces 118 = .ok (.aload_n 0, 1) := by decide +kernel
theorem dX7_laysPlaces_119 : decode cX7_laysPlaces 119 = .ok (.getfield 7, 3) := by decide +kernel
theorem dX7_laysPlaces_122 : decode cX7_laysPlaces 122 = .ok (.bipush 92, 2) := by decide +kernel
theorem dX7_laysPlaces_124 : decode cX7_laysPlaces 124 = .ok (.iconst 2, 1) := by decide +kernel
theorem dX7_laysPlaces_125 : decode cX7_laysPlaces 125 = .ok (.iload_n 1, 1) := by decide +kernel
theorem dX7_laysPlaces_126 : decode cX7_laysPlaces 126 = .ok (.imul, 1) := by decide +kernel
theorem dX7_laysPlaces_127 : decode cX7_laysPlaces 127 = .ok (.iadd, 1) := by decide +kernel
theorem dX7_laysPlaces_128 : decode cX7_laysPlaces 128 = .ok (.iconst 1, 1) := by decide +kernel
theorem dX7_laysPlaces_129 : decode cX7_laysPlaces 129 = .ok (.iadd, 1) := by decide +kernel
theorem dX7_laysPlaces_130 : decode cX7_laysPlaces 130 = .ok (.iaload, 1) := by decide +kernel
theorem dX7_laysPlaces_131 : decode cX7_laysPlaces 131 = .ok (.if_icmp .gt 33, 3) := by decide +kernel
theorem dX7_laysPlaces_134 : decode cX7_laysPlaces 134 = .ok (.aload_n 0, 1) := by decide +kernel
theorem dX7_laysPlaces_135 : decode cX7_laysPlaces 135 = .ok (.getfield 25, 3) := by decide +kernel
theorem dX7_laysPlaces_138 : decode cX7_laysPlaces 138 = .ok (.iload_n 3, 1) := by decide +kernel
theorem dX7_laysPlaces_139 : decode cX7_laysPlaces 139 = .ok (.aload_n 0, 1) := by decide +kernel
theorem dX7_laysPlaces_140 : decode cX7_laysPlaces 140 = .ok (.getfield 25, 3) := by decide +kernel
theorem dX7_laysPlaces_143 : decode cX7_laysPlaces 143 = .ok (.iload_n 3, 1) := by decide +kernel
theorem dX7_laysPlaces_144 : decode cX7_laysPlaces 144 = .ok (.baload, 1) := by decide +kernel
theorem dX7_laysPlaces_145 : decode cX7_laysPlaces 145 = .ok (.ifCond .ne 7, 3) := by decide +kernel
theorem dX7_laysPlaces_148 : decode cX7_laysPlaces 148 = .ok (.iload_n 2, 1) := by decide +kernel
theorem dX7_laysPlaces_149 : decode cX7_laysPlaces 149 = .ok (.ifCond .eq 7, 3) := by decide +kernel
theorem dX7_laysPlaces_152 : decode cX7_laysPlaces 152 = .ok (.iconst 1, 1) := by decide +kernel
theorem dX7_laysPlaces_153 : decode cX7_laysPlaces 153 = .ok (.goto 4, 3) := by decide +kernel
theorem dX7_laysPlaces_156 : decode cX7_laysPlaces 156 = .ok (.iconst 0, 1) := by decide +kernel
theorem dX7_laysPlaces_157 : decode cX7_laysPlaces 157 = .ok (.bastore, 1) := by decide +kernel
theorem dX7_laysPlaces_158 : decode cX7_laysPlaces 158 = .ok (.iinc 3 1, 3) := by decide +kernel
theorem dX7_laysPlaces_161 : decode cX7_laysPlaces 161 = .ok (.goto (-44), 3) := by decide +kernel
theorem dX7_laysPlaces_164 : decode cX7_laysPlaces 164 = .ok (.iinc 1 1, 3) := by decide +kernel
theorem dX7_laysPlaces_167 : decode cX7_laysPlaces 167 = .ok (.goto (-87), 3) := by decide +kernel
theorem dX7_laysPlaces_170 : decode cX7_laysPlaces 170 = .ok (.return_, 1) := by decide +kernel
theorem dX7_unlit_0 : decode cX7_unlit 0 = .ok (.iconst 0, 1) := by decide +kernel
theorem dX7_unlit_1 : decode cX7_unlit 1 = .ok (.istore_n 2, 1) := by decide +kernel
theorem dX7_unlit_2 : decode cX7_unlit 2 = .ok (.aload_n 0, 1) := by decide +kernel
theorem dX7_unlit_3 : decode cX7_unlit 3 = .ok (.getfield 7, 3) := by decide +kernel
theorem dX7_unlit_6 : decode cX7_unlit 6 = .ok (.bipush 92, 2) := by decide +kernel
theorem dX7_unlit_8 : decode cX7_unlit 8 = .ok (.iconst 2, 1) := by decide +kernel
theorem dX7_unlit_9 : decode cX7_unlit 9 = .ok (.iload_n 1, 1) := by decide +kernel
theorem dX7_unlit_10 : decode cX7_unlit 10 = .ok (.imul, 1) := by decide +kernel
theorem dX7_unlit_11 : decode cX7_unlit 11 = .ok (.iadd, 1) := by decide +kernel
theorem dX7_unlit_12 : decode cX7_unlit 12 = .ok (.iaload, 1) := by decide +kernel
theorem dX7_unlit_13 : decode cX7_unlit 13 = .ok (.istore_n 3, 1) := by decide +kernel
theorem dX7_unlit_14 : decode cX7_unlit 14 = .ok (.iload_n 3, 1) := by decide +kernel
theorem dX7_unlit_15 : decode cX7_unlit 15 = .ok (.aload_n 0, 1) := by decide +kernel
theorem dX7_unlit_16 : decode cX7_unlit 16 = .ok (.getfield 7, 3) := by decide +kernel
theorem dX7_unlit_19 : decode cX7_unlit 19 = .ok (.bipush 92, 2) := by decide +kernel
theorem dX7_unlit_21 : decode cX7_unlit 21 = .ok (.iconst 2, 1) := by decide +kernel
theorem dX7_unlit_22 : decode cX7_unlit 22 = .ok (.iload_n 1, 1) := by decide +kernel
theorem dX7_unlit_23 : decode cX7_unlit 23 = .ok (.imul, 1) := by decide +kernel
theorem dX7_unlit_24 : decode cX7_unlit 24 = .ok (.iadd, 1) := by decide +kernel
theorem dX7_unlit_25 : decode cX7_unlit 25 = .ok (.iconst 1, 1) := by decide +kernel
theorem dX7_unlit_26 : decode cX7_unlit 26 = .ok (.iadd, 1) := by decide +kernel
theorem dX7_unlit_27 : decode cX7_unlit 27 = .ok (.iaload, 1) := by decide +kernel
theorem dX7_unlit_28 : decode cX7_unlit 28 = .ok (.if_icmp .gt 26, 3) := by decide +kernel
theorem dX7_unlit_31 : decode cX7_unlit 31 = .ok (.iload_n 2, 1) := by decide +kernel
theorem dX7_unlit_32 : decode cX7_unlit 32 = .ok (.aload_n 0, 1) := by decide +kernel
theorem dX7_unlit_33 : decode cX7_unlit 33 = .ok (.getfield 22, 3) := by decide +kernel
theorem dX7_unlit_36 : decode cX7_unlit 36 = .ok (.iload_n 3, 1) := by decide +kernel
theorem dX7_unlit_37 : decode cX7_unlit 37 = .ok (.iaload, 1) := by decide +kernel
theorem dX7_unlit_38 : decode cX7_unlit 38 = .ok (.ifCond .ne 7, 3) := by decide +kernel
theorem dX7_unlit_41 : decode cX7_unlit 41 = .ok (.iconst 1, 1) := by decide +kernel
theorem dX7_unlit_42 : decode cX7_unlit 42 = .ok (.goto 4, 3) := by decide +kernel
theorem dX7_unlit_45 : decode cX7_unlit 45 = .ok (.iconst 0, 1) := by decide +kernel
theorem dX7_unlit_46 : decode cX7_unlit 46 = .ok (.iadd, 1) := by decide +kernel
theorem dX7_unlit_47 : decode cX7_unlit 47 = .ok (.istore_n 2, 1) := by decide +kernel
theorem dX7_unlit_48 : decode cX7_unlit 48 = .ok (.iinc 3 1, 3) := by decide +kernel
theorem dX7_unlit_51 : decode cX7_unlit 51 = .ok (.goto (-37), 3) := by decide +kernel
theorem dX7_unlit_54 : decode cX7_unlit 54 = .ok (.iload_n 2, 1) := by decide +kernel
theorem dX7_unlit_55 : decode cX7_unlit 55 = .ok (.ireturn, 1) := by decide +kernel
theorem dX7_isAllowed_0 : decode cX7_isAllowed 0 = .ok (.iconst 1, 1) := by decide +kernel
theorem dX7_isAllowed_1 : decode cX7_isAllowed 1 = .ok (.istore_n 2, 1) := by decide +kernel
theorem dX7_isAllowed_2 : decode cX7_isAllowed 2 = .ok (.iconst 0, 1) := by decide +kernel
theorem dX7_isAllowed_3 : decode cX7_isAllowed 3 = .ok (.istore_n 3, 1) := by decide +kernel
theorem dX7_isAllowed_4 : decode cX7_isAllowed 4 = .ok (.iload_n 3, 1) := by decide +kernel
theorem dX7_isAllowed_5 : decode cX7_isAllowed 5 = .ok (.sipush 200, 3) := by decide +kernel
theorem dX7_isAllowed_8 : decode cX7_isAllowed 8 = .ok (.if_icmp .gt 41, 3) := by decide +kernel
theorem dX7_isAllowed_11 : decode cX7_isAllowed 11 = .ok (.iload_n 2, 1) := by decide +kernel
theorem dX7_isAllowed_12 : decode cX7_isAllowed 12 = .ok (.ifCond .eq 37, 3) := by decide +kernel
theorem dX7_isAllowed_15 : decode cX7_isAllowed 15 = .ok (.aload_n 0, 1) := by decide +kernel
theorem dX7_isAllowed_16 : decode cX7_isAllowed 16 = .ok (.getfield 25, 3) := by decide +kernel
theorem dX7_isAllowed_19 : decode cX7_isAllowed 19 = .ok (.iload_n 3, 1) := by decide +kernel
theorem dX7_isAllowed_20 : decode cX7_isAllowed 20 = .ok (.baload, 1) := by decide +kernel
theorem dX7_isAllowed_21 : decode cX7_isAllowed 21 = .ok (.ifCond .eq 16, 3) := by decide +kernel
theorem dX7_isAllowed_24 : decode cX7_isAllowed 24 = .ok (.aload_n 0, 1) := by decide +kernel
theorem dX7_isAllowed_25 : decode cX7_isAllowed 25 = .ok (.getfield 22, 3) := by decide +kernel
theorem dX7_isAllowed_28 : decode cX7_isAllowed 28 = .ok (.iload_n 3, 1) := by decide +kernel
theorem dX7_isAllowed_29 : decode cX7_isAllowed 29 = .ok (.iaload, 1) := by decide +kernel
theorem dX7_isAllowed_30 : decode cX7_isAllowed 30 = .ok (.iload_n 1, 1) := by decide +kernel
theorem dX7_isAllowed_31 : decode cX7_isAllowed 31 = .ok (.iconst (-1), 1) := by decide +kernel
theorem dX7_isAllowed_32 : decode cX7_isAllowed 32 = .ok (.ixor, 1) := by decide +kernel
theorem dX7_isAllowed_33 : decode cX7_isAllowed 33 = .ok (.iand, 1) := by decide +kernel
theorem dX7_isAllowed_34 : decode cX7_isAllowed 34 = .ok (.ifCond .eq 7, 3) := by decide +kernel
theorem dX7_isAllowed_37 : decode cX7_isAllowed 37 = .ok (.iconst 1, 1) := by decide +kernel
theorem dX7_isAllowed_38 : decode cX7_isAllowed 38 = .ok (.goto 4, 3) := by decide +kernel
theorem dX7_isAllowed_41 : decode cX7_isAllowed 41 = .ok (.iconst 0, 1) := by decide +kernel
theorem dX7_isAllowed_42 : decode cX7_isAllowed 42 = .ok (.istore_n 2, 1) := by decide +kernel
theorem dX7_isAllowed_43 : decode cX7_isAllowed 43 = .ok (.iinc 3 1, 3) := by decide +kernel
theorem dX7_isAllowed_46 : decode cX7_isAllowed 46 = .ok (.goto (-42), 3) := by decide +kernel
theorem dX7_isAllowed_49 : decode cX7_isAllowed 49 = .ok (.iload_n 2, 1) := by decide +kernel
theorem dX7_isAllowed_50 : decode cX7_isAllowed 50 = .ok (.ireturn, 1) := by decide +kernel
theorem dX7_allowed_0 : decode cX7_allowed 0 = .ok (.aload_n 0, 1) := by decide +kernel
theorem dX7_allowed_1 : decode cX7_allowed 1 = .ok (.iload_n 1, 1) := by decide +kernel
theorem dX7_allowed_2 : decode cX7_allowed 2 = .ok (.invokevirtual 161, 3) := by decide +kernel
theorem dX7_allowed_5 : decode cX7_allowed 5 = .ok (.ifCond .ne 5, 3) := by decide +kernel
theorem dX7_allowed_8 : decode cX7_allowed 8 = .ok (.iconst (-1), 1) := by decide +kernel
theorem dX7_allowed_9 : decode cX7_allowed 9 = .ok (.ireturn, 1) := by decide +kernel
theorem dX7_allowed_10 : decode cX7_allowed 10 = .ok (.aload_n 0, 1) := by decide +kernel
theorem dX7_allowed_11 : decode cX7_allowed 11 = .ok (.invokevirtual 164, 3) := by decide +kernel
theorem dX7_allowed_14 : decode cX7_allowed 14 = .ok (.aload_n 0, 1) := by decide +kernel
theorem dX7_allowed_15 : decode cX7_allowed 15 = .ok (.iload_n 1, 1) := by decide +kernel
theorem dX7_allowed_16 : decode cX7_allowed 16 = .ok (.invokevirtual 167, 3) := by decide +kernel
theorem dX7_allowed_19 : decode cX7_allowed 19 = .ok (.ifCond .eq 7, 3) := by decide +kernel
theorem dX7_allowed_22 : decode cX7_allowed 22 = .ok (.iconst 1, 1) := by decide +kernel
theorem dX7_allowed_23 : decode cX7_allowed 23 = .ok (.goto 4, 3) := by decide +kernel
theorem dX7_allowed_26 : decode cX7_allowed 26 = .ok (.iconst 0, 1) := by decide +kernel
theorem dX7_allowed_27 : decode cX7_allowed 27 = .ok (.ireturn, 1) := by decide +kernel
theorem dX7_test_0 : decode cX7_test 0 = .ok (.aload_n 0, 1) := by decide +kernel
theorem dX7_test_1 : decode cX7_test 1 = .ok (.iload_n 1, 1) := by decide +kernel
theorem dX7_test_2 : decode cX7_test 2 = .ok (.invokevirtual 161, 3) := by decide +kernel
theorem dX7_test_5 : decode cX7_test 5 = .ok (.ifCond .eq 7, 3) := by decide +kernel
theorem dX7_test_8 : decode cX7_test 8 = .ok (.iload_n 1, 1) := by decide +kernel
theorem dX7_test_9 : decode cX7_test 9 = .ok (.ifCond .ne 5, 3) := by decide +kernel
theorem dX7_test_12 : decode cX7_test 12 = .ok (.iconst (-1), 1) := by decide +kernel
theorem dX7_test_13 : decode cX7_test 13 = .ok (.ireturn, 1) := by decide +kernel
theorem dX7_test_14 : decode cX7_test 14 = .ok (.aload_n 0, 1) := by decide +kernel
theorem dX7_test_15 : decode cX7_test 15 = .ok (.invokevirtual 164, 3) := by decide +kernel
theorem dX7_test_18 : decode cX7_test 18 = .ok (.iload_n 2, 1) := by decide +kernel
theorem dX7_test_19 : decode cX7_test 19 = .ok (.ifCond .ne 14, 3) := by decide +kernel
theorem dX7_test_22 : decode cX7_test 22 = .ok (.aload_n 0, 1) := by decide +kernel
theorem dX7_test_23 : decode cX7_test 23 = .ok (.iload_n 1, 1) := by decide +kernel
theorem dX7_test_24 : decode cX7_test 24 = .ok (.invokevirtual 167, 3) := by decide +kernel
theorem dX7_test_27 : decode cX7_test 27 = .ok (.ifCond .ne 6, 3) := by decide +kernel
theorem dX7_test_30 : decode cX7_test 30 = .ok (.bipush (-2), 2) := by decide +kernel
theorem dX7_test_32 : decode cX7_test 32 = .ok (.ireturn, 1) := by decide +kernel
theorem dX7_test_33 : decode cX7_test 33 = .ok (.aload_n 0, 1) := by decide +kernel
theorem dX7_test_34 : decode cX7_test 34 = .ok (.invokevirtual 87, 3) := by decide +kernel
theorem dX7_test_37 : decode cX7_test 37 = .ok (.aload_n 0, 1) := by decide +kernel
theorem dX7_test_38 : decode cX7_test 38 = .ok (.iload_n 1, 1) := by decide +kernel
theorem dX7_test_39 : decode cX7_test 39 = .ok (.invokevirtual 170, 3) := by decide +kernel
theorem dX7_test_42 : decode cX7_test 42 = .ok (.ireturn, 1) := by decide +kernel
theorem dX7_laysPlan_0 : decode cX7_laysPlan 0 = .ok (.aload_n 0, 1) := by decide +kernel
theorem dX7_laysPlan_1 : decode cX7_laysPlan 1 = .ok (.invokevirtual 164, 3) := by decide +kernel
theorem dX7_laysPlan_4 : decode cX7_laysPlan 4 = .ok (.iconst 1, 1) := by decide +kernel
theorem dX7_laysPlan_5 : decode cX7_laysPlan 5 = .ok (.aload_n 0, 1) := by decide +kernel
theorem dX7_laysPlan_6 : decode cX7_laysPlan 6 = .ok (.invokevirtual 49, 3) := by decide +kernel
theorem dX7_laysPlan_9 : decode cX7_laysPlan 9 = .ok (.ishl, 1) := by decide +kernel
theorem dX7_laysPlan_10 : decode cX7_laysPlan 10 = .ok (.istore_n 1, 1) := by decide +kernel
theorem dX7_laysPlan_11 : decode cX7_laysPlan 11 = .ok (.iconst 0, 1) := by decide +kernel
theorem dX7_laysPlan_12 : decode cX7_laysPlan 12 = .ok (.istore_n 2, 1) := by decide +kernel
theorem dX7_laysPlan_13 : decode cX7_laysPlan 13 = .ok (.iload_n 2, 1) := by decide +kernel
theorem dX7_laysPlan_14 : decode cX7_laysPlan 14 = .ok (.iload_n 1, 1) := by decide +kernel
theorem dX7_laysPlan_15 : decode cX7_laysPlan 15 = .ok (.if_icmp .ge 20, 3) := by decide +kernel
theorem dX7_laysPlan_18 : decode cX7_laysPlan 18 = .ok (.aload_n 0, 1) := by decide +kernel
theorem dX7_laysPlan_19 : decode cX7_laysPlan 19 = .ok (.getfield 35, 3) := by decide +kernel
theorem dX7_laysPlan_22 : decode cX7_laysPlan 22 = .ok (.iload_n 2, 1) := by decide +kernel
theorem dX7_laysPlan_23 : decode cX7_laysPlan 23 = .ok (.aload_n 0, 1) := by decide +kernel
theorem dX7_laysPlan_24 : decode cX7_laysPlan 24 = .ok (.iload_n 2, 1) := by decide +kernel
theorem dX7_laysPlan_25 : decode cX7_laysPlan 25 = .ok (.invokevirtual 167, 3) := by decide +kernel
theorem dX7_laysPlan_28 : decode cX7_laysPlan 28 = .ok (.bastore, 1) := by decide +kernel
theorem dX7_laysPlan_29 : decode cX7_laysPlan 29 = .ok (.iinc 2 1, 3) := by decide +kernel
theorem dX7_laysPlan_32 : decode cX7_laysPlan 32 = .ok (.goto (-19), 3) := by decide +kernel
theorem dX7_laysPlan_35 : decode cX7_laysPlan 35 = .ok (.aload_n 0, 1) := by decide +kernel
theorem dX7_laysPlan_36 : decode cX7_laysPlan 36 = .ok (.getfield 29, 3) := by decide +kernel
theorem dX7_laysPlan_39 : decode cX7_laysPlan 39 = .ok (.iconst 0, 1) := by decide +kernel
theorem dX7_laysPlan_40 : decode cX7_laysPlan 40 = .ok (.iconst 0, 1) := by decide +kernel
theorem dX7_laysPlan_41 : decode cX7_laysPlan 41 = .ok (.iastore, 1) := by decide +kernel
theorem dX7_laysPlan_42 : decode cX7_laysPlan 42 = .ok (.iconst 1, 1) := by decide +kernel
theorem dX7_laysPlan_43 : decode cX7_laysPlan 43 = .ok (.istore_n 2, 1) := by decide +kernel
theorem dX7_laysPlan_44 : decode cX7_laysPlan 44 = .ok (.iload_n 2, 1) := by decide +kernel
theorem dX7_laysPlan_45 : decode cX7_laysPlan 45 = .ok (.iload_n 1, 1) := by decide +kernel
theorem dX7_laysPlan_46 : decode cX7_laysPlan 46 = .ok (.if_icmp .ge 131, 3) := by decide +kernel
theorem dX7_laysPlan_49 : decode cX7_laysPlan 49 = .ok (.aload_n 0, 1) := by decide +kernel
theorem dX7_laysPlan_50 : decode cX7_laysPlan 50 = .ok (.getfield 29, 3) := by decide +kernel
theorem dX7_laysPlan_53 : decode cX7_laysPlan 53 = .ok (.iload_n 2, 1) := by decide +kernel
theorem dX7_laysPlan_54 : decode cX7_laysPlan 54 = .ok (.bipush 99, 2) := by decide +kernel
theorem dX7_laysPlan_56 : decode cX7_laysPlan 56 = .ok (.iastore, 1) := by decide +kernel
theorem dX7_laysPlan_57 : decode cX7_laysPlan 57 = .ok (.aload_n 0, 1) := by decide +kernel
theorem dX7_laysPlan_58 : decode cX7_laysPlan 58 = .ok (.getfield 32, 3) := by decide +kernel
theorem dX7_laysPlan_61 : decode cX7_laysPlan 61 = .ok (.iload_n 2, 1) := by decide +kernel
theorem dX7_laysPlan_62 : decode cX7_laysPlan 62 = .ok (.iconst 0, 1) := by decide +kernel
theorem dX7_laysPlan_63 : decode cX7_laysPlan 63 = .ok (.iastore, 1) := by decide +kernel
theorem dX7_laysPlan_64 : decode cX7_laysPlan 64 = .ok (.iload_n 2, 1) := by decide +kernel
theorem dX7_laysPlan_65 : decode cX7_laysPlan 65 = .ok (.iload_n 2, 1) := by decide +kernel
theorem dX7_laysPlan_66 : decode cX7_laysPlan 66 = .ok (.ineg, 1) := by decide +kernel
theorem dX7_laysPlan_67 : decode cX7_laysPlan 67 = .ok (.iand, 1) := by decide +kernel
theorem dX7_laysPlan_68 : decode cX7_laysPlan 68 = .ok (.istore_n 3, 1) := by decide +kernel
theorem dX7_laysPlan_69 : decode cX7_laysPlan 69 = .ok (.iload_n 3, 1) := by decide +kernel
theorem dX7_laysPlan_70 : decode cX7_laysPlan 70 = .ok (.istore 4, 2) := by decide +kernel
theorem dX7_laysPlan_72 : decode cX7_laysPlan 72 = .ok (.iload 4, 2) := by decide +kernel
theorem dX7_laysPlan_74 : decode cX7_laysPlan 74 = .ok (.iload_n 2, 1) := by decide +kernel
theorem dX7_laysPlan_75 : decode cX7_laysPlan 75 = .ok (.if_icmp .gt 96, 3) := by decide +kernel
theorem dX7_laysPlan_78 : decode cX7_laysPlan 78 = .ok (.iload 4, 2) := by decide +kernel
theorem dX7_laysPlan_80 : decode cX7_laysPlan 80 = .ok (.iload_n 2, 1) := by decide +kernel
theorem dX7_laysPlan_81 : decode cX7_laysPlan 81 = .ok (.iconst (-1), 1) := by decide +kernel
theorem dX7_laysPlan_82 : decode cX7_laysPlan 82 = .ok (.ixor, 1) := by decide +kernel
theorem dX7_laysPlan_83 : decode cX7_laysPlan 83 = .ok (.iand, 1) := by decide +kernel
theorem dX7_laysPlan_84 : decode cX7_laysPlan 84 = .ok (.ifCond .ne 24, 3) := by decide +kernel
theorem dX7_laysPlan_87 : decode cX7_laysPlan 87 = .ok (.iload 4, 2) := by decide +kernel
theorem dX7_laysPlan_89 : decode cX7_laysPlan 89 = .ok (.iload_n 3, 1) := by decide +kernel
theorem dX7_laysPlan_90 : decode cX7_laysPlan 90 = .ok (.iand, 1) := by decide +kernel
theorem dX7_laysPlan_91 : decode cX7_laysPlan 91 = .ok (.ifCond .eq 17, 3) := by decide +kernel
theorem dX7_laysPlan_94 : decode cX7_laysPlan 94 = .ok (.aload_n 0, 1) := by decide +kernel
theorem dX7_laysPlan_95 : decode cX7_laysPlan 95 = .ok (.getfield 35, 3) := by decide +kernel
theorem dX7_laysPlan_98 : decode cX7_laysPlan 98 = .ok (.iload 4, 2) := by decide +kernel
theorem dX7_laysPlan_100 : decode cX7_laysPlan 100 = .ok (.baload, 1) := by decide +kernel
theorem dX7_laysPlan_101 : decode cX7_laysPlan 101 = .ok (.ifCond .eq 7, 3) := by decide +kernel
theorem dX7_laysPlan_104 : decode cX7_laysPlan 104 = .ok (.iconst 1, 1) := by decide +kernel
theorem dX7_laysPlan_105 : decode cX7_laysPlan 105 = .ok (.goto 4, 3) := by decide +kernel
theorem dX7_laysPlan_108 : decode cX7_laysPlan 108 = .ok (.iconst 0, 1) := by decide +kernel
theorem dX7_laysPlan_109 : decode cX7_laysPlan 109 = .ok (.istore 5, 2) := by decide +kernel
theorem dX7_laysPlan_111 : decode cX7_laysPlan 111 = .ok (.iload 5, 2) := by decide +kernel
theorem dX7_laysPlan_113 : decode cX7_laysPlan 113 = .ok (.ifCond .eq 52, 3) := by decide +kernel
theorem dX7_laysPlan_116 : decode cX7_laysPlan 116 = .ok (.aload_n 0, 1) := by decide +kernel
theorem dX7_laysPlan_117 : decode cX7_laysPlan 117 = .ok (.getfield 29, 3) := by decide +kernel
theorem dX7_laysPlan_120 : decode cX7_laysPlan 120 = .ok (.iload_n 2, 1) := by decide +kernel
theorem dX7_laysPlan_121 : decode cX7_laysPlan 121 = .ok (.iload 4, 2) := by decide +kernel
theorem dX7_laysPlan_123 : decode cX7_laysPlan 123 = .ok (.iconst (-1), 1) := by decide +kernel
theorem dX7_laysPlan_124 : decode cX7_laysPlan 124 = .ok (.ixor, 1) := by decide +kernel
theorem dX7_laysPlan_125 : decode cX7_laysPlan 125 = .ok (.iand, 1) := by decide +kernel
theorem dX7_laysPlan_126 : decode cX7_laysPlan 126 = .ok (.iaload, 1) := by decide +kernel
theorem dX7_laysPlan_127 : decode cX7_laysPlan 127 = .ok (.iconst 1, 1) := by decide +kernel
theorem dX7_laysPlan_128 : decode cX7_laysPlan 128 = .ok (.iadd, 1) := by decide +kernel
theorem dX7_laysPlan_129 : decode cX7_laysPlan 129 = .ok (.aload_n 0, 1) := by decide +kernel
theorem dX7_laysPlan_130 : decode cX7_laysPlan 130 = .ok (.getfield 29, 3) := by decide +kernel
theorem dX7_laysPlan_133 : decode cX7_laysPlan 133 = .ok (.iload_n 2, 1) := by decide +kernel
theorem dX7_laysPlan_134 : decode cX7_laysPlan 134 = .ok (.iaload, 1) := by decide +kernel
theorem dX7_laysPlan_135 : decode cX7_laysPlan 135 = .ok (.if_icmp .ge 30, 3) := by decide +kernel
theorem dX7_laysPlan_138 : decode cX7_laysPlan 138 = .ok (.aload_n 0, 1) := by decide +kernel
theorem dX7_laysPlan_139 : decode cX7_laysPlan 139 = .ok (.getfield 29, 3) := by decide +kernel
theorem dX7_laysPlan_142 : decode cX7_laysPlan 142 = .ok (.iload_n 2, 1) := by decide +kernel
theorem dX7_laysPlan_143 : decode cX7_laysPlan 143 = .ok (.aload_n 0, 1) := by decide +kernel
theorem dX7_laysPlan_144 : decode cX7_laysPlan 144 = .ok (.getfield 29, 3) := by decide +kernel
theorem dX7_laysPlan_147 : decode cX7_laysPlan 147 = .ok (.iload_n 2, 1) := by decide +kernel
theorem dX7_laysPlan_148 : decode cX7_laysPlan 148 = .ok (.iload 4, 2) := by decide +kernel
theorem dX7_laysPlan_150 : decode cX7_laysPlan 150 = .ok (.iconst (-1), 1) := by decide +kernel
theorem dX7_laysPlan_151 : decode cX7_laysPlan 151 = .ok (.ixor, 1) := by decide +kernel
theorem dX7_laysPlan_152 : decode cX7_laysPlan 152 = .ok (.iand, 1) := by decide +kernel
theorem dX7_laysPlan_153 : decode cX7_laysPlan 153 = .ok (.iaload, 1) := by decide +kernel
theorem dX7_laysPlan_154 : decode cX7_laysPlan 154 = .ok (.iconst 1, 1) := by decide +kernel
theorem dX7_laysPlan_155 : decode cX7_laysPlan 155 = .ok (.iadd, 1) := by decide +kernel
theorem dX7_laysPlan_156 : decode cX7_laysPlan 156 = .ok (.iastore, 1) := by decide +kernel
theorem dX7_laysPlan_157 : decode cX7_laysPlan 157 = .ok (.aload_n 0, 1) := by decide +kernel
theorem dX7_laysPlan_158 : decode cX7_laysPlan 158 = .ok (.getfield 32, 3) := by decide +kernel
theorem dX7_laysPlan_161 : decode cX7_laysPlan 161 = .ok (.iload_n 2, 1) := by decide +kernel
theorem dX7_laysPlan_162 : decode cX7_laysPlan 162 = .ok (.iload 4, 2) := by decide +kernel
theorem dX7_laysPlan_164 : decode cX7_laysPlan 164 = .ok (.iastore, 1) := by decide +kernel
theorem dX7_laysPlan_165 : decode cX7_laysPlan 165 = .ok (.iinc 4 1, 3) := by decide +kernel
theorem dX7_laysPlan_168 : decode cX7_laysPlan 168 = .ok (.goto (-96), 3) := by decide +kernel
theorem dX7_laysPlan_171 : decode cX7_laysPlan 171 = .ok (.iinc 2 1, 3) := by decide +kernel
theorem dX7_laysPlan_174 : decode cX7_laysPlan 174 = .ok (.goto (-130), 3) := by decide +kernel
theorem dX7_laysPlan_177 : decode cX7_laysPlan 177 = .ok (.return_, 1) := by decide +kernel
theorem dX7_hasPlan_0 : decode cX7_hasPlan 0 = .ok (.aload_n 0, 1) := by decide +kernel
theorem dX7_hasPlan_1 : decode cX7_hasPlan 1 = .ok (.getfield 29, 3) := by decide +kernel
theorem dX7_hasPlan_4 : decode cX7_hasPlan 4 = .ok (.iconst 1, 1) := by decide +kernel
theorem dX7_hasPlan_5 : decode cX7_hasPlan 5 = .ok (.aload_n 0, 1) := by decide +kernel
theorem dX7_hasPlan_6 : decode cX7_hasPlan 6 = .ok (.invokevirtual 49, 3) := by decide +kernel
theorem dX7_hasPlan_9 : decode cX7_hasPlan 9 = .ok (.ishl, 1) := by decide +kernel
theorem dX7_hasPlan_10 : decode cX7_hasPlan 10 = .ok (.iconst 1, 1) := by decide +kernel
theorem dX7_hasPlan_11 : decode cX7_hasPlan 11 = .ok (.isub, 1) := by decide +kernel
theorem dX7_hasPlan_12 : decode cX7_hasPlan 12 = .ok (.iaload, 1) := by decide +kernel
theorem dX7_hasPlan_13 : decode cX7_hasPlan 13 = .ok (.bipush 99, 2) := by decide +kernel
theorem dX7_hasPlan_15 : decode cX7_hasPlan 15 = .ok (.if_icmp .ge 7, 3) := by decide +kernel
theorem dX7_hasPlan_18 : decode cX7_hasPlan 18 = .ok (.iconst 1, 1) := by decide +kernel
theorem dX7_hasPlan_19 : decode cX7_hasPlan 19 = .ok (.goto 4, 3) := by decide +kernel
theorem dX7_hasPlan_22 : decode cX7_hasPlan 22 = .ok (.iconst 0, 1) := by decide +kernel
theorem dX7_hasPlan_23 : decode cX7_hasPlan 23 = .ok (.ireturn, 1) := by decide +kernel
theorem dX7_setOf_0 : decode cX7_setOf 0 = .ok (.iconst 1, 1) := by decide +kernel
theorem dX7_setOf_1 : decode cX7_setOf 1 = .ok (.aload_n 0, 1) := by decide +kernel
theorem dX7_setOf_2 : decode cX7_setOf 2 = .ok (.invokevirtual 49, 3) := by decide +kernel
theorem dX7_setOf_5 : decode cX7_setOf 5 = .ok (.ishl, 1) := by decide +kernel
theorem dX7_setOf_6 : decode cX7_setOf 6 = .ok (.iconst 1, 1) := by decide +kernel
theorem dX7_setOf_7 : decode cX7_setOf 7 = .ok (.isub, 1) := by decide +kernel
theorem dX7_setOf_8 : decode cX7_setOf 8 = .ok (.istore_n 2, 1) := by decide +kernel
theorem dX7_setOf_9 : decode cX7_setOf 9 = .ok (.iconst 0, 1) := by decide +kernel
theorem dX7_setOf_10 : decode cX7_setOf 10 = .ok (.istore_n 3, 1) := by decide +kernel
theorem dX7_setOf_11 : decode cX7_setOf 11 = .ok (.iload_n 3, 1) := by decide +kernel
theorem dX7_setOf_12 : decode cX7_setOf 12 = .ok (.iload_n 1, 1) := by decide +kernel
theorem dX7_setOf_13 : decode cX7_setOf 13 = .ok (.if_icmp .ge 24, 3) := by decide +kernel
theorem dX7_setOf_16 : decode cX7_setOf 16 = .ok (.iload_n 2, 1) := by decide +kernel
theorem dX7_setOf_17 : decode cX7_setOf 17 = .ok (.ifCond .eq 20, 3) := by decide +kernel
theorem dX7_setOf_20 : decode cX7_setOf 20 = .ok (.iload_n 2, 1) := by decide +kernel
theorem dX7_setOf_21 : decode cX7_setOf 21 = .ok (.aload_n 0, 1) := by decide +kernel
theorem dX7_setOf_22 : decode cX7_setOf 22 = .ok (.getfield 32, 3) := by decide +kernel
theorem dX7_setOf_25 : decode cX7_setOf 25 = .ok (.iload_n 2, 1) := by decide +kernel
theorem dX7_setOf_26 : decode cX7_setOf 26 = .ok (.iaload, 1) := by decide +kernel
theorem dX7_setOf_27 : decode cX7_setOf 27 = .ok (.iconst (-1), 1) := by decide +kernel
theorem dX7_setOf_28 : decode cX7_setOf 28 = .ok (.ixor, 1) := by decide +kernel
theorem dX7_setOf_29 : decode cX7_setOf 29 = .ok (.iand, 1) := by decide +kernel
theorem dX7_setOf_30 : decode cX7_setOf 30 = .ok (.istore_n 2, 1) := by decide +kernel
theorem dX7_setOf_31 : decode cX7_setOf 31 = .ok (.iinc 3 1, 3) := by decide +kernel
theorem dX7_setOf_34 : decode cX7_setOf 34 = .ok (.goto (-23), 3) := by decide +kernel
theorem dX7_setOf_37 : decode cX7_setOf 37 = .ok (.iload_n 2, 1) := by decide +kernel
theorem dX7_setOf_38 : decode cX7_setOf 38 = .ok (.ifCond .ne 8, 3) := by decide +kernel
theorem dX7_setOf_41 : decode cX7_setOf 41 = .ok (.bipush (-9), 2) := by decide +kernel
theorem dX7_setOf_43 : decode cX7_setOf 43 = .ok (.goto 9, 3) := by decide +kernel
theorem dX7_setOf_46 : decode cX7_setOf 46 = .ok (.aload_n 0, 1) := by decide +kernel
theorem dX7_setOf_47 : decode cX7_setOf 47 = .ok (.getfield 32, 3) := by decide +kernel
theorem dX7_setOf_50 : decode cX7_setOf 50 = .ok (.iload_n 2, 1) := by decide +kernel
theorem dX7_setOf_51 : decode cX7_setOf 51 = .ok (.iaload, 1) := by decide +kernel
theorem dX7_setOf_52 : decode cX7_setOf 52 = .ok (.ireturn, 1) := by decide +kernel
theorem dX7_daysNow_0 : decode cX7_daysNow 0 = .ok (.aload_n 0, 1) := by decide +kernel
theorem dX7_daysNow_1 : decode cX7_daysNow 1 = .ok (.invokevirtual 173, 3) := by decide +kernel
theorem dX7_daysNow_4 : decode cX7_daysNow 4 = .ok (.ifCond .eq 19, 3) := by decide +kernel
theorem dX7_daysNow_7 : decode cX7_daysNow 7 = .ok (.aload_n 0, 1) := by decide +kernel
theorem dX7_daysNow_8 : decode cX7_daysNow 8 = .ok (.getfield 29, 3) := by decide +kernel
theorem dX7_daysNow_11 : decode cX7_daysNow 11 = .ok (.iconst 1, 1) := by decide +kernel
theorem dX7_daysNow_12 : decode cX7_daysNow 12 = .ok (.aload_n 0, 1) := by decide +kernel
theorem dX7_daysNow_13 : decode cX7_daysNow 13 = .ok (.invokevirtual 49, 3) := by decide +kernel
theorem dX7_daysNow_16 : decode cX7_daysNow 16 = .ok (.ishl, 1) := by decide +kernel
theorem dX7_daysNow_17 : decode cX7_daysNow 17 = .ok (.iconst 1, 1) := by decide +kernel
theorem dX7_daysNow_18 : decode cX7_daysNow 18 = .ok (.isub, 1) := by decide +kernel
theorem dX7_daysNow_19 : decode cX7_daysNow 19 = .ok (.iaload, 1) := by decide +kernel
theorem dX7_daysNow_20 : decode cX7_daysNow 20 = .ok (.goto 5, 3) := by decide +kernel
theorem dX7_daysNow_23 : decode cX7_daysNow 23 = .ok (.bipush (-9), 2) := by decide +kernel
theorem dX7_daysNow_25 : decode cX7_daysNow 25 = .ok (.ireturn, 1) := by decide +kernel
theorem dX7_days_0 : decode cX7_days 0 = .ok (.aload_n 0, 1) := by decide +kernel
theorem dX7_days_1 : decode cX7_days 1 = .ok (.invokevirtual 176, 3) := by decide +kernel
theorem dX7_days_4 : decode cX7_days 4 = .ok (.aload_n 0, 1) := by decide +kernel
theorem dX7_days_5 : decode cX7_days 5 = .ok (.invokevirtual 179, 3) := by decide +kernel
theorem dX7_days_8 : decode cX7_days 8 = .ok (.ireturn, 1) := by decide +kernel
theorem dX7_day_0 : decode cX7_day 0 = .ok (.iload_n 1, 1) := by decide +kernel
theorem dX7_day_1 : decode cX7_day 1 = .ok (.ifCond .ge 5, 3) := by decide +kernel
theorem dX7_day_4 : decode cX7_day 4 = .ok (.iconst (-1), 1) := by decide +kernel
theorem dX7_day_5 : decode cX7_day 5 = .ok (.ireturn, 1) := by decide +kernel
theorem dX7_day_6 : decode cX7_day 6 = .ok (.aload_n 0, 1) := by decide +kernel
theorem dX7_day_7 : decode cX7_day 7 = .ok (.invokevirtual 176, 3) := by decide +kernel
theorem dX7_day_10 : decode cX7_day 10 = .ok (.aload_n 0, 1) := by decide +kernel
theorem dX7_day_11 : decode cX7_day 11 = .ok (.invokevirtual 173, 3) := by decide +kernel
theorem dX7_day_14 : decode cX7_day 14 = .ok (.ifCond .eq 19, 3) := by decide +kernel
theorem dX7_day_17 : decode cX7_day 17 = .ok (.iload_n 1, 1) := by decide +kernel
theorem dX7_day_18 : decode cX7_day 18 = .ok (.aload_n 0, 1) := by decide +kernel
theorem dX7_day_19 : decode cX7_day 19 = .ok (.invokevirtual 179, 3) := by decide +kernel
theorem dX7_day_22 : decode cX7_day 22 = .ok (.if_icmp .ge 11, 3) := by decide +kernel
theorem dX7_day_25 : decode cX7_day 25 = .ok (.aload_n 0, 1) := by decide +kernel
theorem dX7_day_26 : decode cX7_day 26 = .ok (.iload_n 1, 1) := by decide +kernel
theorem dX7_day_27 : decode cX7_day 27 = .ok (.invokevirtual 182, 3) := by decide +kernel
theorem dX7_day_30 : decode cX7_day 30 = .ok (.goto 5, 3) := by decide +kernel
theorem dX7_day_33 : decode cX7_day 33 = .ok (.bipush (-9), 2) := by decide +kernel
theorem dX7_day_35 : decode cX7_day 35 = .ok (.ireturn, 1) := by decide +kernel
theorem dX7_dayOf_0 : decode cX7_dayOf 0 = .ok (.aload_n 0, 1) := by decide +kernel
theorem dX7_dayOf_1 : decode cX7_dayOf 1 = .ok (.invokevirtual 176, 3) := by decide +kernel
theorem dX7_dayOf_4 : decode cX7_dayOf 4 = .ok (.iconst 0, 1) := by decide +kernel
theorem dX7_dayOf_5 : decode cX7_dayOf 5 = .ok (.istore_n 2, 1) := by decide +kernel
theorem dX7_dayOf_6 : decode cX7_dayOf 6 = .ok (.iload_n 2, 1) := by decide +kernel
theorem dX7_dayOf_7 : decode cX7_dayOf 7 = .ok (.aload_n 0, 1) := by decide +kernel
theorem dX7_dayOf_8 : decode cX7_dayOf 8 = .ok (.invokevirtual 179, 3) := by decide +kernel
theorem dX7_dayOf_11 : decode cX7_dayOf 11 = .ok (.if_icmp .ge 24, 3) := by decide +kernel
theorem dX7_dayOf_14 : decode cX7_dayOf 14 = .ok (.aload_n 0, 1) := by decide +kernel
theorem dX7_dayOf_15 : decode cX7_dayOf 15 = .ok (.iload_n 2, 1) := by decide +kernel
theorem dX7_dayOf_16 : decode cX7_dayOf 16 = .ok (.invokevirtual 182, 3) := by decide +kernel
theorem dX7_dayOf_19 : decode cX7_dayOf 19 = .ok (.iload_n 1, 1) := by decide +kernel
theorem dX7_dayOf_20 : decode cX7_dayOf 20 = .ok (.ishr, 1) := by decide +kernel
theorem dX7_dayOf_21 : decode cX7_dayOf 21 = .ok (.iconst 1, 1) := by decide +kernel
theorem dX7_dayOf_22 : decode cX7_dayOf 22 = .ok (.iand, 1) := by decide +kernel
theorem dX7_dayOf_23 : decode cX7_dayOf 23 = .ok (.iconst 1, 1) := by decide +kernel
theorem dX7_dayOf_24 : decode cX7_dayOf 24 = .ok (.if_icmp .ne 5, 3) := by decide +kernel
theorem dX7_dayOf_27 : decode cX7_dayOf 27 = .ok (.iload_n 2, 1) := by decide +kernel
theorem dX7_dayOf_28 : decode cX7_dayOf 28 = .ok (.ireturn, 1) := by decide +kernel
theorem dX7_dayOf_29 : decode cX7_dayOf 29 = .ok (.iinc 2 1, 3) := by decide +kernel
theorem dX7_dayOf_32 : decode cX7_dayOf 32 = .ok (.goto (-26), 3) := by decide +kernel
theorem dX7_dayOf_35 : decode cX7_dayOf 35 = .ok (.bipush (-9), 2) := by decide +kernel
theorem dX7_dayOf_37 : decode cX7_dayOf 37 = .ok (.ireturn, 1) := by decide +kernel
theorem dX7_carryOut_0 : decode cX7_carryOut 0 = .ok (.aload_n 0, 1) := by decide +kernel
theorem dX7_carryOut_1 : decode cX7_carryOut 1 = .ok (.invokevirtual 49, 3) := by decide +kernel
theorem dX7_carryOut_4 : decode cX7_carryOut 4 = .ok (.ifCond .ne 5, 3) := by decide +kernel
theorem dX7_carryOut_7 : decode cX7_carryOut 7 = .ok (.iconst (-1), 1) := by decide +kernel
theorem dX7_carryOut_8 : decode cX7_carryOut 8 = .ok (.ireturn, 1) := by decide +kernel
theorem dX7_carryOut_9 : decode cX7_carryOut 9 = .ok (.aload_n 0, 1) := by decide +kernel
theorem dX7_carryOut_10 : decode cX7_carryOut 10 = .ok (.invokevirtual 176, 3) := by decide +kernel
theorem dX7_carryOut_13 : decode cX7_carryOut 13 = .ok (.aload_n 0, 1) := by decide +kernel
theorem dX7_carryOut_14 : decode cX7_carryOut 14 = .ok (.invokevirtual 173, 3) := by decide +kernel
theorem dX7_carryOut_17 : decode cX7_carryOut 17 = .ok (.ifCond .ne 6, 3) := by decide +kernel
theorem dX7_carryOut_20 : decode cX7_carryOut 20 = .ok (.bipush (-2), 2) := by decide +kernel
theorem dX7_carryOut_22 : decode cX7_carryOut 22 = .ok (.ireturn, 1) := by decide +kernel
theorem dX7_carryOut_23 : decode cX7_carryOut 23 = .ok (.aload_n 0, 1) := by decide +kernel
theorem dX7_carryOut_24 : decode cX7_carryOut 24 = .ok (.invokevirtual 179, 3) := by decide +kernel
theorem dX7_carryOut_27 : decode cX7_carryOut 27 = .ok (.istore_n 1, 1) := by decide +kernel
theorem dX7_carryOut_28 : decode cX7_carryOut 28 = .ok (.aload_n 0, 1) := by decide +kernel
theorem dX7_carryOut_29 : decode cX7_carryOut 29 = .ok (.getfield 7, 3) := by decide +kernel
theorem dX7_carryOut_32 : decode cX7_carryOut 32 = .ok (.bipush 105, 2) := by decide +kernel
theorem dX7_carryOut_34 : decode cX7_carryOut 34 = .ok (.iaload, 1) := by decide +kernel
theorem dX7_carryOut_35 : decode cX7_carryOut 35 = .ok (.bipush 24, 2) := by decide +kernel
theorem dX7_carryOut_37 : decode cX7_carryOut 37 = .ok (.iload_n 1, 1) := by decide +kernel
theorem dX7_carryOut_38 : decode cX7_carryOut 38 = .ok (.imul, 1) := by decide +kernel
theorem dX7_carryOut_39 : decode cX7_carryOut 39 = .ok (.iadd, 1) := by decide +kernel
theorem dX7_carryOut_40 : decode cX7_carryOut 40 = .ok (.ldc 147, 2) := by decide +kernel
theorem dX7_carryOut_42 : decode cX7_carryOut 42 = .ok (.if_icmp .le 6, 3) := by decide +kernel
theorem dX7_carryOut_45 : decode cX7_carryOut 45 = .ok (.bipush (-3), 2) := by decide +kernel
theorem dX7_carryOut_47 : decode cX7_carryOut 47 = .ok (.ireturn, 1) := by decide +kernel
theorem dX7_carryOut_48 : decode cX7_carryOut 48 = .ok (.aload_n 0, 1) := by decide +kernel
theorem dX7_carryOut_49 : decode cX7_carryOut 49 = .ok (.invokevirtual 87, 3) := by decide +kernel
theorem dX7_carryOut_52 : decode cX7_carryOut 52 = .ok (.aload_n 0, 1) := by decide +kernel
theorem dX7_carryOut_53 : decode cX7_carryOut 53 = .ok (.getfield 7, 3) := by decide +kernel
theorem dX7_carryOut_56 : decode cX7_carryOut 56 = .ok (.bipush 110, 2) := by decide +kernel
theorem dX7_carryOut_58 : decode cX7_carryOut 58 = .ok (.iaload, 1) := by decide +kernel
theorem dX7_carryOut_59 : decode cX7_carryOut 59 = .ok (.istore_n 2, 1) := by decide +kernel
theorem dX7_carryOut_60 : decode cX7_carryOut 60 = .ok (.iconst 0, 1) := by decide +kernel
theorem dX7_carryOut_61 : decode cX7_carryOut 61 = .ok (.istore_n 3, 1) := by decide +kernel
theorem dX7_carryOut_62 : decode cX7_carryOut 62 = .ok (.iload_n 3, 1) := by decide +kernel
theorem dX7_carryOut_63 : decode cX7_carryOut 63 = .ok (.iload_n 1, 1) := by decide +kernel
theorem dX7_carryOut_64 : decode cX7_carryOut 64 = .ok (.if_icmp .ge 20, 3) := by decide +kernel
theorem dX7_carryOut_67 : decode cX7_carryOut 67 = .ok (.aload_n 0, 1) := by decide +kernel
theorem dX7_carryOut_68 : decode cX7_carryOut 68 = .ok (.getfield 38, 3) := by decide +kernel
theorem dX7_carryOut_71 : decode cX7_carryOut 71 = .ok (.iload_n 3, 1) := by decide +kernel
theorem dX7_carryOut_72 : decode cX7_carryOut 72 = .ok (.aload_n 0, 1) := by decide +kernel
theorem dX7_carryOut_73 : decode cX7_carryOut 73 = .ok (.iload_n 3, 1) := by decide +kernel
theorem dX7_carryOut_74 : decode cX7_carryOut 74 = .ok (.invokevirtual 182, 3) := by decide +kernel
theorem dX7_carryOut_77 : decode cX7_carryOut 77 = .ok (.iastore, 1) := by decide +kernel
theorem dX7_carryOut_78 : decode cX7_carryOut 78 = .ok (.iinc 3 1, 3) := by decide +kernel
theorem dX7_carryOut_81 : decode cX7_carryOut 81 = .ok (.goto (-19), 3) := by decide +kernel
theorem dX7_carryOut_84 : decode cX7_carryOut 84 = .ok (.iconst 0, 1) := by decide +kernel
theorem dX7_carryOut_85 : decode cX7_carryOut 85 = .ok (.istore_n 3, 1) := by decide +kernel
theorem dX7_carryOut_86 : decode cX7_carryOut 86 = .ok (.iload_n 3, 1) := by decide +kernel
theorem dX7_carryOut_87 : decode cX7_carryOut 87 = .ok (.iload_n 1, 1) := by decide +kernel
theorem dX7_carryOut_88 : decode cX7_carryOut 88 = .ok (.if_icmp .ge 40, 3) := by decide +kernel
theorem dX7_carryOut_91 : decode cX7_carryOut 91 = .ok (.aload_n 0, 1) := by decide +kernel
theorem dX7_carryOut_92 : decode cX7_carryOut 92 = .ok (.aload_n 0, 1) := by decide +kernel
theorem dX7_carryOut_93 : decode cX7_carryOut 93 = .ok (.getfield 38, 3) := by decide +kernel
theorem dX7_carryOut_96 : decode cX7_carryOut 96 = .ok (.iload_n 3, 1) := by decide +kernel
theorem dX7_carryOut_97 : decode cX7_carryOut 97 = .ok (.iaload, 1) := by decide +kernel
theorem dX7_carryOut_98 : decode cX7_carryOut 98 = .ok (.invokevirtual 170, 3) := by decide +kernel
theorem dX7_carryOut_101 : decode cX7_carryOut 101 = .ok (.pop, 1) := by decide +kernel
theorem dX7_carryOut_102 : decode cX7_carryOut 102 = .ok (.iconst 0, 1) := by decide +kernel
theorem dX7_carryOut_103 : decode cX7_carryOut 103 = .ok (.istore 4, 2) := by decide +kernel
theorem dX7_carryOut_105 : decode cX7_carryOut 105 = .ok (.iload 4, 2) := by decide +kernel
theorem dX7_carryOut_107 : decode cX7_carryOut 107 = .ok (.bipush 24, 2) := by decide +kernel
theorem dX7_carryOut_109 : decode cX7_carryOut 109 = .ok (.if_icmp .ge 13, 3) := by decide +kernel
theorem dX7_carryOut_112 : decode cX7_carryOut 112 = .ok (.aload_n 0, 1) := by decide +kernel
theorem dX7_carryOut_113 : decode cX7_carryOut 113 = .ok (.invokevirtual 148, 3) := by decide +kernel
theorem dX7_carryOut_116 : decode cX7_carryOut 116 = .ok (.iinc 4 1, 3) := by decide +kernel
theorem dX7_carryOut_119 : decode cX7_carryOut 119 = .ok (.goto (-14), 3) := by decide +kernel
theorem dX7_carryOut_122 : decode cX7_carryOut 122 = .ok (.iinc 3 1, 3) := by decide +kernel
theorem dX7_carryOut_125 : decode cX7_carryOut 125 = .ok (.goto (-39), 3) := by decide +kernel
theorem dX7_carryOut_128 : decode cX7_carryOut 128 = .ok (.aload_n 0, 1) := by decide +kernel
theorem dX7_carryOut_129 : decode cX7_carryOut 129 = .ok (.getfield 7, 3) := by decide +kernel
theorem dX7_carryOut_132 : decode cX7_carryOut 132 = .ok (.bipush 110, 2) := by decide +kernel
theorem dX7_carryOut_134 : decode cX7_carryOut 134 = .ok (.iaload, 1) := by decide +kernel
theorem dX7_carryOut_135 : decode cX7_carryOut 135 = .ok (.iload_n 2, 1) := by decide +kernel
theorem dX7_carryOut_136 : decode cX7_carryOut 136 = .ok (.isub, 1) := by decide +kernel
theorem dX7_carryOut_137 : decode cX7_carryOut 137 = .ok (.ireturn, 1) := by decide +kernel
theorem dX7_daysWith_0 : decode cX7_daysWith 0 = .ok (.aload_n 0, 1) := by decide +kernel
theorem dX7_daysWith_1 : decode cX7_daysWith 1 = .ok (.iload_n 1, 1) := by decide +kernel
theorem dX7_daysWith_2 : decode cX7_daysWith 2 = .ok (.iconst 3, 1) := by decide +kernel
theorem dX7_daysWith_3 : decode cX7_daysWith 3 = .ok (.invokevirtual 57, 3) := by decide +kernel
theorem dX7_daysWith_6 : decode cX7_daysWith 6 = .ok (.istore_n 3, 1) := by decide +kernel
theorem dX7_daysWith_7 : decode cX7_daysWith 7 = .ok (.aload_n 0, 1) := by decide +kernel
theorem dX7_daysWith_8 : decode cX7_daysWith 8 = .ok (.iload_n 1, 1) := by decide +kernel
theorem dX7_daysWith_9 : decode cX7_daysWith 9 = .ok (.bipush 7, 2) := by decide +kernel
theorem dX7_daysWith_11 : decode cX7_daysWith 11 = .ok (.invokevirtual 57, 3) := by decide +kernel
theorem dX7_daysWith_14 : decode cX7_daysWith 14 = .ok (.istore 4, 2) := by decide +kernel
theorem dX7_daysWith_16 : decode cX7_daysWith 16 = .ok (.aload_n 0, 1) := by decide +kernel
theorem dX7_daysWith_17 : decode cX7_daysWith 17 = .ok (.getfield 7, 3) := by decide +kernel
theorem dX7_daysWith_20 : decode cX7_daysWith 20 = .ok (.aload_n 0, 1) := by decide +kernel
theorem dX7_daysWith_21 : decode cX7_daysWith 21 = .ok (.iload_n 1, 1) := by decide +kernel
theorem dX7_daysWith_22 : decode cX7_daysWith 22 = .ok (.iconst 3, 1) := by decide +kernel
theorem dX7_daysWith_23 : decode cX7_daysWith 23 = .ok (.invokevirtual 45, 3) := by decide +kernel
theorem dX7_daysWith_26 : decode cX7_daysWith 26 = .ok (.iload_n 2, 1) := by decide +kernel
theorem dX7_daysWith_27 : decode cX7_daysWith 27 = .ok (.iastore, 1) := by decide +kernel
theorem dX7_daysWith_28 : decode cX7_daysWith 28 = .ok (.aload_n 0, 1) := by decide +kernel
theorem dX7_daysWith_29 : decode cX7_daysWith 29 = .ok (.getfield 7, 3) := by decide +kernel
theorem dX7_daysWith_32 : decode cX7_daysWith 32 = .ok (.aload_n 0, 1) := by decide +kernel
theorem dX7_daysWith_33 : decode cX7_daysWith 33 = .ok (.iload_n 1, 1) := by decide +kernel
theorem dX7_daysWith_34 : decode cX7_daysWith 34 = .ok (.bipush 7, 2) := by decide +kernel
theorem dX7_daysWith_36 : decode cX7_daysWith 36 = .ok (.invokevirtual 45, 3) := by decide +kernel
theorem dX7_daysWith_39 : decode cX7_daysWith 39 = .ok (.iconst 0, 1) := by decide +kernel
theorem dX7_daysWith_40 : decode cX7_daysWith 40 = .ok (.iastore, 1) := by decide +kernel
theorem dX7_daysWith_41 : decode cX7_daysWith 41 = .ok (.aload_n 0, 1) := by decide +kernel
theorem dX7_daysWith_42 : decode cX7_daysWith 42 = .ok (.invokevirtual 176, 3) := by decide +kernel
theorem dX7_daysWith_45 : decode cX7_daysWith 45 = .ok (.aload_n 0, 1) := by decide +kernel
theorem dX7_daysWith_46 : decode cX7_daysWith 46 = .ok (.getfield 7, 3) := by decide +kernel
theorem dX7_daysWith_49 : decode cX7_daysWith 49 = .ok (.aload_n 0, 1) := by decide +kernel
theorem dX7_daysWith_50 : decode cX7_daysWith 50 = .ok (.iload_n 1, 1) := by decide +kernel
theorem dX7_daysWith_51 : decode cX7_daysWith 51 = .ok (.iconst 3, 1) := by decide +kernel
theorem dX7_daysWith_52 : decode cX7_daysWith 52 = .ok (.invokevirtual 45, 3) := by decide +kernel
theorem dX7_daysWith_55 : decode cX7_daysWith 55 = .ok (.iload_n 3, 1) := by decide +kernel
theorem dX7_daysWith_56 : decode cX7_daysWith 56 = .ok (.iastore, 1) := by decide +kernel
theorem dX7_daysWith_57 : decode cX7_daysWith 57 = .ok (.aload_n 0, 1) := by decide +kernel
theorem dX7_daysWith_58 : decode cX7_daysWith 58 = .ok (.getfield 7, 3) := by decide +kernel
theorem dX7_daysWith_61 : decode cX7_daysWith 61 = .ok (.aload_n 0, 1) := by decide +kernel
theorem dX7_daysWith_62 : decode cX7_daysWith 62 = .ok (.iload_n 1, 1) := by decide +kernel
theorem dX7_daysWith_63 : decode cX7_daysWith 63 = .ok (.bipush 7, 2) := by decide +kernel
theorem dX7_daysWith_65 : decode cX7_daysWith 65 = .ok (.invokevirtual 45, 3) := by decide +kernel
theorem dX7_daysWith_68 : decode cX7_daysWith 68 = .ok (.iload 4, 2) := by decide +kernel
theorem dX7_daysWith_70 : decode cX7_daysWith 70 = .ok (.iastore, 1) := by decide +kernel
theorem dX7_daysWith_71 : decode cX7_daysWith 71 = .ok (.aload_n 0, 1) := by decide +kernel
theorem dX7_daysWith_72 : decode cX7_daysWith 72 = .ok (.getfield 29, 3) := by decide +kernel
theorem dX7_daysWith_75 : decode cX7_daysWith 75 = .ok (.iconst 1, 1) := by decide +kernel
theorem dX7_daysWith_76 : decode cX7_daysWith 76 = .ok (.aload_n 0, 1) := by decide +kernel
theorem dX7_daysWith_77 : decode cX7_daysWith 77 = .ok (.invokevirtual 49, 3) := by decide +kernel
theorem dX7_daysWith_80 : decode cX7_daysWith 80 = .ok (.ishl, 1) := by decide +kernel
theorem dX7_daysWith_81 : decode cX7_daysWith 81 = .ok (.iconst 1, 1) := by decide +kernel
theorem dX7_daysWith_82 : decode cX7_daysWith 82 = .ok (.isub, 1) := by decide +kernel
theorem dX7_daysWith_83 : decode cX7_daysWith 83 = .ok (.iaload, 1) := by decide +kernel
theorem dX7_daysWith_84 : decode cX7_daysWith 84 = .ok (.ireturn, 1) := by decide +kernel
theorem dX7_ifLamp_0 : decode cX7_ifLamp 0 = .ok (.aload_n 0, 1) := by decide +kernel
theorem dX7_ifLamp_1 : decode cX7_ifLamp 1 = .ok (.iload_n 1, 1) := by decide +kernel
theorem dX7_ifLamp_2 : decode cX7_ifLamp 2 = .ok (.invokevirtual 94, 3) := by decide +kernel
theorem dX7_ifLamp_5 : decode cX7_ifLamp 5 = .ok (.ifCond .eq 10, 3) := by decide +kernel
theorem dX7_ifLamp_8 : decode cX7_ifLamp 8 = .ok (.iload_n 2, 1) := by decide +kernel
theorem dX7_ifLamp_9 : decode cX7_ifLamp 9 = .ok (.invokestatic 84, 3) := by decide +kernel
theorem dX7_ifLamp_12 : decode cX7_ifLamp 12 = .ok (.ifCond .ne 5, 3) := by decide +kernel
theorem dX7_ifLamp_15 : decode cX7_ifLamp 15 = .ok (.iconst (-1), 1) := by decide +kernel
theorem dX7_ifLamp_16 : decode cX7_ifLamp 16 = .ok (.ireturn, 1) := by decide +kernel
theorem dX7_ifLamp_17 : decode cX7_ifLamp 17 = .ok (.aload_n 0, 1) := by decide +kernel
theorem dX7_ifLamp_18 : decode cX7_ifLamp 18 = .ok (.iload_n 1, 1) := by decide +kernel
theorem dX7_ifLamp_19 : decode cX7_ifLamp 19 = .ok (.iload_n 2, 1) := by decide +kernel
theorem dX7_ifLamp_20 : decode cX7_ifLamp 20 = .ok (.invokevirtual 185, 3) := by decide +kernel
theorem dX7_ifLamp_23 : decode cX7_ifLamp 23 = .ok (.istore_n 3, 1) := by decide +kernel
theorem dX7_ifLamp_24 : decode cX7_ifLamp 24 = .ok (.iload_n 3, 1) := by decide +kernel
theorem dX7_ifLamp_25 : decode cX7_ifLamp 25 = .ok (.bipush 99, 2) := by decide +kernel
theorem dX7_ifLamp_27 : decode cX7_ifLamp 27 = .ok (.if_icmp .ge 7, 3) := by decide +kernel
theorem dX7_ifLamp_30 : decode cX7_ifLamp 30 = .ok (.iload_n 3, 1) := by decide +kernel
theorem dX7_ifLamp_31 : decode cX7_ifLamp 31 = .ok (.goto 5, 3) := by decide +kernel
theorem dX7_ifLamp_34 : decode cX7_ifLamp 34 = .ok (.bipush (-9), 2) := by decide +kernel
theorem dX7_ifLamp_36 : decode cX7_ifLamp 36 = .ok (.ireturn, 1) := by decide +kernel
theorem dX7_bestSwap_0 : decode cX7_bestSwap 0 = .ok (.iload_n 1, 1) := by decide +kernel
theorem dX7_bestSwap_1 : decode cX7_bestSwap 1 = .ok (.invokestatic 84, 3) := by decide +kernel
theorem dX7_bestSwap_4 : decode cX7_bestSwap 4 = .ok (.ifCond .ne 5, 3) := by decide +kernel
theorem dX7_bestSwap_7 : decode cX7_bestSwap 7 = .ok (.iconst (-1), 1) := by decide +kernel
theorem dX7_bestSwap_8 : decode cX7_bestSwap 8 = .ok (.ireturn, 1) := by decide +kernel
theorem dX7_bestSwap_9 : decode cX7_bestSwap 9 = .ok (.bipush (-9), 2) := by decide +kernel
theorem dX7_bestSwap_11 : decode cX7_bestSwap 11 = .ok (.istore_n 2, 1) := by decide +kernel
theorem dX7_bestSwap_12 : decode cX7_bestSwap 12 = .ok (.iconst 0, 1) := by decide +kernel
theorem dX7_bestSwap_13 : decode cX7_bestSwap 13 = .ok (.istore_n 3, 1) := by decide +kernel
theorem dX7_bestSwap_14 : decode cX7_bestSwap 14 = .ok (.iconst 0, 1) := by decide +kernel
theorem dX7_bestSwap_15 : decode cX7_bestSwap 15 = .ok (.istore 4, 2) := by decide +kernel
theorem dX7_bestSwap_17 : decode cX7_bestSwap 17 = .ok (.iload 4, 2) := by decide +kernel
theorem dX7_bestSwap_19 : decode cX7_bestSwap 19 = .ok (.aload_n 0, 1) := by decide +kernel
theorem dX7_bestSwap_20 : decode cX7_bestSwap 20 = .ok (.invokevirtual 49, 3) := by decide +kernel
theorem dX7_bestSwap_23 : decode cX7_bestSwap 23 = .ok (.if_icmp .ge 66, 3) := by decide +kernel
theorem dX7_bestSwap_26 : decode cX7_bestSwap 26 = .ok (.aload_n 0, 1) := by decide +kernel
theorem dX7_bestSwap_27 : decode cX7_bestSwap 27 = .ok (.iload 4, 2) := by decide +kernel
theorem dX7_bestSwap_29 : decode cX7_bestSwap 29 = .ok (.iload_n 1, 1) := by decide +kernel
theorem dX7_bestSwap_30 : decode cX7_bestSwap 30 = .ok (.invokevirtual 185, 3) := by decide +kernel
theorem dX7_bestSwap_33 : decode cX7_bestSwap 33 = .ok (.istore 5, 2) := by decide +kernel
theorem dX7_bestSwap_35 : decode cX7_bestSwap 35 = .ok (.iload 5, 2) := by decide +kernel
theorem dX7_bestSwap_37 : decode cX7_bestSwap 37 = .ok (.bipush 99, 2) := by decide +kernel
theorem dX7_bestSwap_39 : decode cX7_bestSwap 39 = .ok (.if_icmp .ge 8, 3) := by decide +kernel
theorem dX7_bestSwap_42 : decode cX7_bestSwap 42 = .ok (.iload 5, 2) := by decide +kernel
theorem dX7_bestSwap_44 : decode cX7_bestSwap 44 = .ok (.goto 5, 3) := by decide +kernel
theorem dX7_bestSwap_47 : decode cX7_bestSwap 47 = .ok (.bipush 99, 2) := by decide +kernel
theorem dX7_bestSwap_49 : decode cX7_bestSwap 49 = .ok (.istore 5, 2) := by decide +kernel
theorem dX7_bestSwap_51 : decode cX7_bestSwap 51 = .ok (.iload_n 2, 1) := by decide +kernel
theorem dX7_bestSwap_52 : decode cX7_bestSwap 52 = .ok (.bipush (-9), 2) := by decide +kernel
theorem dX7_bestSwap_54 : decode cX7_bestSwap 54 = .ok (.if_icmp .eq 9, 3) := by decide +kernel
theorem dX7_bestSwap_57 : decode cX7_bestSwap 57 = .ok (.iload 5, 2) := by decide +kernel
theorem dX7_bestSwap_59 : decode cX7_bestSwap 59 = .ok (.iload_n 3, 1) := by decide +kernel
theorem dX7_bestSwap_60 : decode cX7_bestSwap 60 = .ok (.if_icmp .ge 8, 3) := by decide +kernel
theorem dX7_bestSwap_63 : decode cX7_bestSwap 63 = .ok (.iload 4, 2) := by decide +kernel
theorem dX7_bestSwap_65 : decode cX7_bestSwap 65 = .ok (.goto 4, 3) := by decide +kernel
theorem dX7_bestSwap_68 : decode cX7_bestSwap 68 = .ok (.iload_n 2, 1) := by decide +kernel
theorem dX7_bestSwap_69 : decode cX7_bestSwap 69 = .ok (.istore_n 2, 1) := by decide +kernel
theorem dX7_bestSwap_70 : decode cX7_bestSwap 70 = .ok (.iload_n 2, 1) := by decide +kernel
theorem dX7_bestSwap_71 : decode cX7_bestSwap 71 = .ok (.iload 4, 2) := by decide +kernel
theorem dX7_bestSwap_73 : decode cX7_bestSwap 73 = .ok (.if_icmp .ne 8, 3) := by decide +kernel
theorem dX7_bestSwap_76 : decode cX7_bestSwap 76 = .ok (.iload 5, 2) := by decide +kernel
theorem dX7_bestSwap_78 : decode cX7_bestSwap 78 = .ok (.goto 4, 3) := by decide +kernel
theorem dX7_bestSwap_81 : decode cX7_bestSwap 81 = .ok (.iload_n 3, 1) := by decide +kernel
theorem dX7_bestSwap_82 : decode cX7_bestSwap 82 = .ok (.istore_n 3, 1) := by decide +kernel
theorem dX7_bestSwap_83 : decode cX7_bestSwap 83 = .ok (.iinc 4 1, 3) := by decide +kernel
theorem dX7_bestSwap_86 : decode cX7_bestSwap 86 = .ok (.goto (-69), 3) := by decide +kernel
theorem dX7_bestSwap_89 : decode cX7_bestSwap 89 = .ok (.iload_n 2, 1) := by decide +kernel
theorem dX7_bestSwap_90 : decode cX7_bestSwap 90 = .ok (.ireturn, 1) := by decide +kernel
theorem dX7_lastsNow_0 : decode cX7_lastsNow 0 = .ok (.bipush (-9), 2) := by decide +kernel
theorem dX7_lastsNow_2 : decode cX7_lastsNow 2 = .ok (.istore_n 3, 1) := by decide +kernel
theorem dX7_lastsNow_3 : decode cX7_lastsNow 3 = .ok (.aload_n 0, 1) := by decide +kernel
theorem dX7_lastsNow_4 : decode cX7_lastsNow 4 = .ok (.getfield 7, 3) := by decide +kernel
theorem dX7_lastsNow_7 : decode cX7_lastsNow 7 = .ok (.bipush 92, 2) := by decide +kernel
theorem dX7_lastsNow_9 : decode cX7_lastsNow 9 = .ok (.iconst 2, 1) := by decide +kernel
theorem dX7_lastsNow_10 : decode cX7_lastsNow 10 = .ok (.iload_n 1, 1) := by decide +kernel
theorem dX7_lastsNow_11 : decode cX7_lastsNow 11 = .ok (.imul, 1) := by decide +kernel
theorem dX7_lastsNow_12 : decode cX7_lastsNow 12 = .ok (.iadd, 1) := by decide +kernel
theorem dX7_lastsNow_13 : decode cX7_lastsNow 13 = .ok (.iaload, 1) := by decide +kernel
theorem dX7_lastsNow_14 : decode cX7_lastsNow 14 = .ok (.istore 4, 2) := by decide +kernel
theorem dX7_lastsNow_16 : decode cX7_lastsNow 16 = .ok (.iload 4, 2) := by decide +kernel
theorem dX7_lastsNow_18 : decode cX7_lastsNow 18 = .ok (.aload_n 0, 1) := by decide +kernel
theorem dX7_lastsNow_19 : decode cX7_lastsNow 19 = .ok (.getfield 7, 3) := by decide +kernel
theorem dX7_lastsNow_22 : decode cX7_lastsNow 22 = .ok (.bipush 92, 2) := by decide +kernel
theorem dX7_lastsNow_24 : decode cX7_lastsNow 24 = .ok (.iconst 2, 1) := by decide +kernel
theorem dX7_lastsNow_25 : decode cX7_lastsNow 25 = .ok (.iload_n 1, 1) := by decide +kernel
theorem dX7_lastsNow_26 : decode cX7_lastsNow 26 = .ok (.imul, 1) := by decide +kernel
theorem dX7_lastsNow_27 : decode cX7_lastsNow 27 = .ok (.iadd, 1) := by decide +kernel
theorem dX7_lastsNow_28 : decode cX7_lastsNow 28 = .ok (.iconst 1, 1) := by decide +kernel
theorem dX7_lastsNow_29 : decode cX7_lastsNow 29 = .ok (.iadd, 1) := by decide +kernel
theorem dX7_lastsNow_30 : decode cX7_lastsNow 30 = .ok (.iaload, 1) := by decide +kernel
theorem dX7_lastsNow_31 : decode cX7_lastsNow 31 = .ok (.if_icmp .gt 106, 3) := by decide +kernel
theorem dX7_lastsNow_34 : decode cX7_lastsNow 34 = .ok (.iconst 0, 1) := by decide +kernel
theorem dX7_lastsNow_35 : decode cX7_lastsNow 35 = .ok (.istore 5, 2) := by decide +kernel
theorem dX7_lastsNow_37 : decode cX7_lastsNow 37 = .ok (.iconst 0, 1) := by decide +kernel
theorem dX7_lastsNow_38 : decode cX7_lastsNow 38 = .ok (.istore 6, 2) := by decide +kernel
theorem dX7_lastsNow_40 : decode cX7_lastsNow 40 = .ok (.iload 6, 2) := by decide +kernel
theorem dX7_lastsNow_42 : decode cX7_lastsNow 42 = .ok (.aload_n 0, 1) := by decide +kernel
theorem dX7_lastsNow_43 : decode cX7_lastsNow 43 = .ok (.invokevirtual 49, 3) := by decide +kernel
theorem dX7_lastsNow_46 : decode cX7_lastsNow 46 = .ok (.if_icmp .ge 66, 3) := by decide +kernel
theorem dX7_lastsNow_49 : decode cX7_lastsNow 49 = .ok (.iload_n 2, 1) := by decide +kernel
theorem dX7_lastsNow_50 : decode cX7_lastsNow 50 = .ok (.iload 6, 2) := by decide +kernel
theorem dX7_lastsNow_52 : decode cX7_lastsNow 52 = .ok (.ishr, 1) := by decide +kernel
theorem dX7_lastsNow_53 : decode cX7_lastsNow 53 = .ok (.iconst 1, 1) := by decide +kernel
theorem dX7_lastsNow_54 : decode cX7_lastsNow 54 = .ok (.iand, 1) := by decide +kernel
theorem dX7_lastsNow_55 : decode cX7_lastsNow 55 = .ok (.iconst 1, 1) := by decide +kernel
theorem dX7_lastsNow_56 : decode cX7_lastsNow 56 = .ok (.if_icmp .ne 18, 3) := by decide +kernel
theorem dX7_lastsNow_59 : decode cX7_lastsNow 59 = .ok (.aload_n 0, 1) := by decide +kernel
theorem dX7_lastsNow_60 : decode cX7_lastsNow 60 = .ok (.iload 6, 2) := by decide +kernel
theorem dX7_lastsNow_62 : decode cX7_lastsNow 62 = .ok (.iload 4, 2) := by decide +kernel
theorem dX7_lastsNow_64 : decode cX7_lastsNow 64 = .ok (.invokevirtual 154, 3) := by decide +kernel
theorem dX7_lastsNow_67 : decode cX7_lastsNow 67 = .ok (.ifCond .eq 7, 3) := by decide +kernel
theorem dX7_lastsNow_70 : decode cX7_lastsNow 70 = .ok (.iconst 1, 1) := by decide +kernel
theorem dX7_lastsNow_71 : decode cX7_lastsNow 71 = .ok (.goto 4, 3) := by decide +kernel
theorem dX7_lastsNow_74 : decode cX7_lastsNow 74 = .ok (.iconst 0, 1) := by decide +kernel
theorem dX7_lastsNow_75 : decode cX7_lastsNow 75 = .ok (.istore 7, 2) := by decide +kernel
theorem dX7_lastsNow_77 : decode cX7_lastsNow 77 = .ok (.iload 7, 2) := by decide +kernel
theorem dX7_lastsNow_79 : decode cX7_lastsNow 79 = .ok (.ifCond .eq 23, 3) := by decide +kernel
theorem dX7_lastsNow_82 : decode cX7_lastsNow 82 = .ok (.aload_n 0, 1) := by decide +kernel
theorem dX7_lastsNow_83 : decode cX7_lastsNow 83 = .ok (.iload 6, 2) := by decide +kernel
theorem dX7_lastsNow_85 : decode cX7_lastsNow 85 = .ok (.invokevirtual 67, 3) := by decide +kernel
theorem dX7_lastsNow_88 : decode cX7_lastsNow 88 = .ok (.iload 5, 2) := by decide +kernel
theorem dX7_lastsNow_90 : decode cX7_lastsNow 90 = .ok (.if_icmp .le 12, 3) := by decide +kernel
theorem dX7_lastsNow_93 : decode cX7_lastsNow 93 = .ok (.aload_n 0, 1) := by decide +kernel
theorem dX7_lastsNow_94 : decode cX7_lastsNow 94 = .ok (.iload 6, 2) := by decide +kernel
theorem dX7_lastsNow_96 : decode cX7_lastsNow 96 = .ok (.invokevirtual 67, 3) := by decide +kernel
theorem dX7_lastsNow_99 : decode cX7_lastsNow 99 = .ok (.goto 5, 3) := by decide +kernel
theorem dX7_lastsNow_102 : decode cX7_lastsNow 102 = .ok (.iload 5, 2) := by decide +kernel
theorem dX7_lastsNow_104 : decode cX7_lastsNow 104 = .ok (.istore 5, 2) := by decide +kernel
theorem dX7_lastsNow_106 : decode cX7_lastsNow 106 = .ok (.iinc 6 1, 3) := by decide +kernel
theorem dX7_lastsNow_109 : decode cX7_lastsNow 109 = .ok (.goto (-69), 3) := by decide +kernel
theorem dX7_lastsNow_112 : decode cX7_lastsNow 112 = .ok (.iload_n 3, 1) := by decide +kernel
theorem dX7_lastsNow_113 : decode cX7_lastsNow 113 = .ok (.bipush (-9), 2) := by decide +kernel
theorem dX7_lastsNow_115 : decode cX7_lastsNow 115 = .ok (.if_icmp .eq 9, 3) := by decide +kernel
theorem dX7_lastsNow_118 : decode cX7_lastsNow 118 = .ok (.iload 5, 2) := by decide +kernel
theorem dX7_lastsNow_120 : decode cX7_lastsNow 120 = .ok (.iload_n 3, 1) := by decide +kernel
theorem dX7_lastsNow_121 : decode cX7_lastsNow 121 = .ok (.if_icmp .ge 8, 3) := by decide +kernel
theorem dX7_lastsNow_124 : decode cX7_lastsNow 124 = .ok (.iload 5, 2) := by decide +kernel
theorem dX7_lastsNow_126 : decode cX7_lastsNow 126 = .ok (.goto 4, 3) := by decide +kernel
theorem dX7_lastsNow_129 : decode cX7_lastsNow 129 = .ok (.iload_n 3, 1) := by decide +kernel
theorem dX7_lastsNow_130 : decode cX7_lastsNow 130 = .ok (.istore_n 3, 1) := by decide +kernel
theorem dX7_lastsNow_131 : decode cX7_lastsNow 131 = .ok (.iinc 4 1, 3) := by decide +kernel
theorem dX7_lastsNow_134 : decode cX7_lastsNow 134 = .ok (.goto (-118), 3) := by decide +kernel
theorem dX7_lastsNow_137 : decode cX7_lastsNow 137 = .ok (.iload_n 3, 1) := by decide +kernel
theorem dX7_lastsNow_138 : decode cX7_lastsNow 138 = .ok (.ireturn, 1) := by decide +kernel
theorem dX7_lasts_0 : decode cX7_lasts 0 = .ok (.aload_n 0, 1) := by decide +kernel
theorem dX7_lasts_1 : decode cX7_lasts 1 = .ok (.iload_n 1, 1) := by decide +kernel
theorem dX7_lasts_2 : decode cX7_lasts 2 = .ok (.invokevirtual 97, 3) := by decide +kernel
theorem dX7_lasts_5 : decode cX7_lasts 5 = .ok (.ifCond .eq 20, 3) := by decide +kernel
theorem dX7_lasts_8 : decode cX7_lasts 8 = .ok (.aload_n 0, 1) := by decide +kernel
theorem dX7_lasts_9 : decode cX7_lasts 9 = .ok (.iload_n 2, 1) := by decide +kernel
theorem dX7_lasts_10 : decode cX7_lasts 10 = .ok (.invokevirtual 161, 3) := by decide +kernel
theorem dX7_lasts_13 : decode cX7_lasts 13 = .ok (.ifCond .eq 12, 3) := by decide +kernel
theorem dX7_lasts_16 : decode cX7_lasts 16 = .ok (.aload_n 0, 1) := by decide +kernel
theorem dX7_lasts_17 : decode cX7_lasts 17 = .ok (.iload_n 1, 1) := by decide +kernel
theorem dX7_lasts_18 : decode cX7_lasts 18 = .ok (.iload_n 2, 1) := by decide +kernel
theorem dX7_lasts_19 : decode cX7_lasts 19 = .ok (.invokevirtual 188, 3) := by decide +kernel
theorem dX7_lasts_22 : decode cX7_lasts 22 = .ok (.goto 4, 3) := by decide +kernel
theorem dX7_lasts_25 : decode cX7_lasts 25 = .ok (.iconst (-1), 1) := by decide +kernel
theorem dX7_lasts_26 : decode cX7_lasts 26 = .ok (.ireturn, 1) := by decide +kernel
theorem dX7_without_0 : decode cX7_without 0 = .ok (.iconst 0, 1) := by decide +kernel
theorem dX7_without_1 : decode cX7_without 1 = .ok (.istore_n 2, 1) := by decide +kernel
theorem dX7_without_2 : decode cX7_without 2 = .ok (.iconst 0, 1) := by decide +kernel
theorem dX7_without_3 : decode cX7_without 3 = .ok (.istore_n 3, 1) := by decide +kernel
theorem dX7_without_4 : decode cX7_without 4 = .ok (.iload_n 3, 1) := by decide +kernel
theorem dX7_without_5 : decode cX7_without 5 = .ok (.aload_n 0, 1) := by decide +kernel
theorem dX7_without_6 : decode cX7_without 6 = .ok (.invokevirtual 49, 3) := by decide +kernel
theorem dX7_without_9 : decode cX7_without 9 = .ok (.if_icmp .ge 29, 3) := by decide +kernel
theorem dX7_without_12 : decode cX7_without 12 = .ok (.iload_n 2, 1) := by decide +kernel
theorem dX7_without_13 : decode cX7_without 13 = .ok (.aload_n 0, 1) := by decide +kernel
theorem dX7_without_14 : decode cX7_without 14 = .ok (.iload_n 3, 1) := by decide +kernel
theorem dX7_without_15 : decode cX7_without 15 = .ok (.iconst 1, 1) := by decide +kernel
theorem dX7_without_16 : decode cX7_without 16 = .ok (.invokevirtual 57, 3) := by decide +kernel
theorem dX7_without_19 : decode cX7_without 19 = .ok (.iload_n 1, 1) := by decide +kernel
theorem dX7_without_20 : decode cX7_without 20 = .ok (.if_icmp .ne 7, 3) := by decide +kernel
theorem dX7_without_23 : decode cX7_without 23 = .ok (.iconst 0, 1) := by decide +kernel
theorem dX7_without_24 : decode cX7_without 24 = .ok (.goto 6, 3) := by decide +kernel
theorem dX7_without_27 : decode cX7_without 27 = .ok (.iconst 1, 1) := by decide +kernel
theorem dX7_without_28 : decode cX7_without 28 = .ok (.iload_n 3, 1) := by decide +kernel
theorem dX7_without_29 : decode cX7_without 29 = .ok (.ishl, 1) := by decide +kernel
theorem dX7_without_30 : decode cX7_without 30 = .ok (.ior, 1) := by decide +kernel
theorem dX7_without_31 : decode cX7_without 31 = .ok (.istore_n 2, 1) := by decide +kernel
theorem dX7_without_32 : decode cX7_without 32 = .ok (.iinc 3 1, 3) := by decide +kernel
theorem dX7_without_35 : decode cX7_without 35 = .ok (.goto (-31), 3) := by decide +kernel
theorem dX7_without_38 : decode cX7_without 38 = .ok (.iload_n 2, 1) := by decide +kernel
theorem dX7_without_39 : decode cX7_without 39 = .ok (.ireturn, 1) := by decide +kernel
theorem dX7_weakest_0 : decode cX7_weakest 0 = .ok (.iconst 0, 1) := by decide +kernel
theorem dX7_weakest_1 : decode cX7_weakest 1 = .ok (.istore_n 3, 1) := by decide +kernel
theorem dX7_weakest_2 : decode cX7_weakest 2 = .ok (.aload_n 0, 1) := by decide +kernel
theorem dX7_weakest_3 : decode cX7_weakest 3 = .ok (.iload_n 1, 1) := by decide +kernel
theorem dX7_weakest_4 : decode cX7_weakest 4 = .ok (.aload_n 0, 1) := by decide +kernel
theorem dX7_weakest_5 : decode cX7_weakest 5 = .ok (.iconst 0, 1) := by decide +kernel
theorem dX7_weakest_6 : decode cX7_weakest 6 = .ok (.invokevirtual 191, 3) := by decide +kernel
theorem dX7_weakest_9 : decode cX7_weakest 9 = .ok (.invokevirtual 188, 3) := by decide +kernel
theorem dX7_weakest_12 : decode cX7_weakest 12 = .ok (.istore 4, 2) := by decide +kernel
theorem dX7_weakest_14 : decode cX7_weakest 14 = .ok (.iconst 1, 1) := by decide +kernel
theorem dX7_weakest_15 : decode cX7_weakest 15 = .ok (.istore 5, 2) := by decide +kernel
theorem dX7_weakest_17 : decode cX7_weakest 17 = .ok (.iload 5, 2) := by decide +kernel
theorem dX7_weakest_19 : decode cX7_weakest 19 = .ok (.iconst 4, 1) := by decide +kernel
theorem dX7_weakest_20 : decode cX7_weakest 20 = .ok (.if_icmp .ge 52, 3) := by decide +kernel
theorem dX7_weakest_23 : decode cX7_weakest 23 = .ok (.aload_n 0, 1) := by decide +kernel
theorem dX7_weakest_24 : decode cX7_weakest 24 = .ok (.iload_n 1, 1) := by decide +kernel
theorem dX7_weakest_25 : decode cX7_weakest 25 = .ok (.aload_n 0, 1) := by decide +kernel
theorem dX7_weakest_26 : decode cX7_weakest 26 = .ok (.iload 5, 2) := by decide +kernel
theorem dX7_weakest_28 : decode cX7_weakest 28 = .ok (.invokevirtual 191, 3) := by decide +kernel
theorem dX7_weakest_31 : decode cX7_weakest 31 = .ok (.invokevirtual 188, 3) := by decide +kernel
theorem dX7_weakest_34 : decode cX7_weakest 34 = .ok (.istore 6, 2) := by decide +kernel
theorem dX7_weakest_36 : decode cX7_weakest 36 = .ok (.iload 6, 2) := by decide +kernel
theorem dX7_weakest_38 : decode cX7_weakest 38 = .ok (.iload 4, 2) := by decide +kernel
theorem dX7_weakest_40 : decode cX7_weakest 40 = .ok (.if_icmp .ge 8, 3) := by decide +kernel
theorem dX7_weakest_43 : decode cX7_weakest 43 = .ok (.iload 5, 2) := by decide +kernel
theorem dX7_weakest_45 : decode cX7_weakest 45 = .ok (.goto 4, 3) := by decide +kernel
theorem dX7_weakest_48 : decode cX7_weakest 48 = .ok (.iload_n 3, 1) := by decide +kernel
theorem dX7_weakest_49 : decode cX7_weakest 49 = .ok (.istore_n 3, 1) := by decide +kernel
theorem dX7_weakest_50 : decode cX7_weakest 50 = .ok (.iload 6, 2) := by decide +kernel
theorem dX7_weakest_52 : decode cX7_weakest 52 = .ok (.iload 4, 2) := by decide +kernel
theorem dX7_weakest_54 : decode cX7_weakest 54 = .ok (.if_icmp .ge 8, 3) := by decide +kernel
theorem dX7_weakest_57 : decode cX7_weakest 57 = .ok (.iload 6, 2) := by decide +kernel
theorem dX7_weakest_59 : decode cX7_weakest 59 = .ok (.goto 5, 3) := by decide +kernel
theorem dX7_weakest_62 : decode cX7_weakest 62 = .ok (.iload 4, 2) := by decide +kernel
theorem dX7_weakest_64 : decode cX7_weakest 64 = .ok (.istore 4, 2) := by decide +kernel
theorem dX7_weakest_66 : decode cX7_weakest 66 = .ok (.iinc 5 1, 3) := by decide +kernel
theorem dX7_weakest_69 : decode cX7_weakest 69 = .ok (.goto (-52), 3) := by decide +kernel
theorem dX7_weakest_72 : decode cX7_weakest 72 = .ok (.iload_n 2, 1) := by decide +kernel
theorem dX7_weakest_73 : decode cX7_weakest 73 = .ok (.ifCond .eq 7, 3) := by decide +kernel
theorem dX7_weakest_76 : decode cX7_weakest 76 = .ok (.iload_n 3, 1) := by decide +kernel
theorem dX7_weakest_77 : decode cX7_weakest 77 = .ok (.goto 5, 3) := by decide +kernel
theorem dX7_weakest_80 : decode cX7_weakest 80 = .ok (.iload 4, 2) := by decide +kernel
theorem dX7_weakest_82 : decode cX7_weakest 82 = .ok (.ireturn, 1) := by decide +kernel
theorem dX7_routeAt_0 : decode cX7_routeAt 0 = .ok (.aload_n 0, 1) := by decide +kernel
theorem dX7_routeAt_1 : decode cX7_routeAt 1 = .ok (.iload_n 1, 1) := by decide +kernel
theorem dX7_routeAt_2 : decode cX7_routeAt 2 = .ok (.invokevirtual 97, 3) := by decide +kernel
theorem dX7_routeAt_5 : decode cX7_routeAt 5 = .ok (.ifCond .eq 13, 3) := by decide +kernel
theorem dX7_routeAt_8 : decode cX7_routeAt 8 = .ok (.iload_n 2, 1) := by decide +kernel
theorem dX7_routeAt_9 : decode cX7_routeAt 9 = .ok (.iconst 0, 1) := by decide +kernel
theorem dX7_routeAt_10 : decode cX7_routeAt 10 = .ok (.bipush 6, 2) := by decide +kernel
theorem dX7_routeAt_12 : decode cX7_routeAt 12 = .ok (.invokestatic 53, 3) := by decide +kernel
theorem dX7_routeAt_15 : decode cX7_routeAt 15 = .ok (.ifCond .ne 5, 3) := by decide +kernel
theorem dX7_routeAt_18 : decode cX7_routeAt 18 = .ok (.iconst (-1), 1) := by decide +kernel
theorem dX7_routeAt_19 : decode cX7_routeAt 19 = .ok (.ireturn, 1) := by decide +kernel
theorem dX7_routeAt_20 : decode cX7_routeAt 20 = .ok (.aload_n 0, 1) := by decide +kernel
theorem dX7_routeAt_21 : decode cX7_routeAt 21 = .ok (.invokevirtual 164, 3) := by decide +kernel
theorem dX7_routeAt_24 : decode cX7_routeAt 24 = .ok (.iload_n 2, 1) := by decide +kernel
theorem dX7_routeAt_25 : decode cX7_routeAt 25 = .ok (.tableswitch 83 0 4 #[35, 35, 49, 55, 69], 35) := by decide +kernel
theorem dX7_routeAt_60 : decode cX7_routeAt 60 = .ok (.aload_n 0, 1) := by decide +kernel
theorem dX7_routeAt_61 : decode cX7_routeAt 61 = .ok (.getfield 7, 3) := by decide +kernel
theorem dX7_routeAt_64 : decode cX7_routeAt 64 = .ok (.bipush 92, 2) := by decide +kernel
theorem dX7_routeAt_66 : decode cX7_routeAt 66 = .ok (.iconst 2, 1) := by decide +kernel
theorem dX7_routeAt_67 : decode cX7_routeAt 67 = .ok (.iload_n 1, 1) := by decide +kernel
theorem dX7_routeAt_68 : decode cX7_routeAt 68 = .ok (.imul, 1) := by decide +kernel
theorem dX7_routeAt_69 : decode cX7_routeAt 69 = .ok (.iadd, 1) := by decide +kernel
theorem dX7_routeAt_70 : decode cX7_routeAt 70 = .ok (.iload_n 2, 1) := by decide +kernel
theorem dX7_routeAt_71 : decode cX7_routeAt 71 = .ok (.iadd, 1) := by decide +kernel
theorem dX7_routeAt_72 : decode cX7_routeAt 72 = .ok (.iaload, 1) := by decide +kernel
theorem dX7_routeAt_73 : decode cX7_routeAt 73 = .ok (.ireturn, 1) := by decide +kernel
theorem dX7_routeAt_74 : decode cX7_routeAt 74 = .ok (.aload_n 0, 1) := by decide +kernel
theorem dX7_routeAt_75 : decode cX7_routeAt 75 = .ok (.iload_n 1, 1) := by decide +kernel
theorem dX7_routeAt_76 : decode cX7_routeAt 76 = .ok (.invokevirtual 158, 3) := by decide +kernel
theorem dX7_routeAt_79 : decode cX7_routeAt 79 = .ok (.ireturn, 1) := by decide +kernel
theorem dX7_routeAt_80 : decode cX7_routeAt 80 = .ok (.aload_n 0, 1) := by decide +kernel
theorem dX7_routeAt_81 : decode cX7_routeAt 81 = .ok (.iload_n 1, 1) := by decide +kernel
theorem dX7_routeAt_82 : decode cX7_routeAt 82 = .ok (.invokevirtual 158, 3) := by decide +kernel
theorem dX7_routeAt_85 : decode cX7_routeAt 85 = .ok (.ifCond .ne 7, 3) := by decide +kernel
theorem dX7_routeAt_88 : decode cX7_routeAt 88 = .ok (.iconst 1, 1) := by decide +kernel
theorem dX7_routeAt_89 : decode cX7_routeAt 89 = .ok (.goto 4, 3) := by decide +kernel
theorem dX7_routeAt_92 : decode cX7_routeAt 92 = .ok (.iconst 0, 1) := by decide +kernel
theorem dX7_routeAt_93 : decode cX7_routeAt 93 = .ok (.ireturn, 1) := by decide +kernel
theorem dX7_routeAt_94 : decode cX7_routeAt 94 = .ok (.aload_n 0, 1) := by decide +kernel
theorem dX7_routeAt_95 : decode cX7_routeAt 95 = .ok (.iload_n 1, 1) := by decide +kernel
theorem dX7_routeAt_96 : decode cX7_routeAt 96 = .ok (.iconst 1, 1) := by decide +kernel
theorem dX7_routeAt_97 : decode cX7_routeAt 97 = .ok (.aload_n 0, 1) := by decide +kernel
theorem dX7_routeAt_98 : decode cX7_routeAt 98 = .ok (.invokevirtual 49, 3) := by decide +kernel
theorem dX7_routeAt_101 : decode cX7_routeAt 101 = .ok (.ishl, 1) := by decide +kernel
theorem dX7_routeAt_102 : decode cX7_routeAt 102 = .ok (.iconst 1, 1) := by decide +kernel
theorem dX7_routeAt_103 : decode cX7_routeAt 103 = .ok (.isub, 1) := by decide +kernel
theorem dX7_routeAt_104 : decode cX7_routeAt 104 = .ok (.invokevirtual 188, 3) := by decide +kernel
theorem dX7_routeAt_107 : decode cX7_routeAt 107 = .ok (.ireturn, 1) := by decide +kernel
theorem dX7_routeAt_108 : decode cX7_routeAt 108 = .ok (.aload_n 0, 1) := by decide +kernel
theorem dX7_routeAt_109 : decode cX7_routeAt 109 = .ok (.iload_n 1, 1) := by decide +kernel
theorem dX7_routeAt_110 : decode cX7_routeAt 110 = .ok (.iload_n 2, 1) := by decide +kernel
theorem dX7_routeAt_111 : decode cX7_routeAt 111 = .ok (.bipush 6, 2) := by decide +kernel
theorem dX7_routeAt_113 : decode cX7_routeAt 113 = .ok (.if_icmp .ne 7, 3) := by decide +kernel
theorem dX7_routeAt_116 : decode cX7_routeAt 116 = .ok (.iconst 1, 1) := by decide +kernel
theorem dX7_routeAt_117 : decode cX7_routeAt 117 = .ok (.goto 4, 3) := by decide +kernel
theorem dX7_routeAt_120 : decode cX7_routeAt 120 = .ok (.iconst 0, 1) := by decide +kernel
theorem dX7_routeAt_121 : decode cX7_routeAt 121 = .ok (.invokevirtual 194, 3) := by decide +kernel
theorem dX7_routeAt_124 : decode cX7_routeAt 124 = .ok (.ireturn, 1) := by decide +kernel
theorem dX7_reaching_0 : decode cX7_reaching 0 = .ok (.iload_n 1, 1) := by decide +kernel
theorem dX7_reaching_1 : decode cX7_reaching 1 = .ok (.invokestatic 80, 3) := by decide +kernel
theorem dX7_reaching_4 : decode cX7_reaching 4 = .ok (.ifCond .ne 5, 3) := by decide +kernel
theorem dX7_reaching_7 : decode cX7_reaching 7 = .ok (.iconst (-1), 1) := by decide +kernel
theorem dX7_reaching_8 : decode cX7_reaching 8 = .ok (.ireturn, 1) := by decide +kernel
theorem dX7_reaching_9 : decode cX7_reaching 9 = .ok (.iconst 0, 1) := by decide +kernel
theorem dX7_reaching_10 : decode cX7_reaching 10 = .ok (.istore_n 3, 1) := by decide +kernel
theorem dX7_reaching_11 : decode cX7_reaching 11 = .ok (.iconst 0, 1) := by decide +kernel
theorem dX7_reaching_12 : decode cX7_reaching 12 = .ok (.istore 4, 2) := by decide +kernel
theorem dX7_reaching_14 : decode cX7_reaching 14 = .ok (.iload 4, 2) := by decide +kernel
theorem dX7_reaching_16 : decode cX7_reaching 16 = .ok (.aload_n 0, 1) := by decide +kernel
theorem dX7_reaching_17 : decode cX7_reaching 17 = .ok (.invokevirtual 49, 3) := by decide +kernel
theorem dX7_reaching_20 : decode cX7_reaching 20 = .ok (.if_icmp .ge 40, 3) := by decide +kernel
theorem dX7_reaching_23 : decode cX7_reaching 23 = .ok (.iload_n 3, 1) := by decide +kernel
theorem dX7_reaching_24 : decode cX7_reaching 24 = .ok (.aload_n 0, 1) := by decide +kernel
theorem dX7_reaching_25 : decode cX7_reaching 25 = .ok (.iload 4, 2) := by decide +kernel
theorem dX7_reaching_27 : decode cX7_reaching 27 = .ok (.iload_n 1, 1) := by decide +kernel
theorem dX7_reaching_28 : decode cX7_reaching 28 = .ok (.invokevirtual 154, 3) := by decide +kernel
theorem dX7_reaching_31 : decode cX7_reaching 31 = .ok (.ifCond .eq 20, 3) := by decide +kernel
theorem dX7_reaching_34 : decode cX7_reaching 34 = .ok (.iload_n 2, 1) := by decide +kernel
theorem dX7_reaching_35 : decode cX7_reaching 35 = .ok (.ifCond .eq 12, 3) := by decide +kernel
theorem dX7_reaching_38 : decode cX7_reaching 38 = .ok (.aload_n 0, 1) := by decide +kernel
theorem dX7_reaching_39 : decode cX7_reaching 39 = .ok (.iload 4, 2) := by decide +kernel
theorem dX7_reaching_41 : decode cX7_reaching 41 = .ok (.invokevirtual 144, 3) := by decide +kernel
theorem dX7_reaching_44 : decode cX7_reaching 44 = .ok (.ifCond .eq 7, 3) := by decide +kernel
theorem dX7_reaching_47 : decode cX7_reaching 47 = .ok (.iconst 1, 1) := by decide +kernel
theorem dX7_reaching_48 : decode cX7_reaching 48 = .ok (.goto 4, 3) := by decide +kernel
theorem dX7_reaching_51 : decode cX7_reaching 51 = .ok (.iconst 0, 1) := by decide +kernel
theorem dX7_reaching_52 : decode cX7_reaching 52 = .ok (.iadd, 1) := by decide +kernel
theorem dX7_reaching_53 : decode cX7_reaching 53 = .ok (.istore_n 3, 1) := by decide +kernel
theorem dX7_reaching_54 : decode cX7_reaching 54 = .ok (.iinc 4 1, 3) := by decide +kernel
theorem dX7_reaching_57 : decode cX7_reaching 57 = .ok (.goto (-43), 3) := by decide +kernel
theorem dX7_reaching_60 : decode cX7_reaching 60 = .ok (.iload_n 3, 1) := by decide +kernel
theorem dX7_reaching_61 : decode cX7_reaching 61 = .ok (.ireturn, 1) := by decide +kernel
theorem dX7_light_0 : decode cX7_light 0 = .ok (.aload_n 0, 1) := by decide +kernel
theorem dX7_light_1 : decode cX7_light 1 = .ok (.iload_n 1, 1) := by decide +kernel
theorem dX7_light_2 : decode cX7_light 2 = .ok (.invokevirtual 94, 3) := by decide +kernel
theorem dX7_light_5 : decode cX7_light 5 = .ok (.ifCond .eq 13, 3) := by decide +kernel
theorem dX7_light_8 : decode cX7_light 8 = .ok (.iload_n 2, 1) := by decide +kernel
theorem dX7_light_9 : decode cX7_light 9 = .ok (.iconst 0, 1) := by decide +kernel
theorem dX7_light_10 : decode cX7_light 10 = .ok (.bipush 12, 2) := by decide +kernel
theorem dX7_light_12 : decode cX7_light 12 = .ok (.invokestatic 53, 3) := by decide +kernel
theorem dX7_light_15 : decode cX7_light 15 = .ok (.ifCond .ne 5, 3) := by decide +kernel
theorem dX7_light_18 : decode cX7_light 18 = .ok (.iconst (-1), 1) := by decide +kernel
theorem dX7_light_19 : decode cX7_light 19 = .ok (.ireturn, 1) := by decide +kernel
theorem dX7_light_20 : decode cX7_light 20 = .ok (.iload_n 2, 1) := by decide +kernel
theorem dX7_light_21 : decode cX7_light 21 = .ok (.tableswitch 97 6 12 #[43, 49, 57, 63, 69, 83, 91], 43) := by decide +kernel
theorem dX7_light_64 : decode cX7_light 64 = .ok (.aload_n 0, 1) := by decide +kernel
theorem dX7_light_65 : decode cX7_light 65 = .ok (.iload_n 1, 1) := by decide +kernel
theorem dX7_light_66 : decode cX7_light 66 = .ok (.invokevirtual 73, 3) := by decide +kernel
theorem dX7_light_69 : decode cX7_light 69 = .ok (.ireturn, 1) := by decide +kernel
theorem dX7_light_70 : decode cX7_light 70 = .ok (.aload_n 0, 1) := by decide +kernel
theorem dX7_light_71 : decode cX7_light 71 = .ok (.iload_n 1, 1) := by decide +kernel
theorem dX7_light_72 : decode cX7_light 72 = .ok (.bipush 6, 2) := by decide +kernel
theorem dX7_light_74 : decode cX7_light 74 = .ok (.invokevirtual 57, 3) := by decide +kernel
theorem dX7_light_77 : decode cX7_light 77 = .ok (.ireturn, 1) := by decide +kernel
theorem dX7_light_78 : decode cX7_light 78 = .ok (.aload_n 0, 1) := by decide +kernel
theorem dX7_light_79 : decode cX7_light 79 = .ok (.iload_n 1, 1) := by decide +kernel
theorem dX7_light_80 : decode cX7_light 80 = .ok (.invokevirtual 64, 3) := by decide +kernel
theorem dX7_light_83 : decode cX7_light 83 = .ok (.ireturn, 1) := by decide +kernel
theorem dX7_light_84 : decode cX7_light 84 = .ok (.aload_n 0, 1) := by decide +kernel
theorem dX7_light_85 : decode cX7_light 85 = .ok (.iload_n 1, 1) := by decide +kernel
theorem dX7_light_86 : decode cX7_light 86 = .ok (.invokevirtual 67, 3) := by decide +kernel
theorem dX7_light_89 : decode cX7_light 89 = .ok (.ireturn, 1) := by decide +kernel
theorem dX7_light_90 : decode cX7_light 90 = .ok (.aload_n 0, 1) := by decide +kernel
theorem dX7_light_91 : decode cX7_light 91 = .ok (.iload_n 1, 1) := by decide +kernel
theorem dX7_light_92 : decode cX7_light 92 = .ok (.invokevirtual 144, 3) := by decide +kernel
theorem dX7_light_95 : decode cX7_light 95 = .ok (.ifCond .eq 7, 3) := by decide +kernel
theorem dX7_light_98 : decode cX7_light 98 = .ok (.iconst 1, 1) := by decide +kernel
theorem dX7_light_99 : decode cX7_light 99 = .ok (.goto 4, 3) := by decide +kernel
theorem dX7_light_102 : decode cX7_light 102 = .ok (.iconst 0, 1) := by decide +kernel
theorem dX7_light_103 : decode cX7_light 103 = .ok (.ireturn, 1) := by decide +kernel
theorem dX7_light_104 : decode cX7_light 104 = .ok (.aload_n 0, 1) := by decide +kernel
theorem dX7_light_105 : decode cX7_light 105 = .ok (.iload_n 1, 1) := by decide +kernel
theorem dX7_light_106 : decode cX7_light 106 = .ok (.bipush 8, 2) := by decide +kernel
theorem dX7_light_108 : decode cX7_light 108 = .ok (.invokevirtual 57, 3) := by decide +kernel
theorem dX7_light_111 : decode cX7_light 111 = .ok (.ireturn, 1) := by decide +kernel
theorem dX7_light_112 : decode cX7_light 112 = .ok (.aload_n 0, 1) := by decide +kernel
theorem dX7_light_113 : decode cX7_light 113 = .ok (.iload_n 1, 1) := by decide +kernel
theorem dX7_light_114 : decode cX7_light 114 = .ok (.invokevirtual 198, 3) := by decide +kernel
theorem dX7_light_117 : decode cX7_light 117 = .ok (.ireturn, 1) := by decide +kernel
theorem dX7_light_118 : decode cX7_light 118 = .ok (.aload_n 0, 1) := by decide +kernel
theorem dX7_light_119 : decode cX7_light 119 = .ok (.iload_n 1, 1) := by decide +kernel
theorem dX7_light_120 : decode cX7_light 120 = .ok (.iload_n 2, 1) := by decide +kernel
theorem dX7_light_121 : decode cX7_light 121 = .ok (.invokevirtual 57, 3) := by decide +kernel
theorem dX7_light_124 : decode cX7_light 124 = .ok (.ireturn, 1) := by decide +kernel
theorem dX7_burntOut_0 : decode cX7_burntOut 0 = .ok (.iconst 0, 1) := by decide +kernel
theorem dX7_burntOut_1 : decode cX7_burntOut 1 = .ok (.istore_n 1, 1) := by decide +kernel
theorem dX7_burntOut_2 : decode cX7_burntOut 2 = .ok (.iconst 0, 1) := by decide +kernel
theorem dX7_burntOut_3 : decode cX7_burntOut 3 = .ok (.istore_n 2, 1) := by decide +kernel
theorem dX7_burntOut_4 : decode cX7_burntOut 4 = .ok (.iload_n 2, 1) := by decide +kernel
theorem dX7_burntOut_5 : decode cX7_burntOut 5 = .ok (.aload_n 0, 1) := by decide +kernel
theorem dX7_burntOut_6 : decode cX7_burntOut 6 = .ok (.invokevirtual 49, 3) := by decide +kernel
theorem dX7_burntOut_9 : decode cX7_burntOut 9 = .ok (.if_icmp .ge 25, 3) := by decide +kernel
theorem dX7_burntOut_12 : decode cX7_burntOut 12 = .ok (.iload_n 1, 1) := by decide +kernel
theorem dX7_burntOut_13 : decode cX7_burntOut 13 = .ok (.aload_n 0, 1) := by decide +kernel
theorem dX7_burntOut_14 : decode cX7_burntOut 14 = .ok (.iload_n 2, 1) := by decide +kernel
theorem dX7_burntOut_15 : decode cX7_burntOut 15 = .ok (.invokevirtual 64, 3) := by decide +kernel
theorem dX7_burntOut_18 : decode cX7_burntOut 18 = .ok (.ifCond .ne 7, 3) := by decide +kernel
theorem dX7_burntOut_21 : decode cX7_burntOut 21 = .ok (.iconst 1, 1) := by decide +kernel
theorem dX7_burntOut_22 : decode cX7_burntOut 22 = .ok (.goto 4, 3) := by decide +kernel
theorem dX7_burntOut_25 : decode cX7_burntOut 25 = .ok (.iconst 0, 1) := by decide +kernel
theorem dX7_burntOut_26 : decode cX7_burntOut 26 = .ok (.iadd, 1) := by decide +kernel
theorem dX7_burntOut_27 : decode cX7_burntOut 27 = .ok (.istore_n 1, 1) := by decide +kernel
theorem dX7_burntOut_28 : decode cX7_burntOut 28 = .ok (.iinc 2 1, 3) := by decide +kernel
theorem dX7_burntOut_31 : decode cX7_burntOut 31 = .ok (.goto (-27), 3) := by decide +kernel
theorem dX7_burntOut_34 : decode cX7_burntOut 34 = .ok (.iload_n 1, 1) := by decide +kernel
theorem dX7_burntOut_35 : decode cX7_burntOut 35 = .ok (.ireturn, 1) := by decide +kernel
theorem dX7_safe_0 : decode cX7_safe 0 = .ok (.aload_n 0, 1) := by decide +kernel
theorem dX7_safe_1 : decode cX7_safe 1 = .ok (.invokevirtual 164, 3) := by decide +kernel
theorem dX7_safe_4 : decode cX7_safe 4 = .ok (.iconst 0, 1) := by decide +kernel
theorem dX7_safe_5 : decode cX7_safe 5 = .ok (.istore_n 1, 1) := by decide +kernel
theorem dX7_safe_6 : decode cX7_safe 6 = .ok (.iconst 0, 1) := by decide +kernel
theorem dX7_safe_7 : decode cX7_safe 7 = .ok (.istore_n 2, 1) := by decide +kernel
theorem dX7_safe_8 : decode cX7_safe 8 = .ok (.iload_n 2, 1) := by decide +kernel
theorem dX7_safe_9 : decode cX7_safe 9 = .ok (.aload_n 0, 1) := by decide +kernel
theorem dX7_safe_10 : decode cX7_safe 10 = .ok (.getfield 7, 3) := by decide +kernel
theorem dX7_safe_13 : decode cX7_safe 13 = .ok (.bipush 91, 2) := by decide +kernel
theorem dX7_safe_15 : decode cX7_safe 15 = .ok (.iaload, 1) := by decide +kernel
theorem dX7_safe_16 : decode cX7_safe 16 = .ok (.if_icmp .ge 25, 3) := by decide +kernel
theorem dX7_safe_19 : decode cX7_safe 19 = .ok (.iload_n 1, 1) := by decide +kernel
theorem dX7_safe_20 : decode cX7_safe 20 = .ok (.aload_n 0, 1) := by decide +kernel
theorem dX7_safe_21 : decode cX7_safe 21 = .ok (.iload_n 2, 1) := by decide +kernel
theorem dX7_safe_22 : decode cX7_safe 22 = .ok (.invokevirtual 158, 3) := by decide +kernel
theorem dX7_safe_25 : decode cX7_safe 25 = .ok (.ifCond .ne 7, 3) := by decide +kernel
theorem dX7_safe_28 : decode cX7_safe 28 = .ok (.iconst 1, 1) := by decide +kernel
theorem dX7_safe_29 : decode cX7_safe 29 = .ok (.goto 4, 3) := by decide +kernel
theorem dX7_safe_32 : decode cX7_safe 32 = .ok (.iconst 0, 1) := by decide +kernel
theorem dX7_safe_33 : decode cX7_safe 33 = .ok (.iadd, 1) := by decide +kernel
theorem dX7_safe_34 : decode cX7_safe 34 = .ok (.istore_n 1, 1) := by decide +kernel
theorem dX7_safe_35 : decode cX7_safe 35 = .ok (.iinc 2 1, 3) := by decide +kernel
theorem dX7_safe_38 : decode cX7_safe 38 = .ok (.goto (-30), 3) := by decide +kernel
theorem dX7_safe_41 : decode cX7_safe 41 = .ok (.iload_n 1, 1) := by decide +kernel
theorem dX7_safe_42 : decode cX7_safe 42 = .ok (.ireturn, 1) := by decide +kernel
theorem dX7_told_0 : decode cX7_told 0 = .ok (.iload_n 1, 1) := by decide +kernel
theorem dX7_told_1 : decode cX7_told 1 = .ok (.tableswitch 154 0 13 #[71, 76, 81, 89, 94, 102, 110, 110, 110, 123, 128, 136, 144, 149], 71) := by decide +kernel
theorem dX7_told_72 : decode cX7_told 72 = .ok (.aload_n 0, 1) := by decide +kernel
theorem dX7_told_73 : decode cX7_told 73 = .ok (.invokevirtual 49, 3) := by decide +kernel
theorem dX7_told_76 : decode cX7_told 76 = .ok (.ireturn, 1) := by decide +kernel
theorem dX7_told_77 : decode cX7_told 77 = .ok (.aload_n 0, 1) := by decide +kernel
theorem dX7_told_78 : decode cX7_told 78 = .ok (.invokevirtual 151, 3) := by decide +kernel
theorem dX7_told_81 : decode cX7_told 81 = .ok (.ireturn, 1) := by decide +kernel
theorem dX7_told_82 : decode cX7_told 82 = .ok (.aload_n 0, 1) := by decide +kernel
theorem dX7_told_83 : decode cX7_told 83 = .ok (.getfield 7, 3) := by decide +kernel
theorem dX7_told_86 : decode cX7_told 86 = .ok (.bipush 91, 2) := by decide +kernel
theorem dX7_told_88 : decode cX7_told 88 = .ok (.iaload, 1) := by decide +kernel
theorem dX7_told_89 : decode cX7_told 89 = .ok (.ireturn, 1) := by decide +kernel
theorem dX7_told_90 : decode cX7_told 90 = .ok (.aload_n 0, 1) := by decide +kernel
theorem dX7_told_91 : decode cX7_told 91 = .ok (.invokevirtual 201, 3) := by decide +kernel
theorem dX7_told_94 : decode cX7_told 94 = .ok (.ireturn, 1) := by decide +kernel
theorem dX7_told_95 : decode cX7_told 95 = .ok (.aload_n 0, 1) := by decide +kernel
theorem dX7_told_96 : decode cX7_told 96 = .ok (.getfield 7, 3) := by decide +kernel
theorem dX7_told_99 : decode cX7_told 99 = .ok (.bipush 104, 2) := by decide +kernel
theorem dX7_told_101 : decode cX7_told 101 = .ok (.iaload, 1) := by decide +kernel
theorem dX7_told_102 : decode cX7_told 102 = .ok (.ireturn, 1) := by decide +kernel
theorem dX7_told_103 : decode cX7_told 103 = .ok (.aload_n 0, 1) := by decide +kernel
theorem dX7_told_104 : decode cX7_told 104 = .ok (.getfield 7, 3) := by decide +kernel
theorem dX7_told_107 : decode cX7_told 107 = .ok (.bipush 105, 2) := by decide +kernel
theorem dX7_told_109 : decode cX7_told 109 = .ok (.iaload, 1) := by decide +kernel
theorem dX7_told_110 : decode cX7_told 110 = .ok (.ireturn, 1) := by decide +kernel
theorem dX7_told_111 : decode cX7_told 111 = .ok (.aload_n 0, 1) := by decide +kernel
theorem dX7_told_112 : decode cX7_told 112 = .ok (.getfield 7, 3) := by decide +kernel
theorem dX7_told_115 : decode cX7_told 115 = .ok (.bipush 106, 2) := by decide +kernel
theorem dX7_told_117 : decode cX7_told 117 = .ok (.iload_n 1, 1) := by decide +kernel
theorem dX7_told_118 : decode cX7_told 118 = .ok (.iadd, 1) := by decide +kernel
theorem dX7_told_119 : decode cX7_told 119 = .ok (.bipush 6, 2) := by decide +kernel
theorem dX7_told_121 : decode cX7_told 121 = .ok (.isub, 1) := by decide +kernel
theorem dX7_told_122 : decode cX7_told 122 = .ok (.iaload, 1) := by decide +kernel
theorem dX7_told_123 : decode cX7_told 123 = .ok (.ireturn, 1) := by decide +kernel
theorem dX7_told_124 : decode cX7_told 124 = .ok (.aload_n 0, 1) := by decide +kernel
theorem dX7_told_125 : decode cX7_told 125 = .ok (.invokevirtual 204, 3) := by decide +kernel
theorem dX7_told_128 : decode cX7_told 128 = .ok (.ireturn, 1) := by decide +kernel
theorem dX7_told_129 : decode cX7_told 129 = .ok (.aload_n 0, 1) := by decide +kernel
theorem dX7_told_130 : decode cX7_told 130 = .ok (.getfield 7, 3) := by decide +kernel
theorem dX7_told_133 : decode cX7_told 133 = .ok (.bipush 109, 2) := by decide +kernel
theorem dX7_told_135 : decode cX7_told 135 = .ok (.iaload, 1) := by decide +kernel
theorem dX7_told_136 : decode cX7_told 136 = .ok (.ireturn, 1) := by decide +kernel
theorem dX7_told_137 : decode cX7_told 137 = .ok (.aload_n 0, 1) := by decide +kernel
theorem dX7_told_138 : decode cX7_told 138 = .ok (.getfield 7, 3) := by decide +kernel
theorem dX7_told_141 : decode cX7_told 141 = .ok (.bipush 110, 2) := by decide +kernel
theorem dX7_told_143 : decode cX7_told 143 = .ok (.iaload, 1) := by decide +kernel
theorem dX7_told_144 : decode cX7_told 144 = .ok (.ireturn, 1) := by decide +kernel
theorem dX7_told_145 : decode cX7_told 145 = .ok (.aload_n 0, 1) := by decide +kernel
theorem dX7_told_146 : decode cX7_told 146 = .ok (.getfield 100, 3) := by decide +kernel
theorem dX7_told_149 : decode cX7_told 149 = .ok (.ireturn, 1) := by decide +kernel
theorem dX7_told_150 : decode cX7_told 150 = .ok (.aload_n 0, 1) := by decide +kernel
theorem dX7_told_151 : decode cX7_told 151 = .ok (.getfield 41, 3) := by decide +kernel
theorem dX7_told_154 : decode cX7_told 154 = .ok (.ireturn, 1) := by decide +kernel
theorem dX7_told_155 : decode cX7_told 155 = .ok (.iconst (-1), 1) := by decide +kernel
theorem dX7_told_156 : decode cX7_told 156 = .ok (.ireturn, 1) := by decide +kernel
theorem dX7_undo_0 : decode cX7_undo 0 = .ok (.aload_n 0, 1) := by decide +kernel
theorem dX7_undo_1 : decode cX7_undo 1 = .ok (.getfield 41, 3) := by decide +kernel
theorem dX7_undo_4 : decode cX7_undo 4 = .ok (.ifCond .ne 6, 3) := by decide +kernel
theorem dX7_undo_7 : decode cX7_undo 7 = .ok (.bipush (-2), 2) := by decide +kernel
theorem dX7_undo_9 : decode cX7_undo 9 = .ok (.ireturn, 1) := by decide +kernel
theorem dX7_undo_10 : decode cX7_undo 10 = .ok (.iconst 0, 1) := by decide +kernel
theorem dX7_undo_11 : decode cX7_undo 11 = .ok (.istore_n 1, 1) := by decide +kernel
theorem dX7_undo_12 : decode cX7_undo 12 = .ok (.iload_n 1, 1) := by decide +kernel
theorem dX7_undo_13 : decode cX7_undo 13 = .ok (.bipush 111, 2) := by decide +kernel
theorem dX7_undo_15 : decode cX7_undo 15 = .ok (.if_icmp .ge 29, 3) := by decide +kernel
theorem dX7_undo_18 : decode cX7_undo 18 = .ok (.aload_n 0, 1) := by decide +kernel
theorem dX7_undo_19 : decode cX7_undo 19 = .ok (.getfield 7, 3) := by decide +kernel
theorem dX7_undo_22 : decode cX7_undo 22 = .ok (.iload_n 1, 1) := by decide +kernel
theorem dX7_undo_23 : decode cX7_undo 23 = .ok (.aload_n 0, 1) := by decide +kernel
theorem dX7_undo_24 : decode cX7_undo 24 = .ok (.getfield 7, 3) := by decide +kernel
theorem dX7_undo_27 : decode cX7_undo 27 = .ok (.bipush 111, 2) := by decide +kernel
theorem dX7_undo_29 : decode cX7_undo 29 = .ok (.aload_n 0, 1) := by decide +kernel
theorem dX7_undo_30 : decode cX7_undo 30 = .ok (.getfield 41, 3) := by decide +kernel
theorem dX7_undo_33 : decode cX7_undo 33 = .ok (.imul, 1) := by decide +kernel
theorem dX7_undo_34 : decode cX7_undo 34 = .ok (.iload_n 1, 1) := by decide +kernel
theorem dX7_undo_35 : decode cX7_undo 35 = .ok (.iadd, 1) := by decide +kernel
theorem dX7_undo_36 : decode cX7_undo 36 = .ok (.iaload, 1) := by decide +kernel
theorem dX7_undo_37 : decode cX7_undo 37 = .ok (.iastore, 1) := by decide +kernel
theorem dX7_undo_38 : decode cX7_undo 38 = .ok (.iinc 1 1, 3) := by decide +kernel
theorem dX7_undo_41 : decode cX7_undo 41 = .ok (.goto (-29), 3) := by decide +kernel
theorem dX7_undo_44 : decode cX7_undo 44 = .ok (.aload_n 0, 1) := by decide +kernel
theorem dX7_undo_45 : decode cX7_undo 45 = .ok (.dup, 1) := by decide +kernel
theorem dX7_undo_46 : decode cX7_undo 46 = .ok (.getfield 41, 3) := by decide +kernel
theorem dX7_undo_49 : decode cX7_undo 49 = .ok (.iconst 1, 1) := by decide +kernel
theorem dX7_undo_50 : decode cX7_undo 50 = .ok (.isub, 1) := by decide +kernel
theorem dX7_undo_51 : decode cX7_undo 51 = .ok (.putfield 41, 3) := by decide +kernel
theorem dX7_undo_54 : decode cX7_undo 54 = .ok (.aload_n 0, 1) := by decide +kernel
theorem dX7_undo_55 : decode cX7_undo 55 = .ok (.getfield 41, 3) := by decide +kernel
theorem dX7_undo_58 : decode cX7_undo 58 = .ok (.ireturn, 1) := by decide +kernel
theorem dX7_mixedPlan_0 : decode cX7_mixedPlan 0 = .ok (.aload_n 0, 1) := by decide +kernel
theorem dX7_mixedPlan_1 : decode cX7_mixedPlan 1 = .ok (.invokevirtual 176, 3) := by decide +kernel
theorem dX7_mixedPlan_4 : decode cX7_mixedPlan 4 = .ok (.ldc2_w 207, 3) := by decide +kernel
theorem dX7_mixedPlan_7 : decode cX7_mixedPlan 7 = .ok (.lload_n 1, 1) := by decide +kernel
theorem dX7_mixedPlan_8 : decode cX7_mixedPlan 8 = .ok (.lmul, 1) := by decide +kernel
theorem dX7_mixedPlan_9 : decode cX7_mixedPlan 9 = .ok (.aload_n 0, 1) := by decide +kernel
theorem dX7_mixedPlan_10 : decode cX7_mixedPlan 10 = .ok (.invokevirtual 179, 3) := by decide +kernel
theorem dX7_mixedPlan_13 : decode cX7_mixedPlan 13 = .ok (.i2l, 1) := by decide +kernel
theorem dX7_mixedPlan_14 : decode cX7_mixedPlan 14 = .ok (.ladd, 1) := by decide +kernel
theorem dX7_mixedPlan_15 : decode cX7_mixedPlan 15 = .ok (.lstore_n 3, 1) := by decide +kernel
theorem dX7_mixedPlan_16 : decode cX7_mixedPlan 16 = .ok (.iconst 0, 1) := by decide +kernel
theorem dX7_mixedPlan_17 : decode cX7_mixedPlan 17 = .ok (.istore 5, 2) := by decide +kernel
theorem dX7_mixedPlan_19 : decode cX7_mixedPlan 19 = .ok (.iload 5, 2) := by decide +kernel
theorem dX7_mixedPlan_21 : decode cX7_mixedPlan 21 = .ok (.aload_n 0, 1) := by decide +kernel
theorem dX7_mixedPlan_22 : decode cX7_mixedPlan 22 = .ok (.invokevirtual 179, 3) := by decide +kernel
theorem dX7_mixedPlan_25 : decode cX7_mixedPlan 25 = .ok (.if_icmp .ge 23, 3) := by decide +kernel
theorem dX7_mixedPlan_28 : decode cX7_mixedPlan 28 = .ok (.ldc2_w 207, 3) := by decide +kernel
theorem dX7_mixedPlan_31 : decode cX7_mixedPlan 31 = .ok (.lload_n 3, 1) := by decide +kernel
theorem dX7_mixedPlan_32 : decode cX7_mixedPlan 32 = .ok (.lmul, 1) := by decide +kernel
theorem dX7_mixedPlan_33 : decode cX7_mixedPlan 33 = .ok (.aload_n 0, 1) := by decide +kernel
theorem dX7_mixedPlan_34 : decode cX7_mixedPlan 34 = .ok (.iload 5, 2) := by decide +kernel
theorem dX7_mixedPlan_36 : decode cX7_mixedPlan 36 = .ok (.invokevirtual 182, 3) := by decide +kernel
theorem dX7_mixedPlan_39 : decode cX7_mixedPlan 39 = .ok (.i2l, 1) := by decide +kernel
theorem dX7_mixedPlan_40 : decode cX7_mixedPlan 40 = .ok (.ladd, 1) := by decide +kernel
theorem dX7_mixedPlan_41 : decode cX7_mixedPlan 41 = .ok (.lstore_n 3, 1) := by decide +kernel
theorem dX7_mixedPlan_42 : decode cX7_mixedPlan 42 = .ok (.iinc 5 1, 3) := by decide +kernel
theorem dX7_mixedPlan_45 : decode cX7_mixedPlan 45 = .ok (.goto (-26), 3) := by decide +kernel
theorem dX7_mixedPlan_48 : decode cX7_mixedPlan 48 = .ok (.lload_n 3, 1) := by decide +kernel
theorem dX7_mixedPlan_49 : decode cX7_mixedPlan 49 = .ok (.lreturn, 1) := by decide +kernel
theorem dX7_digest_0 : decode cX7_digest 0 = .ok (.ldc2_w 209, 3) := by decide +kernel
theorem dX7_digest_3 : decode cX7_digest 3 = .ok (.lstore_n 1, 1) := by decide +kernel
theorem dX7_digest_4 : decode cX7_digest 4 = .ok (.iconst 0, 1) := by decide +kernel
theorem dX7_digest_5 : decode cX7_digest 5 = .ok (.istore_n 3, 1) := by decide +kernel
theorem dX7_digest_6 : decode cX7_digest 6 = .ok (.iload_n 3, 1) := by decide +kernel
theorem dX7_digest_7 : decode cX7_digest 7 = .ok (.bipush 13, 2) := by decide +kernel
theorem dX7_digest_9 : decode cX7_digest 9 = .ok (.if_icmp .gt 22, 3) := by decide +kernel
theorem dX7_digest_12 : decode cX7_digest 12 = .ok (.ldc2_w 207, 3) := by decide +kernel
theorem dX7_digest_15 : decode cX7_digest 15 = .ok (.lload_n 1, 1) := by decide +kernel
theorem dX7_digest_16 : decode cX7_digest 16 = .ok (.lmul, 1) := by decide +kernel
theorem dX7_digest_17 : decode cX7_digest 17 = .ok (.aload_n 0, 1) := by decide +kernel
theorem dX7_digest_18 : decode cX7_digest 18 = .ok (.iload_n 3, 1) := by decide +kernel
theorem dX7_digest_19 : decode cX7_digest 19 = .ok (.invokevirtual 211, 3) := by decide +kernel
theorem dX7_digest_22 : decode cX7_digest 22 = .ok (.i2l, 1) := by decide +kernel
theorem dX7_digest_23 : decode cX7_digest 23 = .ok (.ladd, 1) := by decide +kernel
theorem dX7_digest_24 : decode cX7_digest 24 = .ok (.lstore_n 1, 1) := by decide +kernel
theorem dX7_digest_25 : decode cX7_digest 25 = .ok (.iinc 3 1, 3) := by decide +kernel
theorem dX7_digest_28 : decode cX7_digest 28 = .ok (.goto (-22), 3) := by decide +kernel
theorem dX7_digest_31 : decode cX7_digest 31 = .ok (.iconst 0, 1) := by decide +kernel
theorem dX7_digest_32 : decode cX7_digest 32 = .ok (.istore_n 3, 1) := by decide +kernel
theorem dX7_digest_33 : decode cX7_digest 33 = .ok (.iload_n 3, 1) := by decide +kernel
theorem dX7_digest_34 : decode cX7_digest 34 = .ok (.aload_n 0, 1) := by decide +kernel
theorem dX7_digest_35 : decode cX7_digest 35 = .ok (.invokevirtual 49, 3) := by decide +kernel
theorem dX7_digest_38 : decode cX7_digest 38 = .ok (.if_icmp .ge 40, 3) := by decide +kernel
theorem dX7_digest_41 : decode cX7_digest 41 = .ok (.iconst 0, 1) := by decide +kernel
theorem dX7_digest_42 : decode cX7_digest 42 = .ok (.istore 4, 2) := by decide +kernel
theorem dX7_digest_44 : decode cX7_digest 44 = .ok (.iload 4, 2) := by decide +kernel
theorem dX7_digest_46 : decode cX7_digest 46 = .ok (.bipush 12, 2) := by decide +kernel
theorem dX7_digest_48 : decode cX7_digest 48 = .ok (.if_icmp .gt 24, 3) := by decide +kernel
theorem dX7_digest_51 : decode cX7_digest 51 = .ok (.ldc2_w 207, 3) := by decide +kernel
theorem dX7_digest_54 : decode cX7_digest 54 = .ok (.lload_n 1, 1) := by decide +kernel
theorem dX7_digest_55 : decode cX7_digest 55 = .ok (.lmul, 1) := by decide +kernel
theorem dX7_digest_56 : decode cX7_digest 56 = .ok (.aload_n 0, 1) := by decide +kernel
theorem dX7_digest_57 : decode cX7_digest 57 = .ok (.iload_n 3, 1) := by decide +kernel
theorem dX7_digest_58 : decode cX7_digest 58 = .ok (.iload 4, 2) := by decide +kernel
theorem dX7_digest_60 : decode cX7_digest 60 = .ok (.invokevirtual 214, 3) := by decide +kernel
theorem dX7_digest_63 : decode cX7_digest 63 = .ok (.i2l, 1) := by decide +kernel
theorem dX7_digest_64 : decode cX7_digest 64 = .ok (.ladd, 1) := by decide +kernel
theorem dX7_digest_65 : decode cX7_digest 65 = .ok (.lstore_n 1, 1) := by decide +kernel
theorem dX7_digest_66 : decode cX7_digest 66 = .ok (.iinc 4 1, 3) := by decide +kernel
theorem dX7_digest_69 : decode cX7_digest 69 = .ok (.goto (-25), 3) := by decide +kernel
theorem dX7_digest_72 : decode cX7_digest 72 = .ok (.iinc 3 1, 3) := by decide +kernel
theorem dX7_digest_75 : decode cX7_digest 75 = .ok (.goto (-42), 3) := by decide +kernel
theorem dX7_digest_78 : decode cX7_digest 78 = .ok (.iconst 0, 1) := by decide +kernel
theorem dX7_digest_79 : decode cX7_digest 79 = .ok (.istore_n 3, 1) := by decide +kernel
theorem dX7_digest_80 : decode cX7_digest 80 = .ok (.iload_n 3, 1) := by decide +kernel
theorem dX7_digest_81 : decode cX7_digest 81 = .ok (.aload_n 0, 1) := by decide +kernel
theorem dX7_digest_82 : decode cX7_digest 82 = .ok (.getfield 7, 3) := by decide +kernel
theorem dX7_digest_85 : decode cX7_digest 85 = .ok (.bipush 91, 2) := by decide +kernel
theorem dX7_digest_87 : decode cX7_digest 87 = .ok (.iaload, 1) := by decide +kernel
theorem dX7_digest_88 : decode cX7_digest 88 = .ok (.if_icmp .ge 40, 3) := by decide +kernel
theorem dX7_digest_91 : decode cX7_digest 91 = .ok (.iconst 0, 1) := by decide +kernel
theorem dX7_digest_92 : decode cX7_digest 92 = .ok (.istore 4, 2) := by decide +kernel
theorem dX7_digest_94 : decode cX7_digest 94 = .ok (.iload 4, 2) := by decide +kernel
theorem dX7_digest_96 : decode cX7_digest 96 = .ok (.bipush 6, 2) := by decide +kernel
theorem dX7_digest_98 : decode cX7_digest 98 = .ok (.if_icmp .gt 24, 3) := by decide +kernel
theorem dX7_digest_101 : decode cX7_digest 101 = .ok (.ldc2_w 207, 3) := by decide +kernel
theorem dX7_digest_104 : decode cX7_digest 104 = .ok (.lload_n 1, 1) := by decide +kernel
theorem dX7_digest_105 : decode cX7_digest 105 = .ok (.lmul, 1) := by decide +kernel
theorem dX7_digest_106 : decode cX7_digest 106 = .ok (.aload_n 0, 1) := by decide +kernel
theorem dX7_digest_107 : decode cX7_digest 107 = .ok (.iload_n 3, 1) := by decide +kernel
theorem dX7_digest_108 : decode cX7_digest 108 = .ok (.iload 4, 2) := by decide +kernel
theorem dX7_digest_110 : decode cX7_digest 110 = .ok (.invokevirtual 217, 3) := by decide +kernel
theorem dX7_digest_113 : decode cX7_digest 113 = .ok (.i2l, 1) := by decide +kernel
theorem dX7_digest_114 : decode cX7_digest 114 = .ok (.ladd, 1) := by decide +kernel
theorem dX7_digest_115 : decode cX7_digest 115 = .ok (.lstore_n 1, 1) := by decide +kernel
theorem dX7_digest_116 : decode cX7_digest 116 = .ok (.iinc 4 1, 3) := by decide +kernel
theorem dX7_digest_119 : decode cX7_digest 119 = .ok (.goto (-25), 3) := by decide +kernel
theorem dX7_digest_122 : decode cX7_digest 122 = .ok (.iinc 3 1, 3) := by decide +kernel
theorem dX7_digest_125 : decode cX7_digest 125 = .ok (.goto (-45), 3) := by decide +kernel
theorem dX7_digest_128 : decode cX7_digest 128 = .ok (.aload_n 0, 1) := by decide +kernel
theorem dX7_digest_129 : decode cX7_digest 129 = .ok (.lload_n 1, 1) := by decide +kernel
theorem dX7_digest_130 : decode cX7_digest 130 = .ok (.invokevirtual 220, 3) := by decide +kernel
theorem dX7_digest_133 : decode cX7_digest 133 = .ok (.lstore_n 1, 1) := by decide +kernel
theorem dX7_digest_134 : decode cX7_digest 134 = .ok (.iconst 0, 1) := by decide +kernel
theorem dX7_digest_135 : decode cX7_digest 135 = .ok (.istore_n 3, 1) := by decide +kernel
theorem dX7_digest_136 : decode cX7_digest 136 = .ok (.iload_n 3, 1) := by decide +kernel
theorem dX7_digest_137 : decode cX7_digest 137 = .ok (.sipush 200, 3) := by decide +kernel
theorem dX7_digest_140 : decode cX7_digest 140 = .ok (.if_icmp .gt 37, 3) := by decide +kernel
theorem dX7_digest_143 : decode cX7_digest 143 = .ok (.ldc2_w 207, 3) := by decide +kernel
theorem dX7_digest_146 : decode cX7_digest 146 = .ok (.lload_n 1, 1) := by decide +kernel
theorem dX7_digest_147 : decode cX7_digest 147 = .ok (.lmul, 1) := by decide +kernel
theorem dX7_digest_148 : decode cX7_digest 148 = .ok (.aload_n 0, 1) := by decide +kernel
theorem dX7_digest_149 : decode cX7_digest 149 = .ok (.iload_n 3, 1) := by decide +kernel
theorem dX7_digest_150 : decode cX7_digest 150 = .ok (.iconst 0, 1) := by decide +kernel
theorem dX7_digest_151 : decode cX7_digest 151 = .ok (.invokevirtual 224, 3) := by decide +kernel
theorem dX7_digest_154 : decode cX7_digest 154 = .ok (.i2l, 1) := by decide +kernel
theorem dX7_digest_155 : decode cX7_digest 155 = .ok (.ladd, 1) := by decide +kernel
theorem dX7_digest_156 : decode cX7_digest 156 = .ok (.lstore_n 1, 1) := by decide +kernel
theorem dX7_digest_157 : decode cX7_digest 157 = .ok (.ldc2_w 207, 3) := by decide +kernel
theorem dX7_digest_160 : decode cX7_digest 160 = .ok (.lload_n 1, 1) := by decide +kernel
theorem dX7_digest_161 : decode cX7_digest 161 = .ok (.lmul, 1) := by decide +kernel
theorem dX7_digest_162 : decode cX7_digest 162 = .ok (.aload_n 0, 1) := by decide +kernel
theorem dX7_digest_163 : decode cX7_digest 163 = .ok (.iload_n 3, 1) := by decide +kernel
theorem dX7_digest_164 : decode cX7_digest 164 = .ok (.iconst 1, 1) := by decide +kernel
theorem dX7_digest_165 : decode cX7_digest 165 = .ok (.invokevirtual 224, 3) := by decide +kernel
theorem dX7_digest_168 : decode cX7_digest 168 = .ok (.i2l, 1) := by decide +kernel
theorem dX7_digest_169 : decode cX7_digest 169 = .ok (.ladd, 1) := by decide +kernel
theorem dX7_digest_170 : decode cX7_digest 170 = .ok (.lstore_n 1, 1) := by decide +kernel
theorem dX7_digest_171 : decode cX7_digest 171 = .ok (.iinc 3 5, 3) := by decide +kernel
theorem dX7_digest_174 : decode cX7_digest 174 = .ok (.goto (-38), 3) := by decide +kernel
theorem dX7_digest_177 : decode cX7_digest 177 = .ok (.lload_n 1, 1) := by decide +kernel
theorem dX7_digest_178 : decode cX7_digest 178 = .ok (.lreturn, 1) := by decide +kernel
theorem dL_law_0 : decode cL_law 0 = .ok (.new 7, 3) := by decide +kernel
theorem dL_law_3 : decode cL_law 3 = .ok (.dup, 1) := by decide +kernel
theorem dL_law_4 : decode cL_law 4 = .ok (.invokespecial 9, 3) := by decide +kernel
theorem dL_law_7 : decode cL_law 7 = .ok (.astore_n 1, 1) := by decide +kernel
theorem dL_law_8 : decode cL_law 8 = .ok (.new 10, 3) := by decide +kernel
theorem dL_law_11 : decode cL_law 11 = .ok (.dup, 1) := by decide +kernel
theorem dL_law_12 : decode cL_law 12 = .ok (.invokespecial 12, 3) := by decide +kernel
theorem dL_law_15 : decode cL_law 15 = .ok (.astore_n 2, 1) := by decide +kernel
theorem dL_law_16 : decode cL_law 16 = .ok (.iconst 0, 1) := by decide +kernel
theorem dL_law_17 : decode cL_law 17 = .ok (.istore_n 3, 1) := by decide +kernel
theorem dL_law_18 : decode cL_law 18 = .ok (.iload_n 3, 1) := by decide +kernel
theorem dL_law_19 : decode cL_law 19 = .ok (.aload_n 0, 1) := by decide +kernel
theorem dL_law_20 : decode cL_law 20 = .ok (.arraylength, 1) := by decide +kernel
theorem dL_law_21 : decode cL_law 21 = .ok (.iconst 5, 1) := by decide +kernel
theorem dL_law_22 : decode cL_law 22 = .ok (.isub, 1) := by decide +kernel
theorem dL_law_23 : decode cL_law 23 = .ok (.if_icmp .gt 906, 3) := by decide +kernel
theorem dL_law_26 : decode cL_law 26 = .ok (.aload_n 0, 1) := by decide +kernel
theorem dL_law_27 : decode cL_law 27 = .ok (.iload_n 3, 1) := by decide +kernel
theorem dL_law_28 : decode cL_law 28 = .ok (.iaload, 1) := by decide +kernel
theorem dL_law_29 : decode cL_law 29 = .ok (.bipush 31, 2) := by decide +kernel
theorem dL_law_31 : decode cL_law 31 = .ok (.iand, 1) := by decide +kernel
theorem dL_law_32 : decode cL_law 32 = .ok (.tableswitch 891 0 27 #[128, 151, 164, 177, 230, 253, 302, 335, 358, 381, 414, 447, 480, 503, 526, 549, 598, 611, 644, 677, 726, 749, 762, 785, 818, 841, 864, 877], 128) := by decide +kernel
theorem dL_law_160 : decode cL_law 160 = .ok (.aload_n 1, 1) := by decide +kernel
theorem dL_law_161 : decode cL_law 161 = .ok (.aload_n 0, 1) := by decide +kernel
theorem dL_law_162 : decode cL_law 162 = .ok (.iload_n 3, 1) := by decide +kernel
theorem dL_law_163 : decode cL_law 163 = .ok (.iconst 1, 1) := by decide +kernel
theorem dL_law_164 : decode cL_law 164 = .ok (.iadd, 1) := by decide +kernel
theorem dL_law_165 : decode cL_law 165 = .ok (.iaload, 1) := by decide +kernel
theorem dL_law_166 : decode cL_law 166 = .ok (.invokevirtual 13, 3) := by decide +kernel
theorem dL_law_169 : decode cL_law 169 = .ok (.aload_n 2, 1) := by decide +kernel
theorem dL_law_170 : decode cL_law 170 = .ok (.aload_n 0, 1) := by decide +kernel
theorem dL_law_171 : decode cL_law 171 = .ok (.iload_n 3, 1) := by decide +kernel
theorem dL_law_172 : decode cL_law 172 = .ok (.iconst 1, 1) := by decide +kernel
theorem dL_law_173 : decode cL_law 173 = .ok (.iadd, 1) := by decide +kernel
theorem dL_law_174 : decode cL_law 174 = .ok (.iaload, 1) := by decide +kernel
theorem dL_law_175 : decode cL_law 175 = .ok (.invokevirtual 17, 3) := by decide +kernel
theorem dL_law_178 : decode cL_law 178 = .ok (.if_icmp .eq 745, 3) := by decide +kernel
theorem dL_law_181 : decode cL_law 181 = .ok (.iconst 0, 1) := by decide +kernel
theorem dL_law_182 : decode cL_law 182 = .ok (.ireturn, 1) := by decide +kernel
theorem dL_law_183 : decode cL_law 183 = .ok (.aload_n 1, 1) := by decide +kernel
theorem dL_law_184 : decode cL_law 184 = .ok (.invokevirtual 18, 3) := by decide +kernel
theorem dL_law_187 : decode cL_law 187 = .ok (.aload_n 2, 1) := by decide +kernel
theorem dL_law_188 : decode cL_law 188 = .ok (.invokevirtual 22, 3) := by decide +kernel
theorem dL_law_191 : decode cL_law 191 = .ok (.if_icmp .eq 732, 3) := by decide +kernel
theorem dL_law_194 : decode cL_law 194 = .ok (.iconst 0, 1) := by decide +kernel
theorem dL_law_195 : decode cL_law 195 = .ok (.ireturn, 1) := by decide +kernel
theorem dL_law_196 : decode cL_law 196 = .ok (.aload_n 1, 1) := by decide +kernel
theorem dL_law_197 : decode cL_law 197 = .ok (.invokevirtual 23, 3) := by decide +kernel
theorem dL_law_200 : decode cL_law 200 = .ok (.aload_n 2, 1) := by decide +kernel
theorem dL_law_201 : decode cL_law 201 = .ok (.invokevirtual 26, 3) := by decide +kernel
theorem dL_law_204 : decode cL_law 204 = .ok (.if_icmp .eq 719, 3) := by decide +kernel
theorem dL_law_207 : decode cL_law 207 = .ok (.iconst 0, 1) := by decide +kernel
theorem dL_law_208 : decode cL_law 208 = .ok (.ireturn, 1) := by decide +kernel
theorem dL_law_209 : decode cL_law 209 = .ok (.aload_n 1, 1) := by decide +kernel
theorem dL_law_210 : decode cL_law 210 = .ok (.aload_n 0, 1) := by decide +kernel
theorem dL_law_211 : decode cL_law 211 = .ok (.iload_n 3, 1) := by decide +kernel
theorem dL_law_212 : decode cL_law 212 = .ok (.iconst 1, 1) := by decide +kernel
theorem dL_law_213 : decode cL_law 213 = .ok (.iadd, 1) := by decide +kernel
theorem dL_law_214 : decode cL_law 214 = .ok (.iaload, 1) := by decide +kernel
theorem dL_law_215 : decode cL_law 215 = .ok (.aload_n 0, 1) := by decide +kernel
theorem dL_law_216 : decode cL_law 216 = .ok (.iload_n 3, 1) := by decide +kernel
theorem dL_law_217 : decode cL_law 217 = .ok (.iconst 2, 1) := by decide +kernel
theorem dL_law_218 : decode cL_law 218 = .ok (.iadd, 1) := by decide +kernel
theorem dL_law_219 : decode cL_law 219 = .ok (.iaload, 1) := by decide +kernel
theorem dL_law_220 : decode cL_law 220 = .ok (.aload_n 0, 1) := by decide +kernel
theorem dL_law_221 : decode cL_law 221 = .ok (.iload_n 3, 1) := by decide +kernel
theorem dL_law_222 : decode cL_law 222 = .ok (.iconst 3, 1) := by decide +kernel
theorem dL_law_223 : decode cL_law 223 = .ok (.iadd, 1) := by decide +kernel
theorem dL_law_224 : decode cL_law 224 = .ok (.iaload, 1) := by decide +kernel
theorem dL_law_225 : decode cL_law 225 = .ok (.aload_n 0, 1) := by decide +kernel
theorem dL_law_226 : decode cL_law 226 = .ok (.iload_n 3, 1) := by decide +kernel
theorem dL_law_227 : decode cL_law 227 = .ok (.iconst 4, 1) := by decide +kernel
theorem dL_law_228 : decode cL_law 228 = .ok (.iadd, 1) := by decide +kernel
theorem dL_law_229 : decode cL_law 229 = .ok (.iaload, 1) := by decide +kernel
theorem dL_law_230 : decode cL_law 230 = .ok (.invokevirtual 27, 3) := by decide +kernel
theorem dL_law_233 : decode cL_law 233 = .ok (.aload_n 2, 1) := by decide +kernel
theorem dL_law_234 : decode cL_law 234 = .ok (.aload_n 0, 1) := by decide +kernel
theorem dL_law_235 : decode cL_law 235 = .ok (.iload_n 3, 1) := by decide +kernel
theorem dL_law_236 : decode cL_law 236 = .ok (.iconst 1, 1) := by decide +kernel
theorem dL_law_237 : decode cL_law 237 = .ok (.iadd, 1) := by decide +kernel
theorem dL_law_238 : decode cL_law 238 = .ok (.iaload, 1) := by decide +kernel
theorem dL_law_239 : decode cL_law 239 = .ok (.aload_n 0, 1) := by decide +kernel
theorem dL_law_240 : decode cL_law 240 = .ok (.iload_n 3, 1) := by decide +kernel
theorem dL_law_241 : decode cL_law 241 = .ok (.iconst 2, 1) := by decide +kernel
theorem dL_law_242 : decode cL_law 242 = .ok (.iadd, 1) := by decide +kernel
theorem dL_law_243 : decode cL_law 243 = .ok (.iaload, 1) := by decide +kernel
theorem dL_law_244 : decode cL_law 244 = .ok (.aload_n 0, 1) := by decide +kernel
theorem dL_law_245 : decode cL_law 245 = .ok (.iload_n 3, 1) := by decide +kernel
theorem dL_law_246 : decode cL_law 246 = .ok (.iconst 3, 1) := by decide +kernel
theorem dL_law_247 : decode cL_law 247 = .ok (.iadd, 1) := by decide +kernel
theorem dL_law_248 : decode cL_law 248 = .ok (.iaload, 1) := by decide +kernel
theorem dL_law_249 : decode cL_law 249 = .ok (.aload_n 0, 1) := by decide +kernel
theorem dL_law_250 : decode cL_law 250 = .ok (.iload_n 3, 1) := by decide +kernel
theorem dL_law_251 : decode cL_law 251 = .ok (.iconst 4, 1) := by decide +kernel
theorem dL_law_252 : decode cL_law 252 = .ok (.iadd, 1) := by decide +kernel
theorem dL_law_253 : decode cL_law 253 = .ok (.iaload, 1) := by decide +kernel
theorem dL_law_254 : decode cL_law 254 = .ok (.invokevirtual 31, 3) := by decide +kernel
theorem dL_law_257 : decode cL_law 257 = .ok (.if_icmp .eq 666, 3) := by decide +kernel
theorem dL_law_260 : decode cL_law 260 = .ok (.iconst 0, 1) := by decide +kernel
theorem dL_law_261 : decode cL_law 261 = .ok (.ireturn, 1) := by decide +kernel
theorem dL_law_262 : decode cL_law 262 = .ok (.aload_n 1, 1) := by decide +kernel
theorem dL_law_263 : decode cL_law 263 = .ok (.aload_n 0, 1) := by decide +kernel
theorem dL_law_264 : decode cL_law 264 = .ok (.iload_n 3, 1) := by decide +kernel
theorem dL_law_265 : decode cL_law 265 = .ok (.iconst 1, 1) := by decide +kernel
theorem dL_law_266 : decode cL_law 266 = .ok (.iadd, 1) := by decide +kernel
theorem dL_law_267 : decode cL_law 267 = .ok (.iaload, 1) := by decide +kernel
theorem dL_law_268 : decode cL_law 268 = .ok (.invokevirtual 32, 3) := by decide +kernel
theorem dL_law_271 : decode cL_law 271 = .ok (.aload_n 2, 1) := by decide +kernel
theorem dL_law_272 : decode cL_law 272 = .ok (.aload_n 0, 1) := by decide +kernel
theorem dL_law_273 : decode cL_law 273 = .ok (.iload_n 3, 1) := by decide +kernel
theorem dL_law_274 : decode cL_law 274 = .ok (.iconst 1, 1) := by decide +kernel
theorem dL_law_275 : decode cL_law 275 = .ok (.iadd, 1) := by decide +kernel
theorem dL_law_276 : decode cL_law 276 = .ok (.iaload, 1) := by decide +kernel
theorem dL_law_277 : decode cL_law 277 = .ok (.invokevirtual 35, 3) := by decide +kernel
theorem dL_law_280 : decode cL_law 280 = .ok (.if_icmp .eq 643, 3) := by decide +kernel
theorem dL_law_283 : decode cL_law 283 = .ok (.iconst 0, 1) := by decide +kernel
theorem dL_law_284 : decode cL_law 284 = .ok (.ireturn, 1) := by decide +kernel
theorem dL_law_285 : decode cL_law 285 = .ok (.aload_n 1, 1) := by decide +kernel
theorem dL_law_286 : decode cL_law 286 = .ok (.aload_n 0, 1) := by decide +kernel
theorem dL_law_287 : decode cL_law 287 = .ok (.iload_n 3, 1) := by decide +kernel
theorem dL_law_288 : decode cL_law 288 = .ok (.iconst 1, 1) := by decide +kernel
theorem dL_law_289 : decode cL_law 289 = .ok (.iadd, 1) := by decide +kernel
theorem dL_law_290 : decode cL_law 290 = .ok (.iaload, 1) := by decide +kernel
theorem dL_law_291 : decode cL_law 291 = .ok (.aload_n 0, 1) := by decide +kernel
theorem dL_law_292 : decode cL_law 292 = .ok (.iload_n 3, 1) := by decide +kernel
theorem dL_law_293 : decode cL_law 293 = .ok (.iconst 2, 1) := by decide +kernel
theorem dL_law_294 : decode cL_law 294 = .ok (.iadd, 1) := by decide +kernel
theorem dL_law_295 : decode cL_law 295 = .ok (.iaload, 1) := by decide +kernel
theorem dL_law_296 : decode cL_law 296 = .ok (.ifCond .eq 7, 3) := by decide +kernel
theorem dL_law_299 : decode cL_law 299 = .ok (.iconst 1, 1) := by decide +kernel
theorem dL_law_300 : decode cL_law 300 = .ok (.goto 4, 3) := by decide +kernel
theorem dL_law_303 : decode cL_law 303 = .ok (.iconst 0, 1) := by decide +kernel
theorem dL_law_304 : decode cL_law 304 = .ok (.invokevirtual 36, 3) := by decide +kernel
theorem dL_law_307 : decode cL_law 307 = .ok (.aload_n 2, 1) := by decide +kernel
theorem dL_law_308 : decode cL_law 308 = .ok (.aload_n 0, 1) := by decide +kernel
theorem dL_law_309 : decode cL_law 309 = .ok (.iload_n 3, 1) := by decide +kernel
theorem dL_law_310 : decode cL_law 310 = .ok (.iconst 1, 1) := by decide +kernel
theorem dL_law_311 : decode cL_law 311 = .ok (.iadd, 1) := by decide +kernel
theorem dL_law_312 : decode cL_law 312 = .ok (.iaload, 1) := by decide +kernel
theorem dL_law_313 : decode cL_law 313 = .ok (.aload_n 0, 1) := by decide +kernel
theorem dL_law_314 : decode cL_law 314 = .ok (.iload_n 3, 1) := by decide +kernel
theorem dL_law_315 : decode cL_law 315 = .ok (.iconst 2, 1) := by decide +kernel
theorem dL_law_316 : decode cL_law 316 = .ok (.iadd, 1) := by decide +kernel
theorem dL_law_317 : decode cL_law 317 = .ok (.iaload, 1) := by decide +kernel
theorem dL_law_318 : decode cL_law 318 = .ok (.ifCond .eq 7, 3) := by decide +kernel
theorem dL_law_321 : decode cL_law 321 = .ok (.iconst 1, 1) := by decide +kernel
theorem dL_law_322 : decode cL_law 322 = .ok (.goto 4, 3) := by decide +kernel
theorem dL_law_325 : decode cL_law 325 = .ok (.iconst 0, 1) := by decide +kernel
theorem dL_law_326 : decode cL_law 326 = .ok (.invokevirtual 40, 3) := by decide +kernel
theorem dL_law_329 : decode cL_law 329 = .ok (.if_icmp .eq 594, 3) := by decide +kernel
theorem dL_law_332 : decode cL_law 332 = .ok (.iconst 0, 1) := by decide +kernel
theorem dL_law_333 : decode cL_law 333 = .ok (.ireturn, 1) := by decide +kernel
theorem dL_law_334 : decode cL_law 334 = .ok (.aload_n 1, 1) := by decide +kernel
theorem dL_law_335 : decode cL_law 335 = .ok (.aload_n 0, 1) := by decide +kernel
theorem dL_law_336 : decode cL_law 336 = .ok (.iload_n 3, 1) := by decide +kernel
theorem dL_law_337 : decode cL_law 337 = .ok (.iconst 1, 1) := by decide +kernel
theorem dL_law_338 : decode cL_law 338 = .ok (.iadd, 1) := by decide +kernel
theorem dL_law_339 : decode cL_law 339 = .ok (.iaload, 1) := by decide +kernel
theorem dL_law_340 : decode cL_law 340 = .ok (.aload_n 0, 1) := by decide +kernel
theorem dL_law_341 : decode cL_law 341 = .ok (.iload_n 3, 1) := by decide +kernel
theorem dL_law_342 : decode cL_law 342 = .ok (.iconst 2, 1) := by decide +kernel
theorem dL_law_343 : decode cL_law 343 = .ok (.iadd, 1) := by decide +kernel
theorem dL_law_344 : decode cL_law 344 = .ok (.iaload, 1) := by decide +kernel
theorem dL_law_345 : decode cL_law 345 = .ok (.invokevirtual 41, 3) := by decide +kernel
theorem dL_law_348 : decode cL_law 348 = .ok (.aload_n 2, 1) := by decide +kernel
theorem dL_law_349 : decode cL_law 349 = .ok (.aload_n 0, 1) := by decide +kernel
theorem dL_law_350 : decode cL_law 350 = .ok (.iload_n 3, 1) := by decide +kernel
theorem dL_law_351 : decode cL_law 351 = .ok (.iconst 1, 1) := by decide +kernel
theorem dL_law_352 : decode cL_law 352 = .ok (.iadd, 1) := by decide +kernel
theorem dL_law_353 : decode cL_law 353 = .ok (.iaload, 1) := by decide +kernel
theorem dL_law_354 : decode cL_law 354 = .ok (.aload_n 0, 1) := by decide +kernel
theorem dL_law_355 : decode cL_law 355 = .ok (.iload_n 3, 1) := by decide +kernel
theorem dL_law_356 : decode cL_law 356 = .ok (.iconst 2, 1) := by decide +kernel
theorem dL_law_357 : decode cL_law 357 = .ok (.iadd, 1) := by decide +kernel
theorem dL_law_358 : decode cL_law 358 = .ok (.iaload, 1) := by decide +kernel
theorem dL_law_359 : decode cL_law 359 = .ok (.invokevirtual 45, 3) := by decide +kernel
theorem dL_law_362 : decode cL_law 362 = .ok (.if_icmp .eq 561, 3) := by decide +kernel
theorem dL_law_365 : decode cL_law 365 = .ok (.iconst 0, 1) := by decide +kernel
theorem dL_law_366 : decode cL_law 366 = .ok (.ireturn, 1) := by decide +kernel
theorem dL_law_367 : decode cL_law 367 = .ok (.aload_n 1, 1) := by decide +kernel
theorem dL_law_368 : decode cL_law 368 = .ok (.aload_n 0, 1) := by decide +kernel
theorem dL_law_369 : decode cL_law 369 = .ok (.iload_n 3, 1) := by decide +kernel
theorem dL_law_370 : decode cL_law 370 = .ok (.iconst 1, 1) := by decide +kernel
theorem dL_law_371 : decode cL_law 371 = .ok (.iadd, 1) := by decide +kernel
theorem dL_law_372 : decode cL_law 372 = .ok (.iaload, 1) := by decide +kernel
theorem dL_law_373 : decode cL_law 373 = .ok (.invokevirtual 46, 3) := by decide +kernel
theorem dL_law_376 : decode cL_law 376 = .ok (.aload_n 2, 1) := by decide +kernel
theorem dL_law_377 : decode cL_law 377 = .ok (.aload_n 0, 1) := by decide +kernel
theorem dL_law_378 : decode cL_law 378 = .ok (.iload_n 3, 1) := by decide +kernel
theorem dL_law_379 : decode cL_law 379 = .ok (.iconst 1, 1) := by decide +kernel
theorem dL_law_380 : decode cL_law 380 = .ok (.iadd, 1) := by decide +kernel
theorem dL_law_381 : decode cL_law 381 = .ok (.iaload, 1) := by decide +kernel
theorem dL_law_382 : decode cL_law 382 = .ok (.invokevirtual 49, 3) := by decide +kernel
theorem dL_law_385 : decode cL_law 385 = .ok (.if_icmp .eq 538, 3) := by decide +kernel
theorem dL_law_388 : decode cL_law 388 = .ok (.iconst 0, 1) := by decide +kernel
theorem dL_law_389 : decode cL_law 389 = .ok (.ireturn, 1) := by decide +kernel
theorem dL_law_390 : decode cL_law 390 = .ok (.aload_n 1, 1) := by decide +kernel
theorem dL_law_391 : decode cL_law 391 = .ok (.aload_n 0, 1) := by decide +kernel
theorem dL_law_392 : decode cL_law 392 = .ok (.iload_n 3, 1) := by decide +kernel
theorem dL_law_393 : decode cL_law 393 = .ok (.iconst 1, 1) := by decide +kernel
theorem dL_law_394 : decode cL_law 394 = .ok (.iadd, 1) := by decide +kernel
theorem dL_law_395 : decode cL_law 395 = .ok (.iaload, 1) := by decide +kernel
theorem dL_law_396 : decode cL_law 396 = .ok (.invokevirtual 50, 3) := by decide +kernel
theorem dL_law_399 : decode cL_law 399 = .ok (.aload_n 2, 1) := by decide +kernel
theorem dL_law_400 : decode cL_law 400 = .ok (.aload_n 0, 1) := by decide +kernel
theorem dL_law_401 : decode cL_law 401 = .ok (.iload_n 3, 1) := by decide +kernel
theorem dL_law_402 : decode cL_law 402 = .ok (.iconst 1, 1) := by decide +kernel
theorem dL_law_403 : decode cL_law 403 = .ok (.iadd, 1) := by decide +kernel
theorem dL_law_404 : decode cL_law 404 = .ok (.iaload, 1) := by decide +kernel
theorem dL_law_405 : decode cL_law 405 = .ok (.invokevirtual 53, 3) := by decide +kernel
theorem dL_law_408 : decode cL_law 408 = .ok (.if_icmp .eq 515, 3) := by decide +kernel
theorem dL_law_411 : decode cL_law 411 = .ok (.iconst 0, 1) := by decide +kernel
theorem dL_law_412 : decode cL_law 412 = .ok (.ireturn, 1) := by decide +kernel
theorem dL_law_413 : decode cL_law 413 = .ok (.aload_n 1, 1) := by decide +kernel
theorem dL_law_414 : decode cL_law 414 = .ok (.aload_n 0, 1) := by decide +kernel
theorem dL_law_415 : decode cL_law 415 = .ok (.iload_n 3, 1) := by decide +kernel
theorem dL_law_416 : decode cL_law 416 = .ok (.iconst 1, 1) := by decide +kernel
theorem dL_law_417 : decode cL_law 417 = .ok (.iadd, 1) := by decide +kernel
theorem dL_law_418 : decode cL_law 418 = .ok (.iaload, 1) := by decide +kernel
theorem dL_law_419 : decode cL_law 419 = .ok (.aload_n 0, 1) := by decide +kernel
theorem dL_law_420 : decode cL_law 420 = .ok (.iload_n 3, 1) := by decide +kernel
theorem dL_law_421 : decode cL_law 421 = .ok (.iconst 2, 1) := by decide +kernel
theorem dL_law_422 : decode cL_law 422 = .ok (.iadd, 1) := by decide +kernel
theorem dL_law_423 : decode cL_law 423 = .ok (.iaload, 1) := by decide +kernel
theorem dL_law_424 : decode cL_law 424 = .ok (.invokevirtual 54, 3) := by decide +kernel
theorem dL_law_427 : decode cL_law 427 = .ok (.aload_n 2, 1) := by decide +kernel
theorem dL_law_428 : decode cL_law 428 = .ok (.aload_n 0, 1) := by decide +kernel
theorem dL_law_429 : decode cL_law 429 = .ok (.iload_n 3, 1) := by decide +kernel
theorem dL_law_430 : decode cL_law 430 = .ok (.iconst 1, 1) := by decide +kernel
theorem dL_law_431 : decode cL_law 431 = .ok (.iadd, 1) := by decide +kernel
theorem dL_law_432 : decode cL_law 432 = .ok (.iaload, 1) := by decide +kernel
theorem dL_law_433 : decode cL_law 433 = .ok (.aload_n 0, 1) := by decide +kernel
theorem dL_law_434 : decode cL_law 434 = .ok (.iload_n 3, 1) := by decide +kernel
theorem dL_law_435 : decode cL_law 435 = .ok (.iconst 2, 1) := by decide +kernel
theorem dL_law_436 : decode cL_law 436 = .ok (.iadd, 1) := by decide +kernel
theorem dL_law_437 : decode cL_law 437 = .ok (.iaload, 1) := by decide +kernel
theorem dL_law_438 : decode cL_law 438 = .ok (.invokevirtual 57, 3) := by decide +kernel
theorem dL_law_441 : decode cL_law 441 = .ok (.if_icmp .eq 482, 3) := by decide +kernel
theorem dL_law_444 : decode cL_law 444 = .ok (.iconst 0, 1) := by decide +kernel
theorem dL_law_445 : decode cL_law 445 = .ok (.ireturn, 1) := by decide +kernel
theorem dL_law_446 : decode cL_law 446 = .ok (.aload_n 1, 1) := by decide +kernel
theorem dL_law_447 : decode cL_law 447 = .ok (.aload_n 0, 1) := by decide +kernel
theorem dL_law_448 : decode cL_law 448 = .ok (.iload_n 3, 1) := by decide +kernel
theorem dL_law_449 : decode cL_law 449 = .ok (.iconst 1, 1) := by decide +kernel
theorem dL_law_450 : decode cL_law 450 = .ok (.iadd, 1) := by decide +kernel
theorem dL_law_451 : decode cL_law 451 = .ok (.iaload, 1) := by decide +kernel
theorem dL_law_452 : decode cL_law 452 = .ok (.aload_n 0, 1) := by decide +kernel
theorem dL_law_453 : decode cL_law 453 = .ok (.iload_n 3, 1) := by decide +kernel
theorem dL_law_454 : decode cL_law 454 = .ok (.iconst 2, 1) := by decide +kernel
theorem dL_law_455 : decode cL_law 455 = .ok (.iadd, 1) := by decide +kernel
theorem dL_law_456 : decode cL_law 456 = .ok (.iaload, 1) := by decide +kernel
theorem dL_law_457 : decode cL_law 457 = .ok (.invokevirtual 58, 3) := by decide +kernel
theorem dL_law_460 : decode cL_law 460 = .ok (.aload_n 2, 1) := by decide +kernel
theorem dL_law_461 : decode cL_law 461 = .ok (.aload_n 0, 1) := by decide +kernel
theorem dL_law_462 : decode cL_law 462 = .ok (.iload_n 3, 1) := by decide +kernel
theorem dL_law_463 : decode cL_law 463 = .ok (.iconst 1, 1) := by decide +kernel
theorem dL_law_464 : decode cL_law 464 = .ok (.iadd, 1) := by decide +kernel
theorem dL_law_465 : decode cL_law 465 = .ok (.iaload, 1) := by decide +kernel
theorem dL_law_466 : decode cL_law 466 = .ok (.aload_n 0, 1) := by decide +kernel
theorem dL_law_467 : decode cL_law 467 = .ok (.iload_n 3, 1) := by decide +kernel
theorem dL_law_468 : decode cL_law 468 = .ok (.iconst 2, 1) := by decide +kernel
theorem dL_law_469 : decode cL_law 469 = .ok (.iadd, 1) := by decide +kernel
theorem dL_law_470 : decode cL_law 470 = .ok (.iaload, 1) := by decide +kernel
theorem dL_law_471 : decode cL_law 471 = .ok (.invokevirtual 61, 3) := by decide +kernel
theorem dL_law_474 : decode cL_law 474 = .ok (.if_icmp .eq 449, 3) := by decide +kernel
theorem dL_law_477 : decode cL_law 477 = .ok (.iconst 0, 1) := by decide +kernel
theorem dL_law_478 : decode cL_law 478 = .ok (.ireturn, 1) := by decide +kernel
theorem dL_law_479 : decode cL_law 479 = .ok (.aload_n 1, 1) := by decide +kernel
theorem dL_law_480 : decode cL_law 480 = .ok (.aload_n 0, 1) := by decide +kernel
theorem dL_law_481 : decode cL_law 481 = .ok (.iload_n 3, 1) := by decide +kernel
theorem dL_law_482 : decode cL_law 482 = .ok (.iconst 1, 1) := by decide +kernel
theorem dL_law_483 : decode cL_law 483 = .ok (.iadd, 1) := by decide +kernel
theorem dL_law_484 : decode cL_law 484 = .ok (.iaload, 1) := by decide +kernel
theorem dL_law_485 : decode cL_law 485 = .ok (.aload_n 0, 1) := by decide +kernel
theorem dL_law_486 : decode cL_law 486 = .ok (.iload_n 3, 1) := by decide +kernel
theorem dL_law_487 : decode cL_law 487 = .ok (.iconst 2, 1) := by decide +kernel
theorem dL_law_488 : decode cL_law 488 = .ok (.iadd, 1) := by decide +kernel
theorem dL_law_489 : decode cL_law 489 = .ok (.iaload, 1) := by decide +kernel
theorem dL_law_490 : decode cL_law 490 = .ok (.invokevirtual 62, 3) := by decide +kernel
theorem dL_law_493 : decode cL_law 493 = .ok (.aload_n 2, 1) := by decide +kernel
theorem dL_law_494 : decode cL_law 494 = .ok (.aload_n 0, 1) := by decide +kernel
theorem dL_law_495 : decode cL_law 495 = .ok (.iload_n 3, 1) := by decide +kernel
theorem dL_law_496 : decode cL_law 496 = .ok (.iconst 1, 1) := by decide +kernel
theorem dL_law_497 : decode cL_law 497 = .ok (.iadd, 1) := by decide +kernel
theorem dL_law_498 : decode cL_law 498 = .ok (.iaload, 1) := by decide +kernel
theorem dL_law_499 : decode cL_law 499 = .ok (.aload_n 0, 1) := by decide +kernel
theorem dL_law_500 : decode cL_law 500 = .ok (.iload_n 3, 1) := by decide +kernel
theorem dL_law_501 : decode cL_law 501 = .ok (.iconst 2, 1) := by decide +kernel
theorem dL_law_502 : decode cL_law 502 = .ok (.iadd, 1) := by decide +kernel
theorem dL_law_503 : decode cL_law 503 = .ok (.iaload, 1) := by decide +kernel
theorem dL_law_504 : decode cL_law 504 = .ok (.invokevirtual 65, 3) := by decide +kernel
theorem dL_law_507 : decode cL_law 507 = .ok (.if_icmp .eq 416, 3) := by decide +kernel
theorem dL_law_510 : decode cL_law 510 = .ok (.iconst 0, 1) := by decide +kernel
theorem dL_law_511 : decode cL_law 511 = .ok (.ireturn, 1) := by decide +kernel
theorem dL_law_512 : decode cL_law 512 = .ok (.aload_n 1, 1) := by decide +kernel
theorem dL_law_513 : decode cL_law 513 = .ok (.aload_n 0, 1) := by decide +kernel
theorem dL_law_514 : decode cL_law 514 = .ok (.iload_n 3, 1) := by decide +kernel
theorem dL_law_515 : decode cL_law 515 = .ok (.iconst 1, 1) := by decide +kernel
theorem dL_law_516 : decode cL_law 516 = .ok (.iadd, 1) := by decide +kernel
theorem dL_law_517 : decode cL_law 517 = .ok (.iaload, 1) := by decide +kernel
theorem dL_law_518 : decode cL_law 518 = .ok (.invokevirtual 66, 3) := by decide +kernel
theorem dL_law_521 : decode cL_law 521 = .ok (.aload_n 2, 1) := by decide +kernel
theorem dL_law_522 : decode cL_law 522 = .ok (.aload_n 0, 1) := by decide +kernel
theorem dL_law_523 : decode cL_law 523 = .ok (.iload_n 3, 1) := by decide +kernel
theorem dL_law_524 : decode cL_law 524 = .ok (.iconst 1, 1) := by decide +kernel
theorem dL_law_525 : decode cL_law 525 = .ok (.iadd, 1) := by decide +kernel
theorem dL_law_526 : decode cL_law 526 = .ok (.iaload, 1) := by decide +kernel
theorem dL_law_527 : decode cL_law 527 = .ok (.invokevirtual 69, 3) := by decide +kernel
theorem dL_law_530 : decode cL_law 530 = .ok (.if_icmp .eq 393, 3) := by decide +kernel
theorem dL_law_533 : decode cL_law 533 = .ok (.iconst 0, 1) := by decide +kernel
theorem dL_law_534 : decode cL_law 534 = .ok (.ireturn, 1) := by decide +kernel
theorem dL_law_535 : decode cL_law 535 = .ok (.aload_n 1, 1) := by decide +kernel
theorem dL_law_536 : decode cL_law 536 = .ok (.aload_n 0, 1) := by decide +kernel
theorem dL_law_537 : decode cL_law 537 = .ok (.iload_n 3, 1) := by decide +kernel
theorem dL_law_538 : decode cL_law 538 = .ok (.iconst 1, 1) := by decide +kernel
theorem dL_law_539 : decode cL_law 539 = .ok (.iadd, 1) := by decide +kernel
theorem dL_law_540 : decode cL_law 540 = .ok (.iaload, 1) := by decide +kernel
theorem dL_law_541 : decode cL_law 541 = .ok (.invokevirtual 70, 3) := by decide +kernel
theorem dL_law_544 : decode cL_law 544 = .ok (.aload_n 2, 1) := by decide +kernel
theorem dL_law_545 : decode cL_law 545 = .ok (.aload_n 0, 1) := by decide +kernel
theorem dL_law_546 : decode cL_law 546 = .ok (.iload_n 3, 1) := by decide +kernel
theorem dL_law_547 : decode cL_law 547 = .ok (.iconst 1, 1) := by decide +kernel
theorem dL_law_548 : decode cL_law 548 = .ok (.iadd, 1) := by decide +kernel
theorem dL_law_549 : decode cL_law 549 = .ok (.iaload, 1) := by decide +kernel
theorem dL_law_550 : decode cL_law 550 = .ok (.invokevirtual 73, 3) := by decide +kernel
theorem dL_law_553 : decode cL_law 553 = .ok (.if_icmp .eq 370, 3) := by decide +kernel
theorem dL_law_556 : decode cL_law 556 = .ok (.iconst 0, 1) := by decide +kernel
theorem dL_law_557 : decode cL_law 557 = .ok (.ireturn, 1) := by decide +kernel
theorem dL_law_558 : decode cL_law 558 = .ok (.aload_n 1, 1) := by decide +kernel
theorem dL_law_559 : decode cL_law 559 = .ok (.aload_n 0, 1) := by decide +kernel
theorem dL_law_560 : decode cL_law 560 = .ok (.iload_n 3, 1) := by decide +kernel
theorem dL_law_561 : decode cL_law 561 = .ok (.iconst 1, 1) := by decide +kernel
theorem dL_law_562 : decode cL_law 562 = .ok (.iadd, 1) := by decide +kernel
theorem dL_law_563 : decode cL_law 563 = .ok (.iaload, 1) := by decide +kernel
theorem dL_law_564 : decode cL_law 564 = .ok (.invokevirtual 74, 3) := by decide +kernel
theorem dL_law_567 : decode cL_law 567 = .ok (.aload_n 2, 1) := by decide +kernel
theorem dL_law_568 : decode cL_law 568 = .ok (.aload_n 0, 1) := by decide +kernel
theorem dL_law_569 : decode cL_law 569 = .ok (.iload_n 3, 1) := by decide +kernel
theorem dL_law_570 : decode cL_law 570 = .ok (.iconst 1, 1) := by decide +kernel
theorem dL_law_571 : decode cL_law 571 = .ok (.iadd, 1) := by decide +kernel
theorem dL_law_572 : decode cL_law 572 = .ok (.iaload, 1) := by decide +kernel
theorem dL_law_573 : decode cL_law 573 = .ok (.invokevirtual 77, 3) := by decide +kernel
theorem dL_law_576 : decode cL_law 576 = .ok (.if_icmp .eq 347, 3) := by decide +kernel
theorem dL_law_579 : decode cL_law 579 = .ok (.iconst 0, 1) := by decide +kernel
theorem dL_law_580 : decode cL_law 580 = .ok (.ireturn, 1) := by decide +kernel
theorem dL_law_581 : decode cL_law 581 = .ok (.aload_n 1, 1) := by decide +kernel
theorem dL_law_582 : decode cL_law 582 = .ok (.aload_n 0, 1) := by decide +kernel
theorem dL_law_583 : decode cL_law 583 = .ok (.iload_n 3, 1) := by decide +kernel
theorem dL_law_584 : decode cL_law 584 = .ok (.iconst 1, 1) := by decide +kernel
theorem dL_law_585 : decode cL_law 585 = .ok (.iadd, 1) := by decide +kernel
theorem dL_law_586 : decode cL_law 586 = .ok (.iaload, 1) := by decide +kernel
theorem dL_law_587 : decode cL_law 587 = .ok (.aload_n 0, 1) := by decide +kernel
theorem dL_law_588 : decode cL_law 588 = .ok (.iload_n 3, 1) := by decide +kernel
theorem dL_law_589 : decode cL_law 589 = .ok (.iconst 2, 1) := by decide +kernel
theorem dL_law_590 : decode cL_law 590 = .ok (.iadd, 1) := by decide +kernel
theorem dL_law_591 : decode cL_law 591 = .ok (.iaload, 1) := by decide +kernel
theorem dL_law_592 : decode cL_law 592 = .ok (.ifCond .eq 7, 3) := by decide +kernel
theorem dL_law_595 : decode cL_law 595 = .ok (.iconst 1, 1) := by decide +kernel
theorem dL_law_596 : decode cL_law 596 = .ok (.goto 4, 3) := by decide +kernel
theorem dL_law_599 : decode cL_law 599 = .ok (.iconst 0, 1) := by decide +kernel
theorem dL_law_600 : decode cL_law 600 = .ok (.invokevirtual 78, 3) := by decide +kernel
theorem dL_law_603 : decode cL_law 603 = .ok (.aload_n 2, 1) := by decide +kernel
theorem dL_law_604 : decode cL_law 604 = .ok (.aload_n 0, 1) := by decide +kernel
theorem dL_law_605 : decode cL_law 605 = .ok (.iload_n 3, 1) := by decide +kernel
theorem dL_law_606 : decode cL_law 606 = .ok (.iconst 1, 1) := by decide +kernel
theorem dL_law_607 : decode cL_law 607 = .ok (.iadd, 1) := by decide +kernel
theorem dL_law_608 : decode cL_law 608 = .ok (.iaload, 1) := by decide +kernel
theorem dL_law_609 : decode cL_law 609 = .ok (.aload_n 0, 1) := by decide +kernel
theorem dL_law_610 : decode cL_law 610 = .ok (.iload_n 3, 1) := by decide +kernel
theorem dL_law_611 : decode cL_law 611 = .ok (.iconst 2, 1) := by decide +kernel
theorem dL_law_612 : decode cL_law 612 = .ok (.iadd, 1) := by decide +kernel
theorem dL_law_613 : decode cL_law 613 = .ok (.iaload, 1) := by decide +kernel
theorem dL_law_614 : decode cL_law 614 = .ok (.ifCond .eq 7, 3) := by decide +kernel
theorem dL_law_617 : decode cL_law 617 = .ok (.iconst 1, 1) := by decide +kernel
theorem dL_law_618 : decode cL_law 618 = .ok (.goto 4, 3) := by decide +kernel
theorem dL_law_621 : decode cL_law 621 = .ok (.iconst 0, 1) := by decide +kernel
theorem dL_law_622 : decode cL_law 622 = .ok (.invokevirtual 81, 3) := by decide +kernel
theorem dL_law_625 : decode cL_law 625 = .ok (.if_icmp .eq 298, 3) := by decide +kernel
theorem dL_law_628 : decode cL_law 628 = .ok (.iconst 0, 1) := by decide +kernel
theorem dL_law_629 : decode cL_law 629 = .ok (.ireturn, 1) := by decide +kernel
theorem dL_law_630 : decode cL_law 630 = .ok (.aload_n 1, 1) := by decide +kernel
theorem dL_law_631 : decode cL_law 631 = .ok (.invokevirtual 82, 3) := by decide +kernel
theorem dL_law_634 : decode cL_law 634 = .ok (.aload_n 2, 1) := by decide +kernel
theorem dL_law_635 : decode cL_law 635 = .ok (.invokevirtual 85, 3) := by decide +kernel
theorem dL_law_638 : decode cL_law 638 = .ok (.if_icmp .eq 285, 3) := by decide +kernel
theorem dL_law_641 : decode cL_law 641 = .ok (.iconst 0, 1) := by decide +kernel
theorem dL_law_642 : decode cL_law 642 = .ok (.ireturn, 1) := by decide +kernel
theorem dL_law_643 : decode cL_law 643 = .ok (.aload_n 1, 1) := by decide +kernel
theorem dL_law_644 : decode cL_law 644 = .ok (.aload_n 0, 1) := by decide +kernel
theorem dL_law_645 : decode cL_law 645 = .ok (.iload_n 3, 1) := by decide +kernel
theorem dL_law_646 : decode cL_law 646 = .ok (.iconst 1, 1) := by decide +kernel
theorem dL_law_647 : decode cL_law 647 = .ok (.iadd, 1) := by decide +kernel
theorem dL_law_648 : decode cL_law 648 = .ok (.iaload, 1) := by decide +kernel
theorem dL_law_649 : decode cL_law 649 = .ok (.aload_n 0, 1) := by decide +kernel
theorem dL_law_650 : decode cL_law 650 = .ok (.iload_n 3, 1) := by decide +kernel
theorem dL_law_651 : decode cL_law 651 = .ok (.iconst 2, 1) := by decide +kernel
theorem dL_law_652 : decode cL_law 652 = .ok (.iadd, 1) := by decide +kernel
theorem dL_law_653 : decode cL_law 653 = .ok (.iaload, 1) := by decide +kernel
theorem dL_law_654 : decode cL_law 654 = .ok (.invokevirtual 86, 3) := by decide +kernel
theorem dL_law_657 : decode cL_law 657 = .ok (.aload_n 2, 1) := by decide +kernel
theorem dL_law_658 : decode cL_law 658 = .ok (.aload_n 0, 1) := by decide +kernel
theorem dL_law_659 : decode cL_law 659 = .ok (.iload_n 3, 1) := by decide +kernel
theorem dL_law_660 : decode cL_law 660 = .ok (.iconst 1, 1) := by decide +kernel
theorem dL_law_661 : decode cL_law 661 = .ok (.iadd, 1) := by decide +kernel
theorem dL_law_662 : decode cL_law 662 = .ok (.iaload, 1) := by decide +kernel
theorem dL_law_663 : decode cL_law 663 = .ok (.aload_n 0, 1) := by decide +kernel
theorem dL_law_664 : decode cL_law 664 = .ok (.iload_n 3, 1) := by decide +kernel
theorem dL_law_665 : decode cL_law 665 = .ok (.iconst 2, 1) := by decide +kernel
theorem dL_law_666 : decode cL_law 666 = .ok (.iadd, 1) := by decide +kernel
theorem dL_law_667 : decode cL_law 667 = .ok (.iaload, 1) := by decide +kernel
theorem dL_law_668 : decode cL_law 668 = .ok (.invokevirtual 89, 3) := by decide +kernel
theorem dL_law_671 : decode cL_law 671 = .ok (.if_icmp .eq 252, 3) := by decide +kernel
theorem dL_law_674 : decode cL_law 674 = .ok (.iconst 0, 1) := by decide +kernel
theorem dL_law_675 : decode cL_law 675 = .ok (.ireturn, 1) := by decide +kernel
theorem dL_law_676 : decode cL_law 676 = .ok (.aload_n 1, 1) := by decide +kernel
theorem dL_law_677 : decode cL_law 677 = .ok (.aload_n 0, 1) := by decide +kernel
theorem dL_law_678 : decode cL_law 678 = .ok (.iload_n 3, 1) := by decide +kernel
theorem dL_law_679 : decode cL_law 679 = .ok (.iconst 1, 1) := by decide +kernel
theorem dL_law_680 : decode cL_law 680 = .ok (.iadd, 1) := by decide +kernel
theorem dL_law_681 : decode cL_law 681 = .ok (.iaload, 1) := by decide +kernel
theorem dL_law_682 : decode cL_law 682 = .ok (.aload_n 0, 1) := by decide +kernel
theorem dL_law_683 : decode cL_law 683 = .ok (.iload_n 3, 1) := by decide +kernel
theorem dL_law_684 : decode cL_law 684 = .ok (.iconst 2, 1) := by decide +kernel
theorem dL_law_685 : decode cL_law 685 = .ok (.iadd, 1) := by decide +kernel
theorem dL_law_686 : decode cL_law 686 = .ok (.iaload, 1) := by decide +kernel
theorem dL_law_687 : decode cL_law 687 = .ok (.invokevirtual 90, 3) := by decide +kernel
theorem dL_law_690 : decode cL_law 690 = .ok (.aload_n 2, 1) := by decide +kernel
theorem dL_law_691 : decode cL_law 691 = .ok (.aload_n 0, 1) := by decide +kernel
theorem dL_law_692 : decode cL_law 692 = .ok (.iload_n 3, 1) := by decide +kernel
theorem dL_law_693 : decode cL_law 693 = .ok (.iconst 1, 1) := by decide +kernel
theorem dL_law_694 : decode cL_law 694 = .ok (.iadd, 1) := by decide +kernel
theorem dL_law_695 : decode cL_law 695 = .ok (.iaload, 1) := by decide +kernel
theorem dL_law_696 : decode cL_law 696 = .ok (.aload_n 0, 1) := by decide +kernel
theorem dL_law_697 : decode cL_law 697 = .ok (.iload_n 3, 1) := by decide +kernel
theorem dL_law_698 : decode cL_law 698 = .ok (.iconst 2, 1) := by decide +kernel
theorem dL_law_699 : decode cL_law 699 = .ok (.iadd, 1) := by decide +kernel
theorem dL_law_700 : decode cL_law 700 = .ok (.iaload, 1) := by decide +kernel
theorem dL_law_701 : decode cL_law 701 = .ok (.invokevirtual 93, 3) := by decide +kernel
theorem dL_law_704 : decode cL_law 704 = .ok (.if_icmp .eq 219, 3) := by decide +kernel
theorem dL_law_707 : decode cL_law 707 = .ok (.iconst 0, 1) := by decide +kernel
theorem dL_law_708 : decode cL_law 708 = .ok (.ireturn, 1) := by decide +kernel
theorem dL_law_709 : decode cL_law 709 = .ok (.aload_n 1, 1) := by decide +kernel
theorem dL_law_710 : decode cL_law 710 = .ok (.aload_n 0, 1) := by decide +kernel
theorem dL_law_711 : decode cL_law 711 = .ok (.iload_n 3, 1) := by decide +kernel
theorem dL_law_712 : decode cL_law 712 = .ok (.iconst 1, 1) := by decide +kernel
theorem dL_law_713 : decode cL_law 713 = .ok (.iadd, 1) := by decide +kernel
theorem dL_law_714 : decode cL_law 714 = .ok (.iaload, 1) := by decide +kernel
theorem dL_law_715 : decode cL_law 715 = .ok (.aload_n 0, 1) := by decide +kernel
theorem dL_law_716 : decode cL_law 716 = .ok (.iload_n 3, 1) := by decide +kernel
theorem dL_law_717 : decode cL_law 717 = .ok (.iconst 2, 1) := by decide +kernel
theorem dL_law_718 : decode cL_law 718 = .ok (.iadd, 1) := by decide +kernel
theorem dL_law_719 : decode cL_law 719 = .ok (.iaload, 1) := by decide +kernel
theorem dL_law_720 : decode cL_law 720 = .ok (.ifCond .eq 7, 3) := by decide +kernel
theorem dL_law_723 : decode cL_law 723 = .ok (.iconst 1, 1) := by decide +kernel
theorem dL_law_724 : decode cL_law 724 = .ok (.goto 4, 3) := by decide +kernel
theorem dL_law_727 : decode cL_law 727 = .ok (.iconst 0, 1) := by decide +kernel
theorem dL_law_728 : decode cL_law 728 = .ok (.invokevirtual 94, 3) := by decide +kernel
theorem dL_law_731 : decode cL_law 731 = .ok (.aload_n 2, 1) := by decide +kernel
theorem dL_law_732 : decode cL_law 732 = .ok (.aload_n 0, 1) := by decide +kernel
theorem dL_law_733 : decode cL_law 733 = .ok (.iload_n 3, 1) := by decide +kernel
theorem dL_law_734 : decode cL_law 734 = .ok (.iconst 1, 1) := by decide +kernel
theorem dL_law_735 : decode cL_law 735 = .ok (.iadd, 1) := by decide +kernel
theorem dL_law_736 : decode cL_law 736 = .ok (.iaload, 1) := by decide +kernel
theorem dL_law_737 : decode cL_law 737 = .ok (.aload_n 0, 1) := by decide +kernel
theorem dL_law_738 : decode cL_law 738 = .ok (.iload_n 3, 1) := by decide +kernel
theorem dL_law_739 : decode cL_law 739 = .ok (.iconst 2, 1) := by decide +kernel
theorem dL_law_740 : decode cL_law 740 = .ok (.iadd, 1) := by decide +kernel
theorem dL_law_741 : decode cL_law 741 = .ok (.iaload, 1) := by decide +kernel
theorem dL_law_742 : decode cL_law 742 = .ok (.ifCond .eq 7, 3) := by decide +kernel
theorem dL_law_745 : decode cL_law 745 = .ok (.iconst 1, 1) := by decide +kernel
theorem dL_law_746 : decode cL_law 746 = .ok (.goto 4, 3) := by decide +kernel
theorem dL_law_749 : decode cL_law 749 = .ok (.iconst 0, 1) := by decide +kernel
theorem dL_law_750 : decode cL_law 750 = .ok (.invokevirtual 97, 3) := by decide +kernel
theorem dL_law_753 : decode cL_law 753 = .ok (.if_icmp .eq 170, 3) := by decide +kernel
theorem dL_law_756 : decode cL_law 756 = .ok (.iconst 0, 1) := by decide +kernel
theorem dL_law_757 : decode cL_law 757 = .ok (.ireturn, 1) := by decide +kernel
theorem dL_law_758 : decode cL_law 758 = .ok (.aload_n 1, 1) := by decide +kernel
theorem dL_law_759 : decode cL_law 759 = .ok (.aload_n 0, 1) := by decide +kernel
theorem dL_law_760 : decode cL_law 760 = .ok (.iload_n 3, 1) := by decide +kernel
theorem dL_law_761 : decode cL_law 761 = .ok (.iconst 1, 1) := by decide +kernel
theorem dL_law_762 : decode cL_law 762 = .ok (.iadd, 1) := by decide +kernel
theorem dL_law_763 : decode cL_law 763 = .ok (.iaload, 1) := by decide +kernel
theorem dL_law_764 : decode cL_law 764 = .ok (.invokevirtual 98, 3) := by decide +kernel
theorem dL_law_767 : decode cL_law 767 = .ok (.aload_n 2, 1) := by decide +kernel
theorem dL_law_768 : decode cL_law 768 = .ok (.aload_n 0, 1) := by decide +kernel
theorem dL_law_769 : decode cL_law 769 = .ok (.iload_n 3, 1) := by decide +kernel
theorem dL_law_770 : decode cL_law 770 = .ok (.iconst 1, 1) := by decide +kernel
theorem dL_law_771 : decode cL_law 771 = .ok (.iadd, 1) := by decide +kernel
theorem dL_law_772 : decode cL_law 772 = .ok (.iaload, 1) := by decide +kernel
theorem dL_law_773 : decode cL_law 773 = .ok (.invokevirtual 101, 3) := by decide +kernel
theorem dL_law_776 : decode cL_law 776 = .ok (.if_icmp .eq 147, 3) := by decide +kernel
theorem dL_law_779 : decode cL_law 779 = .ok (.iconst 0, 1) := by decide +kernel
theorem dL_law_780 : decode cL_law 780 = .ok (.ireturn, 1) := by decide +kernel
theorem dL_law_781 : decode cL_law 781 = .ok (.aload_n 1, 1) := by decide +kernel
theorem dL_law_782 : decode cL_law 782 = .ok (.invokevirtual 102, 3) := by decide +kernel
theorem dL_law_785 : decode cL_law 785 = .ok (.aload_n 2, 1) := by decide +kernel
theorem dL_law_786 : decode cL_law 786 = .ok (.invokevirtual 105, 3) := by decide +kernel
theorem dL_law_789 : decode cL_law 789 = .ok (.if_icmp .eq 134, 3) := by decide +kernel
theorem dL_law_792 : decode cL_law 792 = .ok (.iconst 0, 1) := by decide +kernel
theorem dL_law_793 : decode cL_law 793 = .ok (.ireturn, 1) := by decide +kernel
theorem dL_law_794 : decode cL_law 794 = .ok (.aload_n 1, 1) := by decide +kernel
theorem dL_law_795 : decode cL_law 795 = .ok (.aload_n 0, 1) := by decide +kernel
theorem dL_law_796 : decode cL_law 796 = .ok (.iload_n 3, 1) := by decide +kernel
theorem dL_law_797 : decode cL_law 797 = .ok (.iconst 1, 1) := by decide +kernel
theorem dL_law_798 : decode cL_law 798 = .ok (.iadd, 1) := by decide +kernel
theorem dL_law_799 : decode cL_law 799 = .ok (.iaload, 1) := by decide +kernel
theorem dL_law_800 : decode cL_law 800 = .ok (.invokevirtual 106, 3) := by decide +kernel
theorem dL_law_803 : decode cL_law 803 = .ok (.aload_n 2, 1) := by decide +kernel
theorem dL_law_804 : decode cL_law 804 = .ok (.aload_n 0, 1) := by decide +kernel
theorem dL_law_805 : decode cL_law 805 = .ok (.iload_n 3, 1) := by decide +kernel
theorem dL_law_806 : decode cL_law 806 = .ok (.iconst 1, 1) := by decide +kernel
theorem dL_law_807 : decode cL_law 807 = .ok (.iadd, 1) := by decide +kernel
theorem dL_law_808 : decode cL_law 808 = .ok (.iaload, 1) := by decide +kernel
theorem dL_law_809 : decode cL_law 809 = .ok (.invokevirtual 109, 3) := by decide +kernel
theorem dL_law_812 : decode cL_law 812 = .ok (.if_icmp .eq 111, 3) := by decide +kernel
theorem dL_law_815 : decode cL_law 815 = .ok (.iconst 0, 1) := by decide +kernel
theorem dL_law_816 : decode cL_law 816 = .ok (.ireturn, 1) := by decide +kernel
theorem dL_law_817 : decode cL_law 817 = .ok (.aload_n 1, 1) := by decide +kernel
theorem dL_law_818 : decode cL_law 818 = .ok (.aload_n 0, 1) := by decide +kernel
theorem dL_law_819 : decode cL_law 819 = .ok (.iload_n 3, 1) := by decide +kernel
theorem dL_law_820 : decode cL_law 820 = .ok (.iconst 1, 1) := by decide +kernel
theorem dL_law_821 : decode cL_law 821 = .ok (.iadd, 1) := by decide +kernel
theorem dL_law_822 : decode cL_law 822 = .ok (.iaload, 1) := by decide +kernel
theorem dL_law_823 : decode cL_law 823 = .ok (.aload_n 0, 1) := by decide +kernel
theorem dL_law_824 : decode cL_law 824 = .ok (.iload_n 3, 1) := by decide +kernel
theorem dL_law_825 : decode cL_law 825 = .ok (.iconst 2, 1) := by decide +kernel
theorem dL_law_826 : decode cL_law 826 = .ok (.iadd, 1) := by decide +kernel
theorem dL_law_827 : decode cL_law 827 = .ok (.iaload, 1) := by decide +kernel
theorem dL_law_828 : decode cL_law 828 = .ok (.invokevirtual 110, 3) := by decide +kernel
theorem dL_law_831 : decode cL_law 831 = .ok (.aload_n 2, 1) := by decide +kernel
theorem dL_law_832 : decode cL_law 832 = .ok (.aload_n 0, 1) := by decide +kernel
theorem dL_law_833 : decode cL_law 833 = .ok (.iload_n 3, 1) := by decide +kernel
theorem dL_law_834 : decode cL_law 834 = .ok (.iconst 1, 1) := by decide +kernel
theorem dL_law_835 : decode cL_law 835 = .ok (.iadd, 1) := by decide +kernel
theorem dL_law_836 : decode cL_law 836 = .ok (.iaload, 1) := by decide +kernel
theorem dL_law_837 : decode cL_law 837 = .ok (.aload_n 0, 1) := by decide +kernel
theorem dL_law_838 : decode cL_law 838 = .ok (.iload_n 3, 1) := by decide +kernel
theorem dL_law_839 : decode cL_law 839 = .ok (.iconst 2, 1) := by decide +kernel
theorem dL_law_840 : decode cL_law 840 = .ok (.iadd, 1) := by decide +kernel
theorem dL_law_841 : decode cL_law 841 = .ok (.iaload, 1) := by decide +kernel
theorem dL_law_842 : decode cL_law 842 = .ok (.invokevirtual 113, 3) := by decide +kernel
theorem dL_law_845 : decode cL_law 845 = .ok (.if_icmp .eq 78, 3) := by decide +kernel
theorem dL_law_848 : decode cL_law 848 = .ok (.iconst 0, 1) := by decide +kernel
theorem dL_law_849 : decode cL_law 849 = .ok (.ireturn, 1) := by decide +kernel
theorem dL_law_850 : decode cL_law 850 = .ok (.aload_n 1, 1) := by decide +kernel
theorem dL_law_851 : decode cL_law 851 = .ok (.aload_n 0, 1) := by decide +kernel
theorem dL_law_852 : decode cL_law 852 = .ok (.iload_n 3, 1) := by decide +kernel
theorem dL_law_853 : decode cL_law 853 = .ok (.iconst 1, 1) := by decide +kernel
theorem dL_law_854 : decode cL_law 854 = .ok (.iadd, 1) := by decide +kernel
theorem dL_law_855 : decode cL_law 855 = .ok (.iaload, 1) := by decide +kernel
theorem dL_law_856 : decode cL_law 856 = .ok (.invokevirtual 114, 3) := by decide +kernel
theorem dL_law_859 : decode cL_law 859 = .ok (.aload_n 2, 1) := by decide +kernel
theorem dL_law_860 : decode cL_law 860 = .ok (.aload_n 0, 1) := by decide +kernel
theorem dL_law_861 : decode cL_law 861 = .ok (.iload_n 3, 1) := by decide +kernel
theorem dL_law_862 : decode cL_law 862 = .ok (.iconst 1, 1) := by decide +kernel
theorem dL_law_863 : decode cL_law 863 = .ok (.iadd, 1) := by decide +kernel
theorem dL_law_864 : decode cL_law 864 = .ok (.iaload, 1) := by decide +kernel
theorem dL_law_865 : decode cL_law 865 = .ok (.invokevirtual 117, 3) := by decide +kernel
theorem dL_law_868 : decode cL_law 868 = .ok (.if_icmp .eq 55, 3) := by decide +kernel
theorem dL_law_871 : decode cL_law 871 = .ok (.iconst 0, 1) := by decide +kernel
theorem dL_law_872 : decode cL_law 872 = .ok (.ireturn, 1) := by decide +kernel
theorem dL_law_873 : decode cL_law 873 = .ok (.aload_n 1, 1) := by decide +kernel
theorem dL_law_874 : decode cL_law 874 = .ok (.aload_n 0, 1) := by decide +kernel
theorem dL_law_875 : decode cL_law 875 = .ok (.iload_n 3, 1) := by decide +kernel
theorem dL_law_876 : decode cL_law 876 = .ok (.iconst 1, 1) := by decide +kernel
theorem dL_law_877 : decode cL_law 877 = .ok (.iadd, 1) := by decide +kernel
theorem dL_law_878 : decode cL_law 878 = .ok (.iaload, 1) := by decide +kernel
theorem dL_law_879 : decode cL_law 879 = .ok (.invokevirtual 118, 3) := by decide +kernel
theorem dL_law_882 : decode cL_law 882 = .ok (.aload_n 2, 1) := by decide +kernel
theorem dL_law_883 : decode cL_law 883 = .ok (.aload_n 0, 1) := by decide +kernel
theorem dL_law_884 : decode cL_law 884 = .ok (.iload_n 3, 1) := by decide +kernel
theorem dL_law_885 : decode cL_law 885 = .ok (.iconst 1, 1) := by decide +kernel
theorem dL_law_886 : decode cL_law 886 = .ok (.iadd, 1) := by decide +kernel
theorem dL_law_887 : decode cL_law 887 = .ok (.iaload, 1) := by decide +kernel
theorem dL_law_888 : decode cL_law 888 = .ok (.invokevirtual 121, 3) := by decide +kernel
theorem dL_law_891 : decode cL_law 891 = .ok (.if_icmp .eq 32, 3) := by decide +kernel
theorem dL_law_894 : decode cL_law 894 = .ok (.iconst 0, 1) := by decide +kernel
theorem dL_law_895 : decode cL_law 895 = .ok (.ireturn, 1) := by decide +kernel
theorem dL_law_896 : decode cL_law 896 = .ok (.aload_n 1, 1) := by decide +kernel
theorem dL_law_897 : decode cL_law 897 = .ok (.invokevirtual 122, 3) := by decide +kernel
theorem dL_law_900 : decode cL_law 900 = .ok (.aload_n 2, 1) := by decide +kernel
theorem dL_law_901 : decode cL_law 901 = .ok (.invokevirtual 125, 3) := by decide +kernel
theorem dL_law_904 : decode cL_law 904 = .ok (.if_icmp .eq 19, 3) := by decide +kernel
theorem dL_law_907 : decode cL_law 907 = .ok (.iconst 0, 1) := by decide +kernel
theorem dL_law_908 : decode cL_law 908 = .ok (.ireturn, 1) := by decide +kernel
theorem dL_law_909 : decode cL_law 909 = .ok (.aload_n 1, 1) := by decide +kernel
theorem dL_law_910 : decode cL_law 910 = .ok (.invokevirtual 126, 3) := by decide +kernel
theorem dL_law_913 : decode cL_law 913 = .ok (.aload_n 2, 1) := by decide +kernel
theorem dL_law_914 : decode cL_law 914 = .ok (.invokevirtual 130, 3) := by decide +kernel
theorem dL_law_917 : decode cL_law 917 = .ok (.lcmp, 1) := by decide +kernel
theorem dL_law_918 : decode cL_law 918 = .ok (.ifCond .eq 5, 3) := by decide +kernel
theorem dL_law_921 : decode cL_law 921 = .ok (.iconst 0, 1) := by decide +kernel
theorem dL_law_922 : decode cL_law 922 = .ok (.ireturn, 1) := by decide +kernel
theorem dL_law_923 : decode cL_law 923 = .ok (.iinc 3 5, 3) := by decide +kernel
theorem dL_law_926 : decode cL_law 926 = .ok (.goto (-908), 3) := by decide +kernel
theorem dL_law_929 : decode cL_law 929 = .ok (.iconst 1, 1) := by decide +kernel
theorem dL_law_930 : decode cL_law 930 = .ok (.ireturn, 1) := by decide +kernel
