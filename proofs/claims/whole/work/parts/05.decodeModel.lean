theorem dX7_init_0 : decode cX7_init 0 = .ok (.aload_n 0, 1) := by decide +kernel
theorem dX7_init_1 : decode cX7_init 1 = .ok (.invokespecial 1, 3) := by decide +kernel
theorem dX7_init_4 : decode cX7_init 4 = .ok (.aload_n 0, 1) := by decide +kernel
theorem dX7_init_5 : decode cX7_init 5 = .ok (.sipush 267, 3) := by decide +kernel
theorem dX7_init_8 : decode cX7_init 8 = .ok (.newarray .int, 2) := by decide +kernel
theorem dX7_init_10 : decode cX7_init 10 = .ok (.putfield 7, 3) := by decide +kernel
theorem dX7_init_13 : decode cX7_init 13 = .ok (.aload_n 0, 1) := by decide +kernel
theorem dX7_init_14 : decode cX7_init 14 = .ok (.sipush 267, 3) := by decide +kernel
theorem dX7_init_17 : decode cX7_init 17 = .ok (.newarray .int, 2) := by decide +kernel
theorem dX7_init_19 : decode cX7_init 19 = .ok (.putfield 13, 3) := by decide +kernel
theorem dX7_init_22 : decode cX7_init 22 = .ok (.aload_n 0, 1) := by decide +kernel
theorem dX7_init_23 : decode cX7_init 23 = .ok (.sipush 1602, 3) := by decide +kernel
theorem dX7_init_26 : decode cX7_init 26 = .ok (.newarray .int, 2) := by decide +kernel
theorem dX7_init_28 : decode cX7_init 28 = .ok (.putfield 16, 3) := by decide +kernel
theorem dX7_init_31 : decode cX7_init 31 = .ok (.aload_n 0, 1) := by decide +kernel
theorem dX7_init_32 : decode cX7_init 32 = .ok (.sipush 534, 3) := by decide +kernel
theorem dX7_init_35 : decode cX7_init 35 = .ok (.newarray .int, 2) := by decide +kernel
theorem dX7_init_37 : decode cX7_init 37 = .ok (.putfield 19, 3) := by decide +kernel
theorem dX7_init_40 : decode cX7_init 40 = .ok (.aload_n 0, 1) := by decide +kernel
theorem dX7_init_41 : decode cX7_init 41 = .ok (.iconst 2, 1) := by decide +kernel
theorem dX7_init_42 : decode cX7_init 42 = .ok (.newarray .boolean, 2) := by decide +kernel
theorem dX7_init_44 : decode cX7_init 44 = .ok (.putfield 22, 3) := by decide +kernel
theorem dX7_init_47 : decode cX7_init 47 = .ok (.aload_n 0, 1) := by decide +kernel
theorem dX7_init_48 : decode cX7_init 48 = .ok (.bipush 80, 2) := by decide +kernel
theorem dX7_init_50 : decode cX7_init 50 = .ok (.newarray .int, 2) := by decide +kernel
theorem dX7_init_52 : decode cX7_init 52 = .ok (.putfield 26, 3) := by decide +kernel
theorem dX7_init_55 : decode cX7_init 55 = .ok (.aload_n 0, 1) := by decide +kernel
theorem dX7_init_56 : decode cX7_init 56 = .ok (.sipush 240, 3) := by decide +kernel
theorem dX7_init_59 : decode cX7_init 59 = .ok (.newarray .int, 2) := by decide +kernel
theorem dX7_init_61 : decode cX7_init 61 = .ok (.putfield 29, 3) := by decide +kernel
theorem dX7_init_64 : decode cX7_init 64 = .ok (.aload_n 0, 1) := by decide +kernel
theorem dX7_init_65 : decode cX7_init 65 = .ok (.iconst 0, 1) := by decide +kernel
theorem dX7_init_66 : decode cX7_init 66 = .ok (.putfield 32, 3) := by decide +kernel
theorem dX7_init_69 : decode cX7_init 69 = .ok (.iconst 0, 1) := by decide +kernel
theorem dX7_init_70 : decode cX7_init 70 = .ok (.istore_n 1, 1) := by decide +kernel
theorem dX7_init_71 : decode cX7_init 71 = .ok (.iload_n 1, 1) := by decide +kernel
theorem dX7_init_72 : decode cX7_init 72 = .ok (.bipush 8, 2) := by decide +kernel
theorem dX7_init_74 : decode cX7_init 74 = .ok (.if_icmp .ge 18, 3) := by decide +kernel
theorem dX7_init_77 : decode cX7_init 77 = .ok (.aload_n 0, 1) := by decide +kernel
theorem dX7_init_78 : decode cX7_init 78 = .ok (.getfield 7, 3) := by decide +kernel
theorem dX7_init_81 : decode cX7_init 81 = .ok (.iconst 3, 1) := by decide +kernel
theorem dX7_init_82 : decode cX7_init 82 = .ok (.iload_n 1, 1) := by decide +kernel
theorem dX7_init_83 : decode cX7_init 83 = .ok (.iadd, 1) := by decide +kernel
theorem dX7_init_84 : decode cX7_init 84 = .ok (.iconst 1, 1) := by decide +kernel
theorem dX7_init_85 : decode cX7_init 85 = .ok (.iastore, 1) := by decide +kernel
theorem dX7_init_86 : decode cX7_init 86 = .ok (.iinc 1 1, 3) := by decide +kernel
theorem dX7_init_89 : decode cX7_init 89 = .ok (.goto (-18), 3) := by decide +kernel
theorem dX7_init_92 : decode cX7_init 92 = .ok (.return_, 1) := by decide +kernel
theorem dX7_in_0 : decode cX7_in 0 = .ok (.iload_n 0, 1) := by decide +kernel
theorem dX7_in_1 : decode cX7_in 1 = .ok (.iload_n 1, 1) := by decide +kernel
theorem dX7_in_2 : decode cX7_in 2 = .ok (.if_icmp .lt 12, 3) := by decide +kernel
theorem dX7_in_5 : decode cX7_in 5 = .ok (.iload_n 0, 1) := by decide +kernel
theorem dX7_in_6 : decode cX7_in 6 = .ok (.iload_n 2, 1) := by decide +kernel
theorem dX7_in_7 : decode cX7_in 7 = .ok (.if_icmp .gt 7, 3) := by decide +kernel
theorem dX7_in_10 : decode cX7_in 10 = .ok (.iconst 1, 1) := by decide +kernel
theorem dX7_in_11 : decode cX7_in 11 = .ok (.goto 4, 3) := by decide +kernel
theorem dX7_in_14 : decode cX7_in 14 = .ok (.iconst 0, 1) := by decide +kernel
theorem dX7_in_15 : decode cX7_in 15 = .ok (.ireturn, 1) := by decide +kernel
theorem dX7_of_0 : decode cX7_of 0 = .ok (.aload_n 0, 1) := by decide +kernel
theorem dX7_of_1 : decode cX7_of 1 = .ok (.getfield 7, 3) := by decide +kernel
theorem dX7_of_4 : decode cX7_of 4 = .ok (.bipush 57, 2) := by decide +kernel
theorem dX7_of_6 : decode cX7_of 6 = .ok (.bipush 7, 2) := by decide +kernel
theorem dX7_of_8 : decode cX7_of 8 = .ok (.iload_n 1, 1) := by decide +kernel
theorem dX7_of_9 : decode cX7_of 9 = .ok (.imul, 1) := by decide +kernel
theorem dX7_of_10 : decode cX7_of 10 = .ok (.iadd, 1) := by decide +kernel
theorem dX7_of_11 : decode cX7_of 11 = .ok (.iload_n 2, 1) := by decide +kernel
theorem dX7_of_12 : decode cX7_of 12 = .ok (.iadd, 1) := by decide +kernel
theorem dX7_of_13 : decode cX7_of 13 = .ok (.iaload, 1) := by decide +kernel
theorem dX7_of_14 : decode cX7_of 14 = .ok (.ireturn, 1) := by decide +kernel
theorem dX7_lay_0 : decode cX7_lay 0 = .ok (.aload_n 0, 1) := by decide +kernel
theorem dX7_lay_1 : decode cX7_lay 1 = .ok (.getfield 7, 3) := by decide +kernel
theorem dX7_lay_4 : decode cX7_lay 4 = .ok (.bipush 57, 2) := by decide +kernel
theorem dX7_lay_6 : decode cX7_lay 6 = .ok (.bipush 7, 2) := by decide +kernel
theorem dX7_lay_8 : decode cX7_lay 8 = .ok (.iload_n 1, 1) := by decide +kernel
theorem dX7_lay_9 : decode cX7_lay 9 = .ok (.imul, 1) := by decide +kernel
theorem dX7_lay_10 : decode cX7_lay 10 = .ok (.iadd, 1) := by decide +kernel
theorem dX7_lay_11 : decode cX7_lay 11 = .ok (.iload_n 2, 1) := by decide +kernel
theorem dX7_lay_12 : decode cX7_lay 12 = .ok (.iadd, 1) := by decide +kernel
theorem dX7_lay_13 : decode cX7_lay 13 = .ok (.iload_n 3, 1) := by decide +kernel
theorem dX7_lay_14 : decode cX7_lay 14 = .ok (.iastore, 1) := by decide +kernel
theorem dX7_lay_15 : decode cX7_lay 15 = .ok (.return_, 1) := by decide +kernel
theorem dX7_fixer0_0 : decode cX7_fixer0 0 = .ok (.aload_n 0, 1) := by decide +kernel
theorem dX7_fixer0_1 : decode cX7_fixer0 1 = .ok (.getfield 7, 3) := by decide +kernel
theorem dX7_fixer0_4 : decode cX7_fixer0 4 = .ok (.bipush 27, 2) := by decide +kernel
theorem dX7_fixer0_6 : decode cX7_fixer0 6 = .ok (.bipush 6, 2) := by decide +kernel
theorem dX7_fixer0_8 : decode cX7_fixer0 8 = .ok (.iload_n 1, 1) := by decide +kernel
theorem dX7_fixer0_9 : decode cX7_fixer0 9 = .ok (.imul, 1) := by decide +kernel
theorem dX7_fixer0_10 : decode cX7_fixer0 10 = .ok (.iadd, 1) := by decide +kernel
theorem dX7_fixer0_11 : decode cX7_fixer0 11 = .ok (.iload_n 2, 1) := by decide +kernel
theorem dX7_fixer0_12 : decode cX7_fixer0 12 = .ok (.iadd, 1) := by decide +kernel
theorem dX7_fixer0_13 : decode cX7_fixer0 13 = .ok (.iaload, 1) := by decide +kernel
theorem dX7_fixer0_14 : decode cX7_fixer0 14 = .ok (.ireturn, 1) := by decide +kernel
theorem dX7_more_0 : decode cX7_more 0 = .ok (.aload_n 0, 1) := by decide +kernel
theorem dX7_more_1 : decode cX7_more 1 = .ok (.getfield 7, 3) := by decide +kernel
theorem dX7_more_4 : decode cX7_more 4 = .ok (.bipush 27, 2) := by decide +kernel
theorem dX7_more_6 : decode cX7_more 6 = .ok (.bipush 6, 2) := by decide +kernel
theorem dX7_more_8 : decode cX7_more 8 = .ok (.iload_n 1, 1) := by decide +kernel
theorem dX7_more_9 : decode cX7_more 9 = .ok (.imul, 1) := by decide +kernel
theorem dX7_more_10 : decode cX7_more 10 = .ok (.iadd, 1) := by decide +kernel
theorem dX7_more_11 : decode cX7_more 11 = .ok (.iload_n 2, 1) := by decide +kernel
theorem dX7_more_12 : decode cX7_more 12 = .ok (.iadd, 1) := by decide +kernel
theorem dX7_more_13 : decode cX7_more 13 = .ok (.dup2, 1) := by decide +kernel
theorem dX7_more_14 : decode cX7_more 14 = .ok (.iaload, 1) := by decide +kernel
theorem dX7_more_15 : decode cX7_more 15 = .ok (.iconst 1, 1) := by decide +kernel
theorem dX7_more_16 : decode cX7_more 16 = .ok (.iadd, 1) := by decide +kernel
theorem dX7_more_17 : decode cX7_more 17 = .ok (.iastore, 1) := by decide +kernel
theorem dX7_more_18 : decode cX7_more 18 = .ok (.return_, 1) := by decide +kernel
theorem dX7_records_0 : decode cX7_records 0 = .ok (.aload_n 0, 1) := by decide +kernel
theorem dX7_records_1 : decode cX7_records 1 = .ok (.getfield 36, 3) := by decide +kernel
theorem dX7_records_4 : decode cX7_records 4 = .ok (.bipush 6, 2) := by decide +kernel
theorem dX7_records_6 : decode cX7_records 6 = .ok (.if_icmp .ne 44, 3) := by decide +kernel
theorem dX7_records_9 : decode cX7_records 9 = .ok (.iconst 0, 1) := by decide +kernel
theorem dX7_records_10 : decode cX7_records 10 = .ok (.istore_n 1, 1) := by decide +kernel
theorem dX7_records_11 : decode cX7_records 11 = .ok (.iload_n 1, 1) := by decide +kernel
theorem dX7_records_12 : decode cX7_records 12 = .ok (.sipush 1335, 3) := by decide +kernel
theorem dX7_records_15 : decode cX7_records 15 = .ok (.if_icmp .ge 25, 3) := by decide +kernel
theorem dX7_records_18 : decode cX7_records 18 = .ok (.aload_n 0, 1) := by decide +kernel
theorem dX7_records_19 : decode cX7_records 19 = .ok (.getfield 16, 3) := by decide +kernel
theorem dX7_records_22 : decode cX7_records 22 = .ok (.iload_n 1, 1) := by decide +kernel
theorem dX7_records_23 : decode cX7_records 23 = .ok (.aload_n 0, 1) := by decide +kernel
theorem dX7_records_24 : decode cX7_records 24 = .ok (.getfield 16, 3) := by decide +kernel
theorem dX7_records_27 : decode cX7_records 27 = .ok (.iload_n 1, 1) := by decide +kernel
theorem dX7_records_28 : decode cX7_records 28 = .ok (.sipush 267, 3) := by decide +kernel
theorem dX7_records_31 : decode cX7_records 31 = .ok (.iadd, 1) := by decide +kernel
theorem dX7_records_32 : decode cX7_records 32 = .ok (.iaload, 1) := by decide +kernel
theorem dX7_records_33 : decode cX7_records 33 = .ok (.iastore, 1) := by decide +kernel
theorem dX7_records_34 : decode cX7_records 34 = .ok (.iinc 1 1, 3) := by decide +kernel
theorem dX7_records_37 : decode cX7_records 37 = .ok (.goto (-26), 3) := by decide +kernel
theorem dX7_records_40 : decode cX7_records 40 = .ok (.aload_n 0, 1) := by decide +kernel
theorem dX7_records_41 : decode cX7_records 41 = .ok (.dup, 1) := by decide +kernel
theorem dX7_records_42 : decode cX7_records 42 = .ok (.getfield 36, 3) := by decide +kernel
theorem dX7_records_45 : decode cX7_records 45 = .ok (.iconst 1, 1) := by decide +kernel
theorem dX7_records_46 : decode cX7_records 46 = .ok (.isub, 1) := by decide +kernel
theorem dX7_records_47 : decode cX7_records 47 = .ok (.putfield 36, 3) := by decide +kernel
theorem dX7_records_50 : decode cX7_records 50 = .ok (.iconst 0, 1) := by decide +kernel
theorem dX7_records_51 : decode cX7_records 51 = .ok (.istore_n 1, 1) := by decide +kernel
theorem dX7_records_52 : decode cX7_records 52 = .ok (.iload_n 1, 1) := by decide +kernel
theorem dX7_records_53 : decode cX7_records 53 = .ok (.sipush 267, 3) := by decide +kernel
theorem dX7_records_56 : decode cX7_records 56 = .ok (.if_icmp .ge 30, 3) := by decide +kernel
theorem dX7_records_59 : decode cX7_records 59 = .ok (.aload_n 0, 1) := by decide +kernel
theorem dX7_records_60 : decode cX7_records 60 = .ok (.getfield 16, 3) := by decide +kernel
theorem dX7_records_63 : decode cX7_records 63 = .ok (.sipush 267, 3) := by decide +kernel
theorem dX7_records_66 : decode cX7_records 66 = .ok (.aload_n 0, 1) := by decide +kernel
theorem dX7_records_67 : decode cX7_records 67 = .ok (.getfield 36, 3) := by decide +kernel
theorem dX7_records_70 : decode cX7_records 70 = .ok (.imul, 1) := by decide +kernel
theorem dX7_records_71 : decode cX7_records 71 = .ok (.iload_n 1, 1) := by decide +kernel
theorem dX7_records_72 : decode cX7_records 72 = .ok (.iadd, 1) := by decide +kernel
theorem dX7_records_73 : decode cX7_records 73 = .ok (.aload_n 0, 1) := by decide +kernel
theorem dX7_records_74 : decode cX7_records 74 = .ok (.getfield 7, 3) := by decide +kernel
theorem dX7_records_77 : decode cX7_records 77 = .ok (.iload_n 1, 1) := by decide +kernel
theorem dX7_records_78 : decode cX7_records 78 = .ok (.iaload, 1) := by decide +kernel
theorem dX7_records_79 : decode cX7_records 79 = .ok (.iastore, 1) := by decide +kernel
theorem dX7_records_80 : decode cX7_records 80 = .ok (.iinc 1 1, 3) := by decide +kernel
theorem dX7_records_83 : decode cX7_records 83 = .ok (.goto (-31), 3) := by decide +kernel
theorem dX7_records_86 : decode cX7_records 86 = .ok (.aload_n 0, 1) := by decide +kernel
theorem dX7_records_87 : decode cX7_records 87 = .ok (.dup, 1) := by decide +kernel
theorem dX7_records_88 : decode cX7_records 88 = .ok (.getfield 36, 3) := by decide +kernel
theorem dX7_records_91 : decode cX7_records 91 = .ok (.iconst 1, 1) := by decide +kernel
theorem dX7_records_92 : decode cX7_records 92 = .ok (.iadd, 1) := by decide +kernel
theorem dX7_records_93 : decode cX7_records 93 = .ok (.putfield 36, 3) := by decide +kernel
theorem dX7_records_96 : decode cX7_records 96 = .ok (.return_, 1) := by decide +kernel
theorem dX7_putAside_0 : decode cX7_putAside 0 = .ok (.iconst 0, 1) := by decide +kernel
theorem dX7_putAside_1 : decode cX7_putAside 1 = .ok (.istore_n 1, 1) := by decide +kernel
theorem dX7_putAside_2 : decode cX7_putAside 2 = .ok (.iload_n 1, 1) := by decide +kernel
theorem dX7_putAside_3 : decode cX7_putAside 3 = .ok (.sipush 267, 3) := by decide +kernel
theorem dX7_putAside_6 : decode cX7_putAside 6 = .ok (.if_icmp .ge 21, 3) := by decide +kernel
theorem dX7_putAside_9 : decode cX7_putAside 9 = .ok (.aload_n 0, 1) := by decide +kernel
theorem dX7_putAside_10 : decode cX7_putAside 10 = .ok (.getfield 13, 3) := by decide +kernel
theorem dX7_putAside_13 : decode cX7_putAside 13 = .ok (.iload_n 1, 1) := by decide +kernel
theorem dX7_putAside_14 : decode cX7_putAside 14 = .ok (.aload_n 0, 1) := by decide +kernel
theorem dX7_putAside_15 : decode cX7_putAside 15 = .ok (.getfield 7, 3) := by decide +kernel
theorem dX7_putAside_18 : decode cX7_putAside 18 = .ok (.iload_n 1, 1) := by decide +kernel
theorem dX7_putAside_19 : decode cX7_putAside 19 = .ok (.iaload, 1) := by decide +kernel
theorem dX7_putAside_20 : decode cX7_putAside 20 = .ok (.iastore, 1) := by decide +kernel
theorem dX7_putAside_21 : decode cX7_putAside 21 = .ok (.iinc 1 1, 3) := by decide +kernel
theorem dX7_putAside_24 : decode cX7_putAside 24 = .ok (.goto (-22), 3) := by decide +kernel
theorem dX7_putAside_27 : decode cX7_putAside 27 = .ok (.return_, 1) := by decide +kernel
theorem dX7_takeBack_0 : decode cX7_takeBack 0 = .ok (.iconst 0, 1) := by decide +kernel
theorem dX7_takeBack_1 : decode cX7_takeBack 1 = .ok (.istore_n 1, 1) := by decide +kernel
theorem dX7_takeBack_2 : decode cX7_takeBack 2 = .ok (.iload_n 1, 1) := by decide +kernel
theorem dX7_takeBack_3 : decode cX7_takeBack 3 = .ok (.sipush 267, 3) := by decide +kernel
theorem dX7_takeBack_6 : decode cX7_takeBack 6 = .ok (.if_icmp .ge 21, 3) := by decide +kernel
theorem dX7_takeBack_9 : decode cX7_takeBack 9 = .ok (.aload_n 0, 1) := by decide +kernel
theorem dX7_takeBack_10 : decode cX7_takeBack 10 = .ok (.getfield 7, 3) := by decide +kernel
theorem dX7_takeBack_13 : decode cX7_takeBack 13 = .ok (.iload_n 1, 1) := by decide +kernel
theorem dX7_takeBack_14 : decode cX7_takeBack 14 = .ok (.aload_n 0, 1) := by decide +kernel
theorem dX7_takeBack_15 : decode cX7_takeBack 15 = .ok (.getfield 13, 3) := by decide +kernel
theorem dX7_takeBack_18 : decode cX7_takeBack 18 = .ok (.iload_n 1, 1) := by decide +kernel
theorem dX7_takeBack_19 : decode cX7_takeBack 19 = .ok (.iaload, 1) := by decide +kernel
theorem dX7_takeBack_20 : decode cX7_takeBack 20 = .ok (.iastore, 1) := by decide +kernel
theorem dX7_takeBack_21 : decode cX7_takeBack 21 = .ok (.iinc 1 1, 3) := by decide +kernel
theorem dX7_takeBack_24 : decode cX7_takeBack 24 = .ok (.goto (-22), 3) := by decide +kernel
theorem dX7_takeBack_27 : decode cX7_takeBack 27 = .ok (.return_, 1) := by decide +kernel
theorem dX7_partsOf_0 : decode cX7_partsOf 0 = .ok (.iconst 1, 1) := by decide +kernel
theorem dX7_partsOf_1 : decode cX7_partsOf 1 = .ok (.iload_n 0, 1) := by decide +kernel
theorem dX7_partsOf_2 : decode cX7_partsOf 2 = .ok (.ishl, 1) := by decide +kernel
theorem dX7_partsOf_3 : decode cX7_partsOf 3 = .ok (.iconst 1, 1) := by decide +kernel
theorem dX7_partsOf_4 : decode cX7_partsOf 4 = .ok (.iload_n 0, 1) := by decide +kernel
theorem dX7_partsOf_5 : decode cX7_partsOf 5 = .ok (.iconst 1, 1) := by decide +kernel
theorem dX7_partsOf_6 : decode cX7_partsOf 6 = .ok (.iadd, 1) := by decide +kernel
theorem dX7_partsOf_7 : decode cX7_partsOf 7 = .ok (.bipush 8, 2) := by decide +kernel
theorem dX7_partsOf_9 : decode cX7_partsOf 9 = .ok (.irem, 1) := by decide +kernel
theorem dX7_partsOf_10 : decode cX7_partsOf 10 = .ok (.ishl, 1) := by decide +kernel
theorem dX7_partsOf_11 : decode cX7_partsOf 11 = .ok (.ior, 1) := by decide +kernel
theorem dX7_partsOf_12 : decode cX7_partsOf 12 = .ok (.iconst 1, 1) := by decide +kernel
theorem dX7_partsOf_13 : decode cX7_partsOf 13 = .ok (.iload_n 0, 1) := by decide +kernel
theorem dX7_partsOf_14 : decode cX7_partsOf 14 = .ok (.iconst 2, 1) := by decide +kernel
theorem dX7_partsOf_15 : decode cX7_partsOf 15 = .ok (.iadd, 1) := by decide +kernel
theorem dX7_partsOf_16 : decode cX7_partsOf 16 = .ok (.bipush 8, 2) := by decide +kernel
theorem dX7_partsOf_18 : decode cX7_partsOf 18 = .ok (.irem, 1) := by decide +kernel
theorem dX7_partsOf_19 : decode cX7_partsOf 19 = .ok (.ishl, 1) := by decide +kernel
theorem dX7_partsOf_20 : decode cX7_partsOf 20 = .ok (.ior, 1) := by decide +kernel
theorem dX7_partsOf_21 : decode cX7_partsOf 21 = .ok (.ireturn, 1) := by decide +kernel
theorem dX7_lowest_0 : decode cX7_lowest 0 = .ok (.iconst 0, 1) := by decide +kernel
theorem dX7_lowest_1 : decode cX7_lowest 1 = .ok (.istore_n 1, 1) := by decide +kernel
theorem dX7_lowest_2 : decode cX7_lowest 2 = .ok (.iload_n 0, 1) := by decide +kernel
theorem dX7_lowest_3 : decode cX7_lowest 3 = .ok (.iload_n 1, 1) := by decide +kernel
theorem dX7_lowest_4 : decode cX7_lowest 4 = .ok (.ishr, 1) := by decide +kernel
theorem dX7_lowest_5 : decode cX7_lowest 5 = .ok (.iconst 1, 1) := by decide +kernel
theorem dX7_lowest_6 : decode cX7_lowest 6 = .ok (.iand, 1) := by decide +kernel
theorem dX7_lowest_7 : decode cX7_lowest 7 = .ok (.ifCond .ne 9, 3) := by decide +kernel
theorem dX7_lowest_10 : decode cX7_lowest 10 = .ok (.iinc 1 1, 3) := by decide +kernel
theorem dX7_lowest_13 : decode cX7_lowest 13 = .ok (.goto (-11), 3) := by decide +kernel
theorem dX7_lowest_16 : decode cX7_lowest 16 = .ok (.iload_n 1, 1) := by decide +kernel
theorem dX7_lowest_17 : decode cX7_lowest 17 = .ok (.ireturn, 1) := by decide +kernel
theorem dX7_strips_0 : decode cX7_strips 0 = .ok (.aload_n 0, 1) := by decide +kernel
theorem dX7_strips_1 : decode cX7_strips 1 = .ok (.iload_n 1, 1) := by decide +kernel
theorem dX7_strips_2 : decode cX7_strips 2 = .ok (.iconst 0, 1) := by decide +kernel
theorem dX7_strips_3 : decode cX7_strips 3 = .ok (.invokevirtual 39, 3) := by decide +kernel
theorem dX7_strips_6 : decode cX7_strips 6 = .ok (.invokestatic 43, 3) := by decide +kernel
theorem dX7_strips_9 : decode cX7_strips 9 = .ok (.aload_n 0, 1) := by decide +kernel
theorem dX7_strips_10 : decode cX7_strips 10 = .ok (.iload_n 1, 1) := by decide +kernel
theorem dX7_strips_11 : decode cX7_strips 11 = .ok (.iconst 1, 1) := by decide +kernel
theorem dX7_strips_12 : decode cX7_strips 12 = .ok (.invokevirtual 39, 3) := by decide +kernel
theorem dX7_strips_15 : decode cX7_strips 15 = .ok (.iconst (-1), 1) := by decide +kernel
theorem dX7_strips_16 : decode cX7_strips 16 = .ok (.ixor, 1) := by decide +kernel
theorem dX7_strips_17 : decode cX7_strips 17 = .ok (.iand, 1) := by decide +kernel
theorem dX7_strips_18 : decode cX7_strips 18 = .ok (.istore_n 2, 1) := by decide +kernel
theorem dX7_strips_19 : decode cX7_strips 19 = .ok (.iconst 0, 1) := by decide +kernel
theorem dX7_strips_20 : decode cX7_strips 20 = .ok (.istore_n 3, 1) := by decide +kernel
theorem dX7_strips_21 : decode cX7_strips 21 = .ok (.iconst 0, 1) := by decide +kernel
theorem dX7_strips_22 : decode cX7_strips 22 = .ok (.istore 4, 2) := by decide +kernel
theorem dX7_strips_24 : decode cX7_strips 24 = .ok (.iload 4, 2) := by decide +kernel
theorem dX7_strips_26 : decode cX7_strips 26 = .ok (.bipush 8, 2) := by decide +kernel
theorem dX7_strips_28 : decode cX7_strips 28 = .ok (.if_icmp .ge 89, 3) := by decide +kernel
theorem dX7_strips_31 : decode cX7_strips 31 = .ok (.iload_n 2, 1) := by decide +kernel
theorem dX7_strips_32 : decode cX7_strips 32 = .ok (.iload 4, 2) := by decide +kernel
theorem dX7_strips_34 : decode cX7_strips 34 = .ok (.ishr, 1) := by decide +kernel
theorem dX7_strips_35 : decode cX7_strips 35 = .ok (.iconst 1, 1) := by decide +kernel
theorem dX7_strips_36 : decode cX7_strips 36 = .ok (.iand, 1) := by decide +kernel
theorem dX7_strips_37 : decode cX7_strips 37 = .ok (.iconst 1, 1) := by decide +kernel
theorem dX7_strips_38 : decode cX7_strips 38 = .ok (.if_icmp .ne 73, 3) := by decide +kernel
theorem dX7_strips_41 : decode cX7_strips 41 = .ok (.aload_n 0, 1) := by decide +kernel
theorem dX7_strips_42 : decode cX7_strips 42 = .ok (.getfield 7, 3) := by decide +kernel
theorem dX7_strips_45 : decode cX7_strips 45 = .ok (.iconst 3, 1) := by decide +kernel
theorem dX7_strips_46 : decode cX7_strips 46 = .ok (.iload 4, 2) := by decide +kernel
theorem dX7_strips_48 : decode cX7_strips 48 = .ok (.iadd, 1) := by decide +kernel
theorem dX7_strips_49 : decode cX7_strips 49 = .ok (.iaload, 1) := by decide +kernel
theorem dX7_strips_50 : decode cX7_strips 50 = .ok (.bipush 99, 2) := by decide +kernel
theorem dX7_strips_52 : decode cX7_strips 52 = .ok (.if_icmp .ge 7, 3) := by decide +kernel
theorem dX7_strips_55 : decode cX7_strips 55 = .ok (.iconst 1, 1) := by decide +kernel
theorem dX7_strips_56 : decode cX7_strips 56 = .ok (.goto 4, 3) := by decide +kernel
theorem dX7_strips_59 : decode cX7_strips 59 = .ok (.iconst 0, 1) := by decide +kernel
theorem dX7_strips_60 : decode cX7_strips 60 = .ok (.istore 5, 2) := by decide +kernel
theorem dX7_strips_62 : decode cX7_strips 62 = .ok (.aload_n 0, 1) := by decide +kernel
theorem dX7_strips_63 : decode cX7_strips 63 = .ok (.getfield 7, 3) := by decide +kernel
theorem dX7_strips_66 : decode cX7_strips 66 = .ok (.bipush 19, 2) := by decide +kernel
theorem dX7_strips_68 : decode cX7_strips 68 = .ok (.iload 4, 2) := by decide +kernel
theorem dX7_strips_70 : decode cX7_strips 70 = .ok (.iadd, 1) := by decide +kernel
theorem dX7_strips_71 : decode cX7_strips 71 = .ok (.dup2, 1) := by decide +kernel
theorem dX7_strips_72 : decode cX7_strips 72 = .ok (.iaload, 1) := by decide +kernel
theorem dX7_strips_73 : decode cX7_strips 73 = .ok (.iconst 1, 1) := by decide +kernel
theorem dX7_strips_74 : decode cX7_strips 74 = .ok (.iadd, 1) := by decide +kernel
theorem dX7_strips_75 : decode cX7_strips 75 = .ok (.iastore, 1) := by decide +kernel
theorem dX7_strips_76 : decode cX7_strips 76 = .ok (.aload_n 0, 1) := by decide +kernel
theorem dX7_strips_77 : decode cX7_strips 77 = .ok (.getfield 7, 3) := by decide +kernel
theorem dX7_strips_80 : decode cX7_strips 80 = .ok (.iconst 3, 1) := by decide +kernel
theorem dX7_strips_81 : decode cX7_strips 81 = .ok (.iload 4, 2) := by decide +kernel
theorem dX7_strips_83 : decode cX7_strips 83 = .ok (.iadd, 1) := by decide +kernel
theorem dX7_strips_84 : decode cX7_strips 84 = .ok (.dup2, 1) := by decide +kernel
theorem dX7_strips_85 : decode cX7_strips 85 = .ok (.iaload, 1) := by decide +kernel
theorem dX7_strips_86 : decode cX7_strips 86 = .ok (.iload 5, 2) := by decide +kernel
theorem dX7_strips_88 : decode cX7_strips 88 = .ok (.ifCond .eq 7, 3) := by decide +kernel
theorem dX7_strips_91 : decode cX7_strips 91 = .ok (.iconst 1, 1) := by decide +kernel
theorem dX7_strips_92 : decode cX7_strips 92 = .ok (.goto 4, 3) := by decide +kernel
theorem dX7_strips_95 : decode cX7_strips 95 = .ok (.iconst 0, 1) := by decide +kernel
theorem dX7_strips_96 : decode cX7_strips 96 = .ok (.iadd, 1) := by decide +kernel
theorem dX7_strips_97 : decode cX7_strips 97 = .ok (.iastore, 1) := by decide +kernel
theorem dX7_strips_98 : decode cX7_strips 98 = .ok (.iload_n 3, 1) := by decide +kernel
theorem dX7_strips_99 : decode cX7_strips 99 = .ok (.iload 5, 2) := by decide +kernel
theorem dX7_strips_101 : decode cX7_strips 101 = .ok (.ifCond .eq 7, 3) := by decide +kernel
theorem dX7_strips_104 : decode cX7_strips 104 = .ok (.iconst 1, 1) := by decide +kernel
theorem dX7_strips_105 : decode cX7_strips 105 = .ok (.goto 4, 3) := by decide +kernel
theorem dX7_strips_108 : decode cX7_strips 108 = .ok (.iconst 0, 1) := by decide +kernel
theorem dX7_strips_109 : decode cX7_strips 109 = .ok (.iadd, 1) := by decide +kernel
theorem dX7_strips_110 : decode cX7_strips 110 = .ok (.istore_n 3, 1) := by decide +kernel
theorem dX7_strips_111 : decode cX7_strips 111 = .ok (.iinc 4 1, 3) := by decide +kernel
theorem dX7_strips_114 : decode cX7_strips 114 = .ok (.goto (-90), 3) := by decide +kernel
theorem dX7_strips_117 : decode cX7_strips 117 = .ok (.aload_n 0, 1) := by decide +kernel
theorem dX7_strips_118 : decode cX7_strips 118 = .ok (.iload_n 1, 1) := by decide +kernel
theorem dX7_strips_119 : decode cX7_strips 119 = .ok (.iconst 4, 1) := by decide +kernel
theorem dX7_strips_120 : decode cX7_strips 120 = .ok (.iconst 3, 1) := by decide +kernel
theorem dX7_strips_121 : decode cX7_strips 121 = .ok (.invokevirtual 47, 3) := by decide +kernel
theorem dX7_strips_124 : decode cX7_strips 124 = .ok (.iload_n 3, 1) := by decide +kernel
theorem dX7_strips_125 : decode cX7_strips 125 = .ok (.ireturn, 1) := by decide +kernel
theorem dX7_nextFor_0 : decode cX7_nextFor 0 = .ok (.bipush (-6), 2) := by decide +kernel
theorem dX7_nextFor_2 : decode cX7_nextFor 2 = .ok (.istore_n 2, 1) := by decide +kernel
theorem dX7_nextFor_3 : decode cX7_nextFor 3 = .ok (.iconst 0, 1) := by decide +kernel
theorem dX7_nextFor_4 : decode cX7_nextFor 4 = .ok (.istore_n 3, 1) := by decide +kernel
theorem dX7_nextFor_5 : decode cX7_nextFor 5 = .ok (.iload_n 3, 1) := by decide +kernel
theorem dX7_nextFor_6 : decode cX7_nextFor 6 = .ok (.aload_n 0, 1) := by decide +kernel
theorem dX7_nextFor_7 : decode cX7_nextFor 7 = .ok (.getfield 7, 3) := by decide +kernel
theorem dX7_nextFor_10 : decode cX7_nextFor 10 = .ok (.iconst 1, 1) := by decide +kernel
theorem dX7_nextFor_11 : decode cX7_nextFor 11 = .ok (.iaload, 1) := by decide +kernel
theorem dX7_nextFor_12 : decode cX7_nextFor 12 = .ok (.if_icmp .ge 71, 3) := by decide +kernel
theorem dX7_nextFor_15 : decode cX7_nextFor 15 = .ok (.aload_n 0, 1) := by decide +kernel
theorem dX7_nextFor_16 : decode cX7_nextFor 16 = .ok (.iload_n 3, 1) := by decide +kernel
theorem dX7_nextFor_17 : decode cX7_nextFor 17 = .ok (.iconst 4, 1) := by decide +kernel
theorem dX7_nextFor_18 : decode cX7_nextFor 18 = .ok (.invokevirtual 39, 3) := by decide +kernel
theorem dX7_nextFor_21 : decode cX7_nextFor 21 = .ok (.ifCond .ne 21, 3) := by decide +kernel
theorem dX7_nextFor_24 : decode cX7_nextFor 24 = .ok (.iload_n 1, 1) := by decide +kernel
theorem dX7_nextFor_25 : decode cX7_nextFor 25 = .ok (.aload_n 0, 1) := by decide +kernel
theorem dX7_nextFor_26 : decode cX7_nextFor 26 = .ok (.iload_n 3, 1) := by decide +kernel
theorem dX7_nextFor_27 : decode cX7_nextFor 27 = .ok (.iconst 0, 1) := by decide +kernel
theorem dX7_nextFor_28 : decode cX7_nextFor 28 = .ok (.invokevirtual 39, 3) := by decide +kernel
theorem dX7_nextFor_31 : decode cX7_nextFor 31 = .ok (.ishr, 1) := by decide +kernel
theorem dX7_nextFor_32 : decode cX7_nextFor 32 = .ok (.iconst 1, 1) := by decide +kernel
theorem dX7_nextFor_33 : decode cX7_nextFor 33 = .ok (.iand, 1) := by decide +kernel
theorem dX7_nextFor_34 : decode cX7_nextFor 34 = .ok (.iconst 1, 1) := by decide +kernel
theorem dX7_nextFor_35 : decode cX7_nextFor 35 = .ok (.if_icmp .ne 7, 3) := by decide +kernel
theorem dX7_nextFor_38 : decode cX7_nextFor 38 = .ok (.iconst 1, 1) := by decide +kernel
theorem dX7_nextFor_39 : decode cX7_nextFor 39 = .ok (.goto 4, 3) := by decide +kernel
theorem dX7_nextFor_42 : decode cX7_nextFor 42 = .ok (.iconst 0, 1) := by decide +kernel
theorem dX7_nextFor_43 : decode cX7_nextFor 43 = .ok (.istore 4, 2) := by decide +kernel
theorem dX7_nextFor_45 : decode cX7_nextFor 45 = .ok (.iload 4, 2) := by decide +kernel
theorem dX7_nextFor_47 : decode cX7_nextFor 47 = .ok (.ifCond .eq 28, 3) := by decide +kernel
theorem dX7_nextFor_50 : decode cX7_nextFor 50 = .ok (.iload_n 2, 1) := by decide +kernel
theorem dX7_nextFor_51 : decode cX7_nextFor 51 = .ok (.bipush (-6), 2) := by decide +kernel
theorem dX7_nextFor_53 : decode cX7_nextFor 53 = .ok (.if_icmp .eq 18, 3) := by decide +kernel
theorem dX7_nextFor_56 : decode cX7_nextFor 56 = .ok (.aload_n 0, 1) := by decide +kernel
theorem dX7_nextFor_57 : decode cX7_nextFor 57 = .ok (.iload_n 3, 1) := by decide +kernel
theorem dX7_nextFor_58 : decode cX7_nextFor 58 = .ok (.iconst 2, 1) := by decide +kernel
theorem dX7_nextFor_59 : decode cX7_nextFor 59 = .ok (.invokevirtual 39, 3) := by decide +kernel
theorem dX7_nextFor_62 : decode cX7_nextFor 62 = .ok (.aload_n 0, 1) := by decide +kernel
theorem dX7_nextFor_63 : decode cX7_nextFor 63 = .ok (.iload_n 2, 1) := by decide +kernel
theorem dX7_nextFor_64 : decode cX7_nextFor 64 = .ok (.iconst 2, 1) := by decide +kernel
theorem dX7_nextFor_65 : decode cX7_nextFor 65 = .ok (.invokevirtual 39, 3) := by decide +kernel
theorem dX7_nextFor_68 : decode cX7_nextFor 68 = .ok (.if_icmp .ge 7, 3) := by decide +kernel
theorem dX7_nextFor_71 : decode cX7_nextFor 71 = .ok (.iload_n 3, 1) := by decide +kernel
theorem dX7_nextFor_72 : decode cX7_nextFor 72 = .ok (.goto 4, 3) := by decide +kernel
theorem dX7_nextFor_75 : decode cX7_nextFor 75 = .ok (.iload_n 2, 1) := by decide +kernel
theorem dX7_nextFor_76 : decode cX7_nextFor 76 = .ok (.istore_n 2, 1) := by decide +kernel
theorem dX7_nextFor_77 : decode cX7_nextFor 77 = .ok (.iinc 3 1, 3) := by decide +kernel
theorem dX7_nextFor_80 : decode cX7_nextFor 80 = .ok (.goto (-75), 3) := by decide +kernel
theorem dX7_nextFor_83 : decode cX7_nextFor 83 = .ok (.iload_n 2, 1) := by decide +kernel
theorem dX7_nextFor_84 : decode cX7_nextFor 84 = .ok (.ireturn, 1) := by decide +kernel
theorem dX7_fixerOf_0 : decode cX7_fixerOf 0 = .ok (.iconst 0, 1) := by decide +kernel
theorem dX7_fixerOf_1 : decode cX7_fixerOf 1 = .ok (.istore_n 2, 1) := by decide +kernel
theorem dX7_fixerOf_2 : decode cX7_fixerOf 2 = .ok (.iload_n 2, 1) := by decide +kernel
theorem dX7_fixerOf_3 : decode cX7_fixerOf 3 = .ok (.aload_n 0, 1) := by decide +kernel
theorem dX7_fixerOf_4 : decode cX7_fixerOf 4 = .ok (.getfield 7, 3) := by decide +kernel
theorem dX7_fixerOf_7 : decode cX7_fixerOf 7 = .ok (.iconst 2, 1) := by decide +kernel
theorem dX7_fixerOf_8 : decode cX7_fixerOf 8 = .ok (.iaload, 1) := by decide +kernel
theorem dX7_fixerOf_9 : decode cX7_fixerOf 9 = .ok (.if_icmp .ge 23, 3) := by decide +kernel
theorem dX7_fixerOf_12 : decode cX7_fixerOf 12 = .ok (.aload_n 0, 1) := by decide +kernel
theorem dX7_fixerOf_13 : decode cX7_fixerOf 13 = .ok (.iload_n 2, 1) := by decide +kernel
theorem dX7_fixerOf_14 : decode cX7_fixerOf 14 = .ok (.iconst 2, 1) := by decide +kernel
theorem dX7_fixerOf_15 : decode cX7_fixerOf 15 = .ok (.invokevirtual 51, 3) := by decide +kernel
theorem dX7_fixerOf_18 : decode cX7_fixerOf 18 = .ok (.iload_n 1, 1) := by decide +kernel
theorem dX7_fixerOf_19 : decode cX7_fixerOf 19 = .ok (.iconst 1, 1) := by decide +kernel
theorem dX7_fixerOf_20 : decode cX7_fixerOf 20 = .ok (.iadd, 1) := by decide +kernel
theorem dX7_fixerOf_21 : decode cX7_fixerOf 21 = .ok (.if_icmp .ne 5, 3) := by decide +kernel
theorem dX7_fixerOf_24 : decode cX7_fixerOf 24 = .ok (.iload_n 2, 1) := by decide +kernel
theorem dX7_fixerOf_25 : decode cX7_fixerOf 25 = .ok (.ireturn, 1) := by decide +kernel
theorem dX7_fixerOf_26 : decode cX7_fixerOf 26 = .ok (.iinc 2 1, 3) := by decide +kernel
theorem dX7_fixerOf_29 : decode cX7_fixerOf 29 = .ok (.goto (-27), 3) := by decide +kernel
theorem dX7_fixerOf_32 : decode cX7_fixerOf 32 = .ok (.bipush (-6), 2) := by decide +kernel
theorem dX7_fixerOf_34 : decode cX7_fixerOf 34 = .ok (.ireturn, 1) := by decide +kernel
theorem dX7_frees_0 : decode cX7_frees 0 = .ok (.aload_n 0, 1) := by decide +kernel
theorem dX7_frees_1 : decode cX7_frees 1 = .ok (.getfield 7, 3) := by decide +kernel
theorem dX7_frees_4 : decode cX7_frees 4 = .ok (.bipush 27, 2) := by decide +kernel
theorem dX7_frees_6 : decode cX7_frees 6 = .ok (.bipush 6, 2) := by decide +kernel
theorem dX7_frees_8 : decode cX7_frees 8 = .ok (.iload_n 1, 1) := by decide +kernel
theorem dX7_frees_9 : decode cX7_frees 9 = .ok (.imul, 1) := by decide +kernel
theorem dX7_frees_10 : decode cX7_frees 10 = .ok (.iadd, 1) := by decide +kernel
theorem dX7_frees_11 : decode cX7_frees 11 = .ok (.iconst 2, 1) := by decide +kernel
theorem dX7_frees_12 : decode cX7_frees 12 = .ok (.iadd, 1) := by decide +kernel
theorem dX7_frees_13 : decode cX7_frees 13 = .ok (.iconst 0, 1) := by decide +kernel
theorem dX7_frees_14 : decode cX7_frees 14 = .ok (.iastore, 1) := by decide +kernel
theorem dX7_frees_15 : decode cX7_frees 15 = .ok (.return_, 1) := by decide +kernel
theorem dX7_givesUp_0 : decode cX7_givesUp 0 = .ok (.aload_n 0, 1) := by decide +kernel
theorem dX7_givesUp_1 : decode cX7_givesUp 1 = .ok (.iload_n 2, 1) := by decide +kernel
theorem dX7_givesUp_2 : decode cX7_givesUp 2 = .ok (.invokevirtual 54, 3) := by decide +kernel
theorem dX7_givesUp_5 : decode cX7_givesUp 5 = .ok (.pop, 1) := by decide +kernel
theorem dX7_givesUp_6 : decode cX7_givesUp 6 = .ok (.aload_n 0, 1) := by decide +kernel
theorem dX7_givesUp_7 : decode cX7_givesUp 7 = .ok (.iload_n 1, 1) := by decide +kernel
theorem dX7_givesUp_8 : decode cX7_givesUp 8 = .ok (.iconst 4, 1) := by decide +kernel
theorem dX7_givesUp_9 : decode cX7_givesUp 9 = .ok (.invokevirtual 57, 3) := by decide +kernel
theorem dX7_givesUp_12 : decode cX7_givesUp 12 = .ok (.aload_n 0, 1) := by decide +kernel
theorem dX7_givesUp_13 : decode cX7_givesUp 13 = .ok (.iload_n 1, 1) := by decide +kernel
theorem dX7_givesUp_14 : decode cX7_givesUp 14 = .ok (.invokevirtual 61, 3) := by decide +kernel
theorem dX7_givesUp_17 : decode cX7_givesUp 17 = .ok (.return_, 1) := by decide +kernel
theorem dX7_exchanges_0 : decode cX7_exchanges 0 = .ok (.aload_n 0, 1) := by decide +kernel
theorem dX7_exchanges_1 : decode cX7_exchanges 1 = .ok (.iload_n 1, 1) := by decide +kernel
theorem dX7_exchanges_2 : decode cX7_exchanges 2 = .ok (.iconst 1, 1) := by decide +kernel
theorem dX7_exchanges_3 : decode cX7_exchanges 3 = .ok (.invokevirtual 39, 3) := by decide +kernel
theorem dX7_exchanges_6 : decode cX7_exchanges 6 = .ok (.invokestatic 65, 3) := by decide +kernel
theorem dX7_exchanges_9 : decode cX7_exchanges 9 = .ok (.istore_n 2, 1) := by decide +kernel
theorem dX7_exchanges_10 : decode cX7_exchanges 10 = .ok (.aload_n 0, 1) := by decide +kernel
theorem dX7_exchanges_11 : decode cX7_exchanges 11 = .ok (.getfield 7, 3) := by decide +kernel
theorem dX7_exchanges_14 : decode cX7_exchanges 14 = .ok (.iconst 3, 1) := by decide +kernel
theorem dX7_exchanges_15 : decode cX7_exchanges 15 = .ok (.iload_n 2, 1) := by decide +kernel
theorem dX7_exchanges_16 : decode cX7_exchanges 16 = .ok (.iadd, 1) := by decide +kernel
theorem dX7_exchanges_17 : decode cX7_exchanges 17 = .ok (.iaload, 1) := by decide +kernel
theorem dX7_exchanges_18 : decode cX7_exchanges 18 = .ok (.ifCond .ne 5, 3) := by decide +kernel
theorem dX7_exchanges_21 : decode cX7_exchanges 21 = .ok (.iconst 0, 1) := by decide +kernel
theorem dX7_exchanges_22 : decode cX7_exchanges 22 = .ok (.ireturn, 1) := by decide +kernel
theorem dX7_exchanges_23 : decode cX7_exchanges 23 = .ok (.aload_n 0, 1) := by decide +kernel
theorem dX7_exchanges_24 : decode cX7_exchanges 24 = .ok (.getfield 7, 3) := by decide +kernel
theorem dX7_exchanges_27 : decode cX7_exchanges 27 = .ok (.iconst 3, 1) := by decide +kernel
theorem dX7_exchanges_28 : decode cX7_exchanges 28 = .ok (.iload_n 2, 1) := by decide +kernel
theorem dX7_exchanges_29 : decode cX7_exchanges 29 = .ok (.iadd, 1) := by decide +kernel
theorem dX7_exchanges_30 : decode cX7_exchanges 30 = .ok (.dup2, 1) := by decide +kernel
theorem dX7_exchanges_31 : decode cX7_exchanges 31 = .ok (.iaload, 1) := by decide +kernel
theorem dX7_exchanges_32 : decode cX7_exchanges 32 = .ok (.iconst 1, 1) := by decide +kernel
theorem dX7_exchanges_33 : decode cX7_exchanges 33 = .ok (.isub, 1) := by decide +kernel
theorem dX7_exchanges_34 : decode cX7_exchanges 34 = .ok (.iastore, 1) := by decide +kernel
theorem dX7_exchanges_35 : decode cX7_exchanges 35 = .ok (.aload_n 0, 1) := by decide +kernel
theorem dX7_exchanges_36 : decode cX7_exchanges 36 = .ok (.getfield 7, 3) := by decide +kernel
theorem dX7_exchanges_39 : decode cX7_exchanges 39 = .ok (.bipush 11, 2) := by decide +kernel
theorem dX7_exchanges_41 : decode cX7_exchanges 41 = .ok (.iload_n 2, 1) := by decide +kernel
theorem dX7_exchanges_42 : decode cX7_exchanges 42 = .ok (.iadd, 1) := by decide +kernel
theorem dX7_exchanges_43 : decode cX7_exchanges 43 = .ok (.dup2, 1) := by decide +kernel
theorem dX7_exchanges_44 : decode cX7_exchanges 44 = .ok (.iaload, 1) := by decide +kernel
theorem dX7_exchanges_45 : decode cX7_exchanges 45 = .ok (.iconst 1, 1) := by decide +kernel
theorem dX7_exchanges_46 : decode cX7_exchanges 46 = .ok (.iadd, 1) := by decide +kernel
theorem dX7_exchanges_47 : decode cX7_exchanges 47 = .ok (.iastore, 1) := by decide +kernel
theorem dX7_exchanges_48 : decode cX7_exchanges 48 = .ok (.aload_n 0, 1) := by decide +kernel
theorem dX7_exchanges_49 : decode cX7_exchanges 49 = .ok (.iload_n 1, 1) := by decide +kernel
theorem dX7_exchanges_50 : decode cX7_exchanges 50 = .ok (.iconst 1, 1) := by decide +kernel
theorem dX7_exchanges_51 : decode cX7_exchanges 51 = .ok (.aload_n 0, 1) := by decide +kernel
theorem dX7_exchanges_52 : decode cX7_exchanges 52 = .ok (.iload_n 1, 1) := by decide +kernel
theorem dX7_exchanges_53 : decode cX7_exchanges 53 = .ok (.iconst 1, 1) := by decide +kernel
theorem dX7_exchanges_54 : decode cX7_exchanges 54 = .ok (.invokevirtual 39, 3) := by decide +kernel
theorem dX7_exchanges_57 : decode cX7_exchanges 57 = .ok (.iconst 1, 1) := by decide +kernel
theorem dX7_exchanges_58 : decode cX7_exchanges 58 = .ok (.iload_n 2, 1) := by decide +kernel
theorem dX7_exchanges_59 : decode cX7_exchanges 59 = .ok (.ishl, 1) := by decide +kernel
theorem dX7_exchanges_60 : decode cX7_exchanges 60 = .ok (.iconst (-1), 1) := by decide +kernel
theorem dX7_exchanges_61 : decode cX7_exchanges 61 = .ok (.ixor, 1) := by decide +kernel
theorem dX7_exchanges_62 : decode cX7_exchanges 62 = .ok (.iand, 1) := by decide +kernel
theorem dX7_exchanges_63 : decode cX7_exchanges 63 = .ok (.invokevirtual 47, 3) := by decide +kernel
theorem dX7_exchanges_66 : decode cX7_exchanges 66 = .ok (.aload_n 0, 1) := by decide +kernel
theorem dX7_exchanges_67 : decode cX7_exchanges 67 = .ok (.iload_n 1, 1) := by decide +kernel
theorem dX7_exchanges_68 : decode cX7_exchanges 68 = .ok (.bipush 6, 2) := by decide +kernel
theorem dX7_exchanges_70 : decode cX7_exchanges 70 = .ok (.aload_n 0, 1) := by decide +kernel
theorem dX7_exchanges_71 : decode cX7_exchanges 71 = .ok (.iload_n 1, 1) := by decide +kernel
theorem dX7_exchanges_72 : decode cX7_exchanges 72 = .ok (.bipush 6, 2) := by decide +kernel
theorem dX7_exchanges_74 : decode cX7_exchanges 74 = .ok (.invokevirtual 39, 3) := by decide +kernel
theorem dX7_exchanges_77 : decode cX7_exchanges 77 = .ok (.iconst 1, 1) := by decide +kernel
theorem dX7_exchanges_78 : decode cX7_exchanges 78 = .ok (.iadd, 1) := by decide +kernel
theorem dX7_exchanges_79 : decode cX7_exchanges 79 = .ok (.invokevirtual 47, 3) := by decide +kernel
theorem dX7_exchanges_82 : decode cX7_exchanges 82 = .ok (.iconst 1, 1) := by decide +kernel
theorem dX7_exchanges_83 : decode cX7_exchanges 83 = .ok (.ireturn, 1) := by decide +kernel
theorem dX7_tests_0 : decode cX7_tests 0 = .ok (.aload_n 0, 1) := by decide +kernel
theorem dX7_tests_1 : decode cX7_tests 1 = .ok (.iload_n 1, 1) := by decide +kernel
theorem dX7_tests_2 : decode cX7_tests 2 = .ok (.iconst 0, 1) := by decide +kernel
theorem dX7_tests_3 : decode cX7_tests 3 = .ok (.invokevirtual 39, 3) := by decide +kernel
theorem dX7_tests_6 : decode cX7_tests 6 = .ok (.istore_n 3, 1) := by decide +kernel
theorem dX7_tests_7 : decode cX7_tests 7 = .ok (.aload_n 0, 1) := by decide +kernel
theorem dX7_tests_8 : decode cX7_tests 8 = .ok (.getfield 7, 3) := by decide +kernel
theorem dX7_tests_11 : decode cX7_tests 11 = .ok (.iconst 0, 1) := by decide +kernel
theorem dX7_tests_12 : decode cX7_tests 12 = .ok (.iaload, 1) := by decide +kernel
theorem dX7_tests_13 : decode cX7_tests 13 = .ok (.iload_n 2, 1) := by decide +kernel
theorem dX7_tests_14 : decode cX7_tests 14 = .ok (.iadd, 1) := by decide +kernel
theorem dX7_tests_15 : decode cX7_tests 15 = .ok (.iload_n 3, 1) := by decide +kernel
theorem dX7_tests_16 : decode cX7_tests 16 = .ok (.iadd, 1) := by decide +kernel
theorem dX7_tests_17 : decode cX7_tests 17 = .ok (.iconst 3, 1) := by decide +kernel
theorem dX7_tests_18 : decode cX7_tests 18 = .ok (.irem, 1) := by decide +kernel
theorem dX7_tests_19 : decode cX7_tests 19 = .ok (.ifCond .eq 26, 3) := by decide +kernel
theorem dX7_tests_22 : decode cX7_tests 22 = .ok (.aload_n 0, 1) := by decide +kernel
theorem dX7_tests_23 : decode cX7_tests 23 = .ok (.iload_n 1, 1) := by decide +kernel
theorem dX7_tests_24 : decode cX7_tests 24 = .ok (.iconst 3, 1) := by decide +kernel
theorem dX7_tests_25 : decode cX7_tests 25 = .ok (.aload_n 0, 1) := by decide +kernel
theorem dX7_tests_26 : decode cX7_tests 26 = .ok (.iload_n 1, 1) := by decide +kernel
theorem dX7_tests_27 : decode cX7_tests 27 = .ok (.iconst 3, 1) := by decide +kernel
theorem dX7_tests_28 : decode cX7_tests 28 = .ok (.invokevirtual 39, 3) := by decide +kernel
theorem dX7_tests_31 : decode cX7_tests 31 = .ok (.aload_n 0, 1) := by decide +kernel
theorem dX7_tests_32 : decode cX7_tests 32 = .ok (.iload_n 1, 1) := by decide +kernel
theorem dX7_tests_33 : decode cX7_tests 33 = .ok (.iconst 3, 1) := by decide +kernel
theorem dX7_tests_34 : decode cX7_tests 34 = .ok (.invokevirtual 39, 3) := by decide +kernel
theorem dX7_tests_37 : decode cX7_tests 37 = .ok (.iconst 1, 1) := by decide +kernel
theorem dX7_tests_38 : decode cX7_tests 38 = .ok (.isub, 1) := by decide +kernel
theorem dX7_tests_39 : decode cX7_tests 39 = .ok (.iand, 1) := by decide +kernel
theorem dX7_tests_40 : decode cX7_tests 40 = .ok (.invokevirtual 47, 3) := by decide +kernel
theorem dX7_tests_43 : decode cX7_tests 43 = .ok (.iconst 1, 1) := by decide +kernel
theorem dX7_tests_44 : decode cX7_tests 44 = .ok (.ireturn, 1) := by decide +kernel
theorem dX7_tests_45 : decode cX7_tests 45 = .ok (.aload_n 0, 1) := by decide +kernel
theorem dX7_tests_46 : decode cX7_tests 46 = .ok (.iload_n 1, 1) := by decide +kernel
theorem dX7_tests_47 : decode cX7_tests 47 = .ok (.iconst 1, 1) := by decide +kernel
theorem dX7_tests_48 : decode cX7_tests 48 = .ok (.aload_n 0, 1) := by decide +kernel
theorem dX7_tests_49 : decode cX7_tests 49 = .ok (.iload_n 1, 1) := by decide +kernel
theorem dX7_tests_50 : decode cX7_tests 50 = .ok (.iconst 1, 1) := by decide +kernel
theorem dX7_tests_51 : decode cX7_tests 51 = .ok (.invokevirtual 39, 3) := by decide +kernel
theorem dX7_tests_54 : decode cX7_tests 54 = .ok (.iconst 1, 1) := by decide +kernel
theorem dX7_tests_55 : decode cX7_tests 55 = .ok (.iload_n 3, 1) := by decide +kernel
theorem dX7_tests_56 : decode cX7_tests 56 = .ok (.ishl, 1) := by decide +kernel
theorem dX7_tests_57 : decode cX7_tests 57 = .ok (.ior, 1) := by decide +kernel
theorem dX7_tests_58 : decode cX7_tests 58 = .ok (.invokevirtual 47, 3) := by decide +kernel
theorem dX7_tests_61 : decode cX7_tests 61 = .ok (.aload_n 0, 1) := by decide +kernel
theorem dX7_tests_62 : decode cX7_tests 62 = .ok (.iload_n 1, 1) := by decide +kernel
theorem dX7_tests_63 : decode cX7_tests 63 = .ok (.iconst 5, 1) := by decide +kernel
theorem dX7_tests_64 : decode cX7_tests 64 = .ok (.aload_n 0, 1) := by decide +kernel
theorem dX7_tests_65 : decode cX7_tests 65 = .ok (.iload_n 1, 1) := by decide +kernel
theorem dX7_tests_66 : decode cX7_tests 66 = .ok (.iconst 5, 1) := by decide +kernel
theorem dX7_tests_67 : decode cX7_tests 67 = .ok (.invokevirtual 39, 3) := by decide +kernel
theorem dX7_tests_70 : decode cX7_tests 70 = .ok (.iconst 1, 1) := by decide +kernel
theorem dX7_tests_71 : decode cX7_tests 71 = .ok (.iadd, 1) := by decide +kernel
theorem dX7_tests_72 : decode cX7_tests 72 = .ok (.invokevirtual 47, 3) := by decide +kernel
theorem dX7_tests_75 : decode cX7_tests 75 = .ok (.aload_n 0, 1) := by decide +kernel
theorem dX7_tests_76 : decode cX7_tests 76 = .ok (.iload_n 1, 1) := by decide +kernel
theorem dX7_tests_77 : decode cX7_tests 77 = .ok (.iconst 5, 1) := by decide +kernel
theorem dX7_tests_78 : decode cX7_tests 78 = .ok (.invokevirtual 39, 3) := by decide +kernel
theorem dX7_tests_81 : decode cX7_tests 81 = .ok (.iconst 3, 1) := by decide +kernel
theorem dX7_tests_82 : decode cX7_tests 82 = .ok (.if_icmp .ge 7, 3) := by decide +kernel
theorem dX7_tests_85 : decode cX7_tests 85 = .ok (.iconst 1, 1) := by decide +kernel
theorem dX7_tests_86 : decode cX7_tests 86 = .ok (.goto 4, 3) := by decide +kernel
theorem dX7_tests_89 : decode cX7_tests 89 = .ok (.iconst 0, 1) := by decide +kernel
theorem dX7_tests_90 : decode cX7_tests 90 = .ok (.ireturn, 1) := by decide +kernel
theorem dX7_works_0 : decode cX7_works 0 = .ok (.aload_n 0, 1) := by decide +kernel
theorem dX7_works_1 : decode cX7_works 1 = .ok (.iload_n 1, 1) := by decide +kernel
theorem dX7_works_2 : decode cX7_works 2 = .ok (.iconst 2, 1) := by decide +kernel
theorem dX7_works_3 : decode cX7_works 3 = .ok (.invokevirtual 51, 3) := by decide +kernel
theorem dX7_works_6 : decode cX7_works 6 = .ok (.iconst 1, 1) := by decide +kernel
theorem dX7_works_7 : decode cX7_works 7 = .ok (.isub, 1) := by decide +kernel
theorem dX7_works_8 : decode cX7_works 8 = .ok (.istore_n 2, 1) := by decide +kernel
theorem dX7_works_9 : decode cX7_works 9 = .ok (.aload_n 0, 1) := by decide +kernel
theorem dX7_works_10 : decode cX7_works 10 = .ok (.iload_n 1, 1) := by decide +kernel
theorem dX7_works_11 : decode cX7_works 11 = .ok (.iconst 5, 1) := by decide +kernel
theorem dX7_works_12 : decode cX7_works 12 = .ok (.invokevirtual 57, 3) := by decide +kernel
theorem dX7_works_15 : decode cX7_works 15 = .ok (.iconst 1, 1) := by decide +kernel
theorem dX7_works_16 : decode cX7_works 16 = .ok (.istore_n 3, 1) := by decide +kernel
theorem dX7_works_17 : decode cX7_works 17 = .ok (.aload_n 0, 1) := by decide +kernel
theorem dX7_works_18 : decode cX7_works 18 = .ok (.iload_n 2, 1) := by decide +kernel
theorem dX7_works_19 : decode cX7_works 19 = .ok (.iconst 1, 1) := by decide +kernel
theorem dX7_works_20 : decode cX7_works 20 = .ok (.invokevirtual 39, 3) := by decide +kernel
theorem dX7_works_23 : decode cX7_works 23 = .ok (.ifCond .eq 12, 3) := by decide +kernel
theorem dX7_works_26 : decode cX7_works 26 = .ok (.aload_n 0, 1) := by decide +kernel
theorem dX7_works_27 : decode cX7_works 27 = .ok (.iload_n 2, 1) := by decide +kernel
theorem dX7_works_28 : decode cX7_works 28 = .ok (.invokevirtual 68, 3) := by decide +kernel
theorem dX7_works_31 : decode cX7_works 31 = .ok (.istore_n 3, 1) := by decide +kernel
theorem dX7_works_32 : decode cX7_works 32 = .ok (.goto 24, 3) := by decide +kernel
theorem dX7_works_35 : decode cX7_works 35 = .ok (.aload_n 0, 1) := by decide +kernel
theorem dX7_works_36 : decode cX7_works 36 = .ok (.iload_n 2, 1) := by decide +kernel
theorem dX7_works_37 : decode cX7_works 37 = .ok (.iconst 3, 1) := by decide +kernel
theorem dX7_works_38 : decode cX7_works 38 = .ok (.invokevirtual 39, 3) := by decide +kernel
theorem dX7_works_41 : decode cX7_works 41 = .ok (.ifCond .eq 15, 3) := by decide +kernel
theorem dX7_works_44 : decode cX7_works 44 = .ok (.aload_n 0, 1) := by decide +kernel
theorem dX7_works_45 : decode cX7_works 45 = .ok (.iload_n 2, 1) := by decide +kernel
theorem dX7_works_46 : decode cX7_works 46 = .ok (.aload_n 0, 1) := by decide +kernel
theorem dX7_works_47 : decode cX7_works 47 = .ok (.iload_n 1, 1) := by decide +kernel
theorem dX7_works_48 : decode cX7_works 48 = .ok (.iconst 1, 1) := by decide +kernel
theorem dX7_works_49 : decode cX7_works 49 = .ok (.invokevirtual 51, 3) := by decide +kernel
theorem dX7_works_52 : decode cX7_works 52 = .ok (.invokevirtual 72, 3) := by decide +kernel
theorem dX7_works_55 : decode cX7_works 55 = .ok (.istore_n 3, 1) := by decide +kernel
theorem dX7_works_56 : decode cX7_works 56 = .ok (.iload_n 3, 1) := by decide +kernel
theorem dX7_works_57 : decode cX7_works 57 = .ok (.ifCond .ne 12, 3) := by decide +kernel
theorem dX7_works_60 : decode cX7_works 60 = .ok (.aload_n 0, 1) := by decide +kernel
theorem dX7_works_61 : decode cX7_works 61 = .ok (.iload_n 1, 1) := by decide +kernel
theorem dX7_works_62 : decode cX7_works 62 = .ok (.iload_n 2, 1) := by decide +kernel
theorem dX7_works_63 : decode cX7_works 63 = .ok (.invokevirtual 76, 3) := by decide +kernel
theorem dX7_works_66 : decode cX7_works 66 = .ok (.goto 39, 3) := by decide +kernel
theorem dX7_works_69 : decode cX7_works 69 = .ok (.aload_n 0, 1) := by decide +kernel
theorem dX7_works_70 : decode cX7_works 70 = .ok (.iload_n 2, 1) := by decide +kernel
theorem dX7_works_71 : decode cX7_works 71 = .ok (.iconst 1, 1) := by decide +kernel
theorem dX7_works_72 : decode cX7_works 72 = .ok (.invokevirtual 39, 3) := by decide +kernel
theorem dX7_works_75 : decode cX7_works 75 = .ok (.ifCond .ne 30, 3) := by decide +kernel
theorem dX7_works_78 : decode cX7_works 78 = .ok (.aload_n 0, 1) := by decide +kernel
theorem dX7_works_79 : decode cX7_works 79 = .ok (.iload_n 2, 1) := by decide +kernel
theorem dX7_works_80 : decode cX7_works 80 = .ok (.iconst 3, 1) := by decide +kernel
theorem dX7_works_81 : decode cX7_works 81 = .ok (.invokevirtual 39, 3) := by decide +kernel
theorem dX7_works_84 : decode cX7_works 84 = .ok (.ifCond .ne 21, 3) := by decide +kernel
theorem dX7_works_87 : decode cX7_works 87 = .ok (.aload_n 0, 1) := by decide +kernel
theorem dX7_works_88 : decode cX7_works 88 = .ok (.iload_n 2, 1) := by decide +kernel
theorem dX7_works_89 : decode cX7_works 89 = .ok (.iconst 4, 1) := by decide +kernel
theorem dX7_works_90 : decode cX7_works 90 = .ok (.iconst 2, 1) := by decide +kernel
theorem dX7_works_91 : decode cX7_works 91 = .ok (.invokevirtual 47, 3) := by decide +kernel
theorem dX7_works_94 : decode cX7_works 94 = .ok (.aload_n 0, 1) := by decide +kernel
theorem dX7_works_95 : decode cX7_works 95 = .ok (.iload_n 1, 1) := by decide +kernel
theorem dX7_works_96 : decode cX7_works 96 = .ok (.iconst 3, 1) := by decide +kernel
theorem dX7_works_97 : decode cX7_works 97 = .ok (.invokevirtual 57, 3) := by decide +kernel
theorem dX7_works_100 : decode cX7_works 100 = .ok (.aload_n 0, 1) := by decide +kernel
theorem dX7_works_101 : decode cX7_works 101 = .ok (.iload_n 1, 1) := by decide +kernel
theorem dX7_works_102 : decode cX7_works 102 = .ok (.invokevirtual 61, 3) := by decide +kernel
theorem dX7_works_105 : decode cX7_works 105 = .ok (.return_, 1) := by decide +kernel
theorem dX7_takes_0 : decode cX7_takes 0 = .ok (.aload_n 0, 1) := by decide +kernel
theorem dX7_takes_1 : decode cX7_takes 1 = .ok (.aload_n 0, 1) := by decide +kernel
theorem dX7_takes_2 : decode cX7_takes 2 = .ok (.iload_n 1, 1) := by decide +kernel
theorem dX7_takes_3 : decode cX7_takes 3 = .ok (.iconst 0, 1) := by decide +kernel
theorem dX7_takes_4 : decode cX7_takes 4 = .ok (.invokevirtual 51, 3) := by decide +kernel
theorem dX7_takes_7 : decode cX7_takes 7 = .ok (.invokevirtual 79, 3) := by decide +kernel
theorem dX7_takes_10 : decode cX7_takes 10 = .ok (.istore_n 2, 1) := by decide +kernel
theorem dX7_takes_11 : decode cX7_takes 11 = .ok (.iload_n 2, 1) := by decide +kernel
theorem dX7_takes_12 : decode cX7_takes 12 = .ok (.bipush (-6), 2) := by decide +kernel
theorem dX7_takes_14 : decode cX7_takes 14 = .ok (.if_icmp .eq 27, 3) := by decide +kernel
theorem dX7_takes_17 : decode cX7_takes 17 = .ok (.aload_n 0, 1) := by decide +kernel
theorem dX7_takes_18 : decode cX7_takes 18 = .ok (.iload_n 2, 1) := by decide +kernel
theorem dX7_takes_19 : decode cX7_takes 19 = .ok (.iconst 4, 1) := by decide +kernel
theorem dX7_takes_20 : decode cX7_takes 20 = .ok (.iconst 1, 1) := by decide +kernel
theorem dX7_takes_21 : decode cX7_takes 21 = .ok (.invokevirtual 47, 3) := by decide +kernel
theorem dX7_takes_24 : decode cX7_takes 24 = .ok (.aload_n 0, 1) := by decide +kernel
theorem dX7_takes_25 : decode cX7_takes 25 = .ok (.getfield 7, 3) := by decide +kernel
theorem dX7_takes_28 : decode cX7_takes 28 = .ok (.bipush 27, 2) := by decide +kernel
theorem dX7_takes_30 : decode cX7_takes 30 = .ok (.bipush 6, 2) := by decide +kernel
theorem dX7_takes_32 : decode cX7_takes 32 = .ok (.iload_n 1, 1) := by decide +kernel
theorem dX7_takes_33 : decode cX7_takes 33 = .ok (.imul, 1) := by decide +kernel
theorem dX7_takes_34 : decode cX7_takes 34 = .ok (.iadd, 1) := by decide +kernel
theorem dX7_takes_35 : decode cX7_takes 35 = .ok (.iconst 2, 1) := by decide +kernel
theorem dX7_takes_36 : decode cX7_takes 36 = .ok (.iadd, 1) := by decide +kernel
theorem dX7_takes_37 : decode cX7_takes 37 = .ok (.iload_n 2, 1) := by decide +kernel
theorem dX7_takes_38 : decode cX7_takes 38 = .ok (.iconst 1, 1) := by decide +kernel
theorem dX7_takes_39 : decode cX7_takes 39 = .ok (.iadd, 1) := by decide +kernel
theorem dX7_takes_40 : decode cX7_takes 40 = .ok (.iastore, 1) := by decide +kernel
theorem dX7_takes_41 : decode cX7_takes 41 = .ok (.return_, 1) := by decide +kernel
theorem dX7_minute_0 : decode cX7_minute 0 = .ok (.iconst 0, 1) := by decide +kernel
theorem dX7_minute_1 : decode cX7_minute 1 = .ok (.istore_n 1, 1) := by decide +kernel
theorem dX7_minute_2 : decode cX7_minute 2 = .ok (.iload_n 1, 1) := by decide +kernel
theorem dX7_minute_3 : decode cX7_minute 3 = .ok (.aload_n 0, 1) := by decide +kernel
theorem dX7_minute_4 : decode cX7_minute 4 = .ok (.getfield 7, 3) := by decide +kernel
theorem dX7_minute_7 : decode cX7_minute 7 = .ok (.iconst 2, 1) := by decide +kernel
theorem dX7_minute_8 : decode cX7_minute 8 = .ok (.iaload, 1) := by decide +kernel
theorem dX7_minute_9 : decode cX7_minute 9 = .ok (.if_icmp .ge 23, 3) := by decide +kernel
theorem dX7_minute_12 : decode cX7_minute 12 = .ok (.aload_n 0, 1) := by decide +kernel
theorem dX7_minute_13 : decode cX7_minute 13 = .ok (.iload_n 1, 1) := by decide +kernel
theorem dX7_minute_14 : decode cX7_minute 14 = .ok (.iconst 2, 1) := by decide +kernel
theorem dX7_minute_15 : decode cX7_minute 15 = .ok (.invokevirtual 51, 3) := by decide +kernel
theorem dX7_minute_18 : decode cX7_minute 18 = .ok (.ifCond .ne 8, 3) := by decide +kernel
theorem dX7_minute_21 : decode cX7_minute 21 = .ok (.aload_n 0, 1) := by decide +kernel
theorem dX7_minute_22 : decode cX7_minute 22 = .ok (.iload_n 1, 1) := by decide +kernel
theorem dX7_minute_23 : decode cX7_minute 23 = .ok (.invokevirtual 82, 3) := by decide +kernel
theorem dX7_minute_26 : decode cX7_minute 26 = .ok (.iinc 1 1, 3) := by decide +kernel
theorem dX7_minute_29 : decode cX7_minute 29 = .ok (.goto (-27), 3) := by decide +kernel
theorem dX7_minute_32 : decode cX7_minute 32 = .ok (.iconst 0, 1) := by decide +kernel
theorem dX7_minute_33 : decode cX7_minute 33 = .ok (.istore_n 1, 1) := by decide +kernel
theorem dX7_minute_34 : decode cX7_minute 34 = .ok (.iload_n 1, 1) := by decide +kernel
theorem dX7_minute_35 : decode cX7_minute 35 = .ok (.aload_n 0, 1) := by decide +kernel
theorem dX7_minute_36 : decode cX7_minute 36 = .ok (.getfield 7, 3) := by decide +kernel
theorem dX7_minute_39 : decode cX7_minute 39 = .ok (.iconst 2, 1) := by decide +kernel
theorem dX7_minute_40 : decode cX7_minute 40 = .ok (.iaload, 1) := by decide +kernel
theorem dX7_minute_41 : decode cX7_minute 41 = .ok (.if_icmp .ge 23, 3) := by decide +kernel
theorem dX7_minute_44 : decode cX7_minute 44 = .ok (.aload_n 0, 1) := by decide +kernel
theorem dX7_minute_45 : decode cX7_minute 45 = .ok (.iload_n 1, 1) := by decide +kernel
theorem dX7_minute_46 : decode cX7_minute 46 = .ok (.iconst 2, 1) := by decide +kernel
theorem dX7_minute_47 : decode cX7_minute 47 = .ok (.invokevirtual 51, 3) := by decide +kernel
theorem dX7_minute_50 : decode cX7_minute 50 = .ok (.ifCond .le 8, 3) := by decide +kernel
theorem dX7_minute_53 : decode cX7_minute 53 = .ok (.aload_n 0, 1) := by decide +kernel
theorem dX7_minute_54 : decode cX7_minute 54 = .ok (.iload_n 1, 1) := by decide +kernel
theorem dX7_minute_55 : decode cX7_minute 55 = .ok (.invokevirtual 85, 3) := by decide +kernel
theorem dX7_minute_58 : decode cX7_minute 58 = .ok (.iinc 1 1, 3) := by decide +kernel
theorem dX7_minute_61 : decode cX7_minute 61 = .ok (.goto (-27), 3) := by decide +kernel
theorem dX7_minute_64 : decode cX7_minute 64 = .ok (.iconst 0, 1) := by decide +kernel
theorem dX7_minute_65 : decode cX7_minute 65 = .ok (.istore_n 1, 1) := by decide +kernel
theorem dX7_minute_66 : decode cX7_minute 66 = .ok (.iload_n 1, 1) := by decide +kernel
theorem dX7_minute_67 : decode cX7_minute 67 = .ok (.aload_n 0, 1) := by decide +kernel
theorem dX7_minute_68 : decode cX7_minute 68 = .ok (.getfield 7, 3) := by decide +kernel
theorem dX7_minute_71 : decode cX7_minute 71 = .ok (.iconst 1, 1) := by decide +kernel
theorem dX7_minute_72 : decode cX7_minute 72 = .ok (.iaload, 1) := by decide +kernel
theorem dX7_minute_73 : decode cX7_minute 73 = .ok (.if_icmp .ge 52, 3) := by decide +kernel
theorem dX7_minute_76 : decode cX7_minute 76 = .ok (.aload_n 0, 1) := by decide +kernel
theorem dX7_minute_77 : decode cX7_minute 77 = .ok (.iload_n 1, 1) := by decide +kernel
theorem dX7_minute_78 : decode cX7_minute 78 = .ok (.iconst 4, 1) := by decide +kernel
theorem dX7_minute_79 : decode cX7_minute 79 = .ok (.invokevirtual 39, 3) := by decide +kernel
theorem dX7_minute_82 : decode cX7_minute 82 = .ok (.ifCond .ne 37, 3) := by decide +kernel
theorem dX7_minute_85 : decode cX7_minute 85 = .ok (.aload_n 0, 1) := by decide +kernel
theorem dX7_minute_86 : decode cX7_minute 86 = .ok (.iload_n 1, 1) := by decide +kernel
theorem dX7_minute_87 : decode cX7_minute 87 = .ok (.iconst 2, 1) := by decide +kernel
theorem dX7_minute_88 : decode cX7_minute 88 = .ok (.aload_n 0, 1) := by decide +kernel
theorem dX7_minute_89 : decode cX7_minute 89 = .ok (.iload_n 1, 1) := by decide +kernel
theorem dX7_minute_90 : decode cX7_minute 90 = .ok (.iconst 2, 1) := by decide +kernel
theorem dX7_minute_91 : decode cX7_minute 91 = .ok (.invokevirtual 39, 3) := by decide +kernel
theorem dX7_minute_94 : decode cX7_minute 94 = .ok (.iconst 1, 1) := by decide +kernel
theorem dX7_minute_95 : decode cX7_minute 95 = .ok (.isub, 1) := by decide +kernel
theorem dX7_minute_96 : decode cX7_minute 96 = .ok (.invokevirtual 47, 3) := by decide +kernel
theorem dX7_minute_99 : decode cX7_minute 99 = .ok (.aload_n 0, 1) := by decide +kernel
theorem dX7_minute_100 : decode cX7_minute 100 = .ok (.iload_n 1, 1) := by decide +kernel
theorem dX7_minute_101 : decode cX7_minute 101 = .ok (.iconst 4, 1) := by decide +kernel
theorem dX7_minute_102 : decode cX7_minute 102 = .ok (.aload_n 0, 1) := by decide +kernel
theorem dX7_minute_103 : decode cX7_minute 103 = .ok (.iload_n 1, 1) := by decide +kernel
theorem dX7_minute_104 : decode cX7_minute 104 = .ok (.iconst 2, 1) := by decide +kernel
theorem dX7_minute_105 : decode cX7_minute 105 = .ok (.invokevirtual 39, 3) := by decide +kernel
theorem dX7_minute_108 : decode cX7_minute 108 = .ok (.ifCond .ne 7, 3) := by decide +kernel
theorem dX7_minute_111 : decode cX7_minute 111 = .ok (.iconst 4, 1) := by decide +kernel
theorem dX7_minute_112 : decode cX7_minute 112 = .ok (.goto 4, 3) := by decide +kernel
theorem dX7_minute_115 : decode cX7_minute 115 = .ok (.iconst 0, 1) := by decide +kernel
theorem dX7_minute_116 : decode cX7_minute 116 = .ok (.invokevirtual 47, 3) := by decide +kernel
theorem dX7_minute_119 : decode cX7_minute 119 = .ok (.iinc 1 1, 3) := by decide +kernel
theorem dX7_minute_122 : decode cX7_minute 122 = .ok (.goto (-56), 3) := by decide +kernel
theorem dX7_minute_125 : decode cX7_minute 125 = .ok (.aload_n 0, 1) := by decide +kernel
theorem dX7_minute_126 : decode cX7_minute 126 = .ok (.getfield 7, 3) := by decide +kernel
theorem dX7_minute_129 : decode cX7_minute 129 = .ok (.iconst 0, 1) := by decide +kernel
theorem dX7_minute_130 : decode cX7_minute 130 = .ok (.dup2, 1) := by decide +kernel
theorem dX7_minute_131 : decode cX7_minute 131 = .ok (.iaload, 1) := by decide +kernel
theorem dX7_minute_132 : decode cX7_minute 132 = .ok (.iconst 1, 1) := by decide +kernel
theorem dX7_minute_133 : decode cX7_minute 133 = .ok (.iadd, 1) := by decide +kernel
theorem dX7_minute_134 : decode cX7_minute 134 = .ok (.iastore, 1) := by decide +kernel
theorem dX7_minute_135 : decode cX7_minute 135 = .ok (.return_, 1) := by decide +kernel
theorem dX7_withHow_0 : decode cX7_withHow 0 = .ok (.iconst 0, 1) := by decide +kernel
theorem dX7_withHow_1 : decode cX7_withHow 1 = .ok (.istore_n 2, 1) := by decide +kernel
theorem dX7_withHow_2 : decode cX7_withHow 2 = .ok (.iconst 0, 1) := by decide +kernel
theorem dX7_withHow_3 : decode cX7_withHow 3 = .ok (.istore_n 3, 1) := by decide +kernel
theorem dX7_withHow_4 : decode cX7_withHow 4 = .ok (.iload_n 3, 1) := by decide +kernel
theorem dX7_withHow_5 : decode cX7_withHow 5 = .ok (.aload_n 0, 1) := by decide +kernel
theorem dX7_withHow_6 : decode cX7_withHow 6 = .ok (.getfield 7, 3) := by decide +kernel
theorem dX7_withHow_9 : decode cX7_withHow 9 = .ok (.iconst 1, 1) := by decide +kernel
theorem dX7_withHow_10 : decode cX7_withHow 10 = .ok (.iaload, 1) := by decide +kernel
theorem dX7_withHow_11 : decode cX7_withHow 11 = .ok (.if_icmp .ge 27, 3) := by decide +kernel
theorem dX7_withHow_14 : decode cX7_withHow 14 = .ok (.iload_n 2, 1) := by decide +kernel
theorem dX7_withHow_15 : decode cX7_withHow 15 = .ok (.aload_n 0, 1) := by decide +kernel
theorem dX7_withHow_16 : decode cX7_withHow 16 = .ok (.iload_n 3, 1) := by decide +kernel
theorem dX7_withHow_17 : decode cX7_withHow 17 = .ok (.iconst 4, 1) := by decide +kernel
theorem dX7_withHow_18 : decode cX7_withHow 18 = .ok (.invokevirtual 39, 3) := by decide +kernel
theorem dX7_withHow_21 : decode cX7_withHow 21 = .ok (.iload_n 1, 1) := by decide +kernel
theorem dX7_withHow_22 : decode cX7_withHow 22 = .ok (.if_icmp .ne 7, 3) := by decide +kernel
theorem dX7_withHow_25 : decode cX7_withHow 25 = .ok (.iconst 1, 1) := by decide +kernel
theorem dX7_withHow_26 : decode cX7_withHow 26 = .ok (.goto 4, 3) := by decide +kernel
theorem dX7_withHow_29 : decode cX7_withHow 29 = .ok (.iconst 0, 1) := by decide +kernel
theorem dX7_withHow_30 : decode cX7_withHow 30 = .ok (.iadd, 1) := by decide +kernel
theorem dX7_withHow_31 : decode cX7_withHow 31 = .ok (.istore_n 2, 1) := by decide +kernel
theorem dX7_withHow_32 : decode cX7_withHow 32 = .ok (.iinc 3 1, 3) := by decide +kernel
theorem dX7_withHow_35 : decode cX7_withHow 35 = .ok (.goto (-31), 3) := by decide +kernel
theorem dX7_withHow_38 : decode cX7_withHow 38 = .ok (.iload_n 2, 1) := by decide +kernel
theorem dX7_withHow_39 : decode cX7_withHow 39 = .ok (.ireturn, 1) := by decide +kernel
theorem dX7_minutes_0 : decode cX7_minutes 0 = .ok (.aload_n 0, 1) := by decide +kernel
theorem dX7_minutes_1 : decode cX7_minutes 1 = .ok (.iconst 2, 1) := by decide +kernel
theorem dX7_minutes_2 : decode cX7_minutes 2 = .ok (.invokevirtual 88, 3) := by decide +kernel
theorem dX7_minutes_5 : decode cX7_minutes 5 = .ok (.istore_n 2, 1) := by decide +kernel
theorem dX7_minutes_6 : decode cX7_minutes 6 = .ok (.iconst 0, 1) := by decide +kernel
theorem dX7_minutes_7 : decode cX7_minutes 7 = .ok (.istore_n 3, 1) := by decide +kernel
theorem dX7_minutes_8 : decode cX7_minutes 8 = .ok (.iload_n 3, 1) := by decide +kernel
theorem dX7_minutes_9 : decode cX7_minutes 9 = .ok (.iload_n 1, 1) := by decide +kernel
theorem dX7_minutes_10 : decode cX7_minutes 10 = .ok (.if_icmp .ge 13, 3) := by decide +kernel
theorem dX7_minutes_13 : decode cX7_minutes 13 = .ok (.aload_n 0, 1) := by decide +kernel
theorem dX7_minutes_14 : decode cX7_minutes 14 = .ok (.invokevirtual 91, 3) := by decide +kernel
theorem dX7_minutes_17 : decode cX7_minutes 17 = .ok (.iinc 3 1, 3) := by decide +kernel
theorem dX7_minutes_20 : decode cX7_minutes 20 = .ok (.goto (-12), 3) := by decide +kernel
theorem dX7_minutes_23 : decode cX7_minutes 23 = .ok (.aload_n 0, 1) := by decide +kernel
theorem dX7_minutes_24 : decode cX7_minutes 24 = .ok (.iconst 2, 1) := by decide +kernel
theorem dX7_minutes_25 : decode cX7_minutes 25 = .ok (.invokevirtual 88, 3) := by decide +kernel
theorem dX7_minutes_28 : decode cX7_minutes 28 = .ok (.iload_n 2, 1) := by decide +kernel
theorem dX7_minutes_29 : decode cX7_minutes 29 = .ok (.isub, 1) := by decide +kernel
theorem dX7_minutes_30 : decode cX7_minutes 30 = .ok (.ireturn, 1) := by decide +kernel
theorem dX7_refusesThing_0 : decode cX7_refusesThing 0 = .ok (.iload_n 1, 1) := by decide +kernel
theorem dX7_refusesThing_1 : decode cX7_refusesThing 1 = .ok (.iconst 0, 1) := by decide +kernel
theorem dX7_refusesThing_2 : decode cX7_refusesThing 2 = .ok (.iconst 5, 1) := by decide +kernel
theorem dX7_refusesThing_3 : decode cX7_refusesThing 3 = .ok (.invokestatic 94, 3) := by decide +kernel
theorem dX7_refusesThing_6 : decode cX7_refusesThing 6 = .ok (.ifCond .ne 5, 3) := by decide +kernel
theorem dX7_refusesThing_9 : decode cX7_refusesThing 9 = .ok (.iconst (-1), 1) := by decide +kernel
theorem dX7_refusesThing_10 : decode cX7_refusesThing 10 = .ok (.ireturn, 1) := by decide +kernel
theorem dX7_refusesThing_11 : decode cX7_refusesThing 11 = .ok (.iload_n 2, 1) := by decide +kernel
theorem dX7_refusesThing_12 : decode cX7_refusesThing 12 = .ok (.iload_n 1, 1) := by decide +kernel
theorem dX7_refusesThing_13 : decode cX7_refusesThing 13 = .ok (.invokestatic 43, 3) := by decide +kernel
theorem dX7_refusesThing_16 : decode cX7_refusesThing 16 = .ok (.iconst (-1), 1) := by decide +kernel
theorem dX7_refusesThing_17 : decode cX7_refusesThing 17 = .ok (.ixor, 1) := by decide +kernel
theorem dX7_refusesThing_18 : decode cX7_refusesThing 18 = .ok (.iand, 1) := by decide +kernel
theorem dX7_refusesThing_19 : decode cX7_refusesThing 19 = .ok (.ifCond .ne 24, 3) := by decide +kernel
theorem dX7_refusesThing_22 : decode cX7_refusesThing 22 = .ok (.iload_n 3, 1) := by decide +kernel
theorem dX7_refusesThing_23 : decode cX7_refusesThing 23 = .ok (.iconst 1, 1) := by decide +kernel
theorem dX7_refusesThing_24 : decode cX7_refusesThing 24 = .ok (.bipush 99, 2) := by decide +kernel
theorem dX7_refusesThing_26 : decode cX7_refusesThing 26 = .ok (.invokestatic 94, 3) := by decide +kernel
theorem dX7_refusesThing_29 : decode cX7_refusesThing 29 = .ok (.ifCond .eq 14, 3) := by decide +kernel
theorem dX7_refusesThing_32 : decode cX7_refusesThing 32 = .ok (.iload 4, 2) := by decide +kernel
theorem dX7_refusesThing_34 : decode cX7_refusesThing 34 = .ok (.iconst 0, 1) := by decide +kernel
theorem dX7_refusesThing_35 : decode cX7_refusesThing 35 = .ok (.bipush 7, 2) := by decide +kernel
theorem dX7_refusesThing_37 : decode cX7_refusesThing 37 = .ok (.invokestatic 94, 3) := by decide +kernel
theorem dX7_refusesThing_40 : decode cX7_refusesThing 40 = .ok (.ifCond .ne 6, 3) := by decide +kernel
theorem dX7_refusesThing_43 : decode cX7_refusesThing 43 = .ok (.bipush (-2), 2) := by decide +kernel
theorem dX7_refusesThing_45 : decode cX7_refusesThing 45 = .ok (.ireturn, 1) := by decide +kernel
theorem dX7_refusesThing_46 : decode cX7_refusesThing 46 = .ok (.aload_n 0, 1) := by decide +kernel
theorem dX7_refusesThing_47 : decode cX7_refusesThing 47 = .ok (.getfield 7, 3) := by decide +kernel
theorem dX7_refusesThing_50 : decode cX7_refusesThing 50 = .ok (.iconst 1, 1) := by decide +kernel
theorem dX7_refusesThing_51 : decode cX7_refusesThing 51 = .ok (.iaload, 1) := by decide +kernel
theorem dX7_refusesThing_52 : decode cX7_refusesThing 52 = .ok (.bipush 30, 2) := by decide +kernel
theorem dX7_refusesThing_54 : decode cX7_refusesThing 54 = .ok (.if_icmp .ne 8, 3) := by decide +kernel
theorem dX7_refusesThing_57 : decode cX7_refusesThing 57 = .ok (.bipush (-4), 2) := by decide +kernel
theorem dX7_refusesThing_59 : decode cX7_refusesThing 59 = .ok (.goto 4, 3) := by decide +kernel
theorem dX7_refusesThing_62 : decode cX7_refusesThing 62 = .ok (.iconst 0, 1) := by decide +kernel
theorem dX7_refusesThing_63 : decode cX7_refusesThing 63 = .ok (.ireturn, 1) := by decide +kernel
theorem dX7_comes_0 : decode cX7_comes 0 = .ok (.aload_n 0, 1) := by decide +kernel
theorem dX7_comes_1 : decode cX7_comes 1 = .ok (.getfield 7, 3) := by decide +kernel
theorem dX7_comes_4 : decode cX7_comes 4 = .ok (.iconst 1, 1) := by decide +kernel
theorem dX7_comes_5 : decode cX7_comes 5 = .ok (.iaload, 1) := by decide +kernel
theorem dX7_comes_6 : decode cX7_comes 6 = .ok (.istore 5, 2) := by decide +kernel
theorem dX7_comes_8 : decode cX7_comes 8 = .ok (.aload_n 0, 1) := by decide +kernel
theorem dX7_comes_9 : decode cX7_comes 9 = .ok (.getfield 7, 3) := by decide +kernel
theorem dX7_comes_12 : decode cX7_comes 12 = .ok (.iconst 1, 1) := by decide +kernel
theorem dX7_comes_13 : decode cX7_comes 13 = .ok (.dup2, 1) := by decide +kernel
theorem dX7_comes_14 : decode cX7_comes 14 = .ok (.iaload, 1) := by decide +kernel
theorem dX7_comes_15 : decode cX7_comes 15 = .ok (.iconst 1, 1) := by decide +kernel
theorem dX7_comes_16 : decode cX7_comes 16 = .ok (.iadd, 1) := by decide +kernel
theorem dX7_comes_17 : decode cX7_comes 17 = .ok (.iastore, 1) := by decide +kernel
theorem dX7_comes_18 : decode cX7_comes 18 = .ok (.aload_n 0, 1) := by decide +kernel
theorem dX7_comes_19 : decode cX7_comes 19 = .ok (.iload 5, 2) := by decide +kernel
theorem dX7_comes_21 : decode cX7_comes 21 = .ok (.iconst 0, 1) := by decide +kernel
theorem dX7_comes_22 : decode cX7_comes 22 = .ok (.iload_n 1, 1) := by decide +kernel
theorem dX7_comes_23 : decode cX7_comes 23 = .ok (.invokevirtual 47, 3) := by decide +kernel
theorem dX7_comes_26 : decode cX7_comes 26 = .ok (.aload_n 0, 1) := by decide +kernel
theorem dX7_comes_27 : decode cX7_comes 27 = .ok (.iload 5, 2) := by decide +kernel
theorem dX7_comes_29 : decode cX7_comes 29 = .ok (.iconst 1, 1) := by decide +kernel
theorem dX7_comes_30 : decode cX7_comes 30 = .ok (.iload_n 2, 1) := by decide +kernel
theorem dX7_comes_31 : decode cX7_comes 31 = .ok (.invokevirtual 47, 3) := by decide +kernel
theorem dX7_comes_34 : decode cX7_comes 34 = .ok (.aload_n 0, 1) := by decide +kernel
theorem dX7_comes_35 : decode cX7_comes 35 = .ok (.iload 5, 2) := by decide +kernel
theorem dX7_comes_37 : decode cX7_comes 37 = .ok (.iconst 2, 1) := by decide +kernel
theorem dX7_comes_38 : decode cX7_comes 38 = .ok (.iload_n 3, 1) := by decide +kernel
theorem dX7_comes_39 : decode cX7_comes 39 = .ok (.invokevirtual 47, 3) := by decide +kernel
theorem dX7_comes_42 : decode cX7_comes 42 = .ok (.aload_n 0, 1) := by decide +kernel
theorem dX7_comes_43 : decode cX7_comes 43 = .ok (.iload 5, 2) := by decide +kernel
theorem dX7_comes_45 : decode cX7_comes 45 = .ok (.iconst 3, 1) := by decide +kernel
theorem dX7_comes_46 : decode cX7_comes 46 = .ok (.iload 4, 2) := by decide +kernel
theorem dX7_comes_48 : decode cX7_comes 48 = .ok (.invokevirtual 47, 3) := by decide +kernel
theorem dX7_comes_51 : decode cX7_comes 51 = .ok (.aload_n 0, 1) := by decide +kernel
theorem dX7_comes_52 : decode cX7_comes 52 = .ok (.iload 5, 2) := by decide +kernel
theorem dX7_comes_54 : decode cX7_comes 54 = .ok (.iconst 4, 1) := by decide +kernel
theorem dX7_comes_55 : decode cX7_comes 55 = .ok (.iconst 0, 1) := by decide +kernel
theorem dX7_comes_56 : decode cX7_comes 56 = .ok (.invokevirtual 47, 3) := by decide +kernel
theorem dX7_comes_59 : decode cX7_comes 59 = .ok (.aload_n 0, 1) := by decide +kernel
theorem dX7_comes_60 : decode cX7_comes 60 = .ok (.iload 5, 2) := by decide +kernel
theorem dX7_comes_62 : decode cX7_comes 62 = .ok (.iconst 5, 1) := by decide +kernel
theorem dX7_comes_63 : decode cX7_comes 63 = .ok (.iconst 0, 1) := by decide +kernel
theorem dX7_comes_64 : decode cX7_comes 64 = .ok (.invokevirtual 47, 3) := by decide +kernel
theorem dX7_comes_67 : decode cX7_comes 67 = .ok (.aload_n 0, 1) := by decide +kernel
theorem dX7_comes_68 : decode cX7_comes 68 = .ok (.iload 5, 2) := by decide +kernel
theorem dX7_comes_70 : decode cX7_comes 70 = .ok (.bipush 6, 2) := by decide +kernel
theorem dX7_comes_72 : decode cX7_comes 72 = .ok (.iconst 0, 1) := by decide +kernel
theorem dX7_comes_73 : decode cX7_comes 73 = .ok (.invokevirtual 47, 3) := by decide +kernel
theorem dX7_comes_76 : decode cX7_comes 76 = .ok (.iload 5, 2) := by decide +kernel
theorem dX7_comes_78 : decode cX7_comes 78 = .ok (.ireturn, 1) := by decide +kernel
theorem dX7_thing_0 : decode cX7_thing 0 = .ok (.aload_n 0, 1) := by decide +kernel
theorem dX7_thing_1 : decode cX7_thing 1 = .ok (.iconst 0, 1) := by decide +kernel
theorem dX7_thing_2 : decode cX7_thing 2 = .ok (.putfield 32, 3) := by decide +kernel
theorem dX7_thing_5 : decode cX7_thing 5 = .ok (.aload_n 0, 1) := by decide +kernel
theorem dX7_thing_6 : decode cX7_thing 6 = .ok (.iload_n 1, 1) := by decide +kernel
theorem dX7_thing_7 : decode cX7_thing 7 = .ok (.iload_n 2, 1) := by decide +kernel
theorem dX7_thing_8 : decode cX7_thing 8 = .ok (.iload_n 3, 1) := by decide +kernel
theorem dX7_thing_9 : decode cX7_thing 9 = .ok (.iload 4, 2) := by decide +kernel
theorem dX7_thing_11 : decode cX7_thing 11 = .ok (.invokevirtual 98, 3) := by decide +kernel
theorem dX7_thing_14 : decode cX7_thing 14 = .ok (.istore 5, 2) := by decide +kernel
theorem dX7_thing_16 : decode cX7_thing 16 = .ok (.iload 5, 2) := by decide +kernel
theorem dX7_thing_18 : decode cX7_thing 18 = .ok (.ifCond .eq 6, 3) := by decide +kernel
theorem dX7_thing_21 : decode cX7_thing 21 = .ok (.iload 5, 2) := by decide +kernel
theorem dX7_thing_23 : decode cX7_thing 23 = .ok (.ireturn, 1) := by decide +kernel
theorem dX7_thing_24 : decode cX7_thing 24 = .ok (.aload_n 0, 1) := by decide +kernel
theorem dX7_thing_25 : decode cX7_thing 25 = .ok (.invokevirtual 102, 3) := by decide +kernel
theorem dX7_thing_28 : decode cX7_thing 28 = .ok (.aload_n 0, 1) := by decide +kernel
theorem dX7_thing_29 : decode cX7_thing 29 = .ok (.iload_n 1, 1) := by decide +kernel
theorem dX7_thing_30 : decode cX7_thing 30 = .ok (.iload_n 2, 1) := by decide +kernel
theorem dX7_thing_31 : decode cX7_thing 31 = .ok (.iload_n 3, 1) := by decide +kernel
theorem dX7_thing_32 : decode cX7_thing 32 = .ok (.iload 4, 2) := by decide +kernel
theorem dX7_thing_34 : decode cX7_thing 34 = .ok (.invokevirtual 105, 3) := by decide +kernel
theorem dX7_thing_37 : decode cX7_thing 37 = .ok (.ireturn, 1) := by decide +kernel
theorem dX7_refusesFixer_0 : decode cX7_refusesFixer 0 = .ok (.iload_n 1, 1) := by decide +kernel
theorem dX7_refusesFixer_1 : decode cX7_refusesFixer 1 = .ok (.iconst 1, 1) := by decide +kernel
theorem dX7_refusesFixer_2 : decode cX7_refusesFixer 2 = .ok (.bipush 63, 2) := by decide +kernel
theorem dX7_refusesFixer_4 : decode cX7_refusesFixer 4 = .ok (.invokestatic 94, 3) := by decide +kernel
theorem dX7_refusesFixer_7 : decode cX7_refusesFixer 7 = .ok (.ifCond .eq 13, 3) := by decide +kernel
theorem dX7_refusesFixer_10 : decode cX7_refusesFixer 10 = .ok (.iload_n 2, 1) := by decide +kernel
theorem dX7_refusesFixer_11 : decode cX7_refusesFixer 11 = .ok (.iconst 0, 1) := by decide +kernel
theorem dX7_refusesFixer_12 : decode cX7_refusesFixer 12 = .ok (.bipush 9, 2) := by decide +kernel
theorem dX7_refusesFixer_14 : decode cX7_refusesFixer 14 = .ok (.invokestatic 94, 3) := by decide +kernel
theorem dX7_refusesFixer_17 : decode cX7_refusesFixer 17 = .ok (.ifCond .ne 6, 3) := by decide +kernel
theorem dX7_refusesFixer_20 : decode cX7_refusesFixer 20 = .ok (.bipush (-2), 2) := by decide +kernel
theorem dX7_refusesFixer_22 : decode cX7_refusesFixer 22 = .ok (.ireturn, 1) := by decide +kernel
theorem dX7_refusesFixer_23 : decode cX7_refusesFixer 23 = .ok (.aload_n 0, 1) := by decide +kernel
theorem dX7_refusesFixer_24 : decode cX7_refusesFixer 24 = .ok (.getfield 7, 3) := by decide +kernel
theorem dX7_refusesFixer_27 : decode cX7_refusesFixer 27 = .ok (.iconst 2, 1) := by decide +kernel
theorem dX7_refusesFixer_28 : decode cX7_refusesFixer 28 = .ok (.iaload, 1) := by decide +kernel
theorem dX7_refusesFixer_29 : decode cX7_refusesFixer 29 = .ok (.iconst 5, 1) := by decide +kernel
theorem dX7_refusesFixer_30 : decode cX7_refusesFixer 30 = .ok (.if_icmp .ne 8, 3) := by decide +kernel
theorem dX7_refusesFixer_33 : decode cX7_refusesFixer 33 = .ok (.bipush (-4), 2) := by decide +kernel
theorem dX7_refusesFixer_35 : decode cX7_refusesFixer 35 = .ok (.goto 4, 3) := by decide +kernel
theorem dX7_refusesFixer_38 : decode cX7_refusesFixer 38 = .ok (.iconst 0, 1) := by decide +kernel
theorem dX7_refusesFixer_39 : decode cX7_refusesFixer 39 = .ok (.ireturn, 1) := by decide +kernel
theorem dX7_comesFixer_0 : decode cX7_comesFixer 0 = .ok (.bipush 27, 2) := by decide +kernel
theorem dX7_comesFixer_2 : decode cX7_comesFixer 2 = .ok (.bipush 6, 2) := by decide +kernel
theorem dX7_comesFixer_4 : decode cX7_comesFixer 4 = .ok (.aload_n 0, 1) := by decide +kernel
theorem dX7_comesFixer_5 : decode cX7_comesFixer 5 = .ok (.getfield 7, 3) := by decide +kernel
theorem dX7_comesFixer_8 : decode cX7_comesFixer 8 = .ok (.iconst 2, 1) := by decide +kernel
theorem dX7_comesFixer_9 : decode cX7_comesFixer 9 = .ok (.iaload, 1) := by decide +kernel
theorem dX7_comesFixer_10 : decode cX7_comesFixer 10 = .ok (.imul, 1) := by decide +kernel
theorem dX7_comesFixer_11 : decode cX7_comesFixer 11 = .ok (.iadd, 1) := by decide +kernel
theorem dX7_comesFixer_12 : decode cX7_comesFixer 12 = .ok (.istore_n 3, 1) := by decide +kernel
theorem dX7_comesFixer_13 : decode cX7_comesFixer 13 = .ok (.iconst 0, 1) := by decide +kernel
theorem dX7_comesFixer_14 : decode cX7_comesFixer 14 = .ok (.istore 4, 2) := by decide +kernel
theorem dX7_comesFixer_16 : decode cX7_comesFixer 16 = .ok (.iload 4, 2) := by decide +kernel
theorem dX7_comesFixer_18 : decode cX7_comesFixer 18 = .ok (.bipush 6, 2) := by decide +kernel
theorem dX7_comesFixer_20 : decode cX7_comesFixer 20 = .ok (.if_icmp .ge 19, 3) := by decide +kernel
theorem dX7_comesFixer_23 : decode cX7_comesFixer 23 = .ok (.aload_n 0, 1) := by decide +kernel
theorem dX7_comesFixer_24 : decode cX7_comesFixer 24 = .ok (.getfield 7, 3) := by decide +kernel
theorem dX7_comesFixer_27 : decode cX7_comesFixer 27 = .ok (.iload_n 3, 1) := by decide +kernel
theorem dX7_comesFixer_28 : decode cX7_comesFixer 28 = .ok (.iload 4, 2) := by decide +kernel
theorem dX7_comesFixer_30 : decode cX7_comesFixer 30 = .ok (.iadd, 1) := by decide +kernel
theorem dX7_comesFixer_31 : decode cX7_comesFixer 31 = .ok (.iconst 0, 1) := by decide +kernel
theorem dX7_comesFixer_32 : decode cX7_comesFixer 32 = .ok (.iastore, 1) := by decide +kernel
theorem dX7_comesFixer_33 : decode cX7_comesFixer 33 = .ok (.iinc 4 1, 3) := by decide +kernel
theorem dX7_comesFixer_36 : decode cX7_comesFixer 36 = .ok (.goto (-20), 3) := by decide +kernel
theorem dX7_comesFixer_39 : decode cX7_comesFixer 39 = .ok (.aload_n 0, 1) := by decide +kernel
theorem dX7_comesFixer_40 : decode cX7_comesFixer 40 = .ok (.getfield 7, 3) := by decide +kernel
theorem dX7_comesFixer_43 : decode cX7_comesFixer 43 = .ok (.iload_n 3, 1) := by decide +kernel
theorem dX7_comesFixer_44 : decode cX7_comesFixer 44 = .ok (.iconst 0, 1) := by decide +kernel
theorem dX7_comesFixer_45 : decode cX7_comesFixer 45 = .ok (.iadd, 1) := by decide +kernel
theorem dX7_comesFixer_46 : decode cX7_comesFixer 46 = .ok (.iload_n 1, 1) := by decide +kernel
theorem dX7_comesFixer_47 : decode cX7_comesFixer 47 = .ok (.iastore, 1) := by decide +kernel
theorem dX7_comesFixer_48 : decode cX7_comesFixer 48 = .ok (.aload_n 0, 1) := by decide +kernel
theorem dX7_comesFixer_49 : decode cX7_comesFixer 49 = .ok (.getfield 7, 3) := by decide +kernel
theorem dX7_comesFixer_52 : decode cX7_comesFixer 52 = .ok (.iload_n 3, 1) := by decide +kernel
theorem dX7_comesFixer_53 : decode cX7_comesFixer 53 = .ok (.iconst 1, 1) := by decide +kernel
theorem dX7_comesFixer_54 : decode cX7_comesFixer 54 = .ok (.iadd, 1) := by decide +kernel
theorem dX7_comesFixer_55 : decode cX7_comesFixer 55 = .ok (.iload_n 2, 1) := by decide +kernel
theorem dX7_comesFixer_56 : decode cX7_comesFixer 56 = .ok (.iastore, 1) := by decide +kernel
theorem dX7_comesFixer_57 : decode cX7_comesFixer 57 = .ok (.aload_n 0, 1) := by decide +kernel
theorem dX7_comesFixer_58 : decode cX7_comesFixer 58 = .ok (.getfield 7, 3) := by decide +kernel
theorem dX7_comesFixer_61 : decode cX7_comesFixer 61 = .ok (.iconst 2, 1) := by decide +kernel
theorem dX7_comesFixer_62 : decode cX7_comesFixer 62 = .ok (.dup2, 1) := by decide +kernel
theorem dX7_comesFixer_63 : decode cX7_comesFixer 63 = .ok (.iaload, 1) := by decide +kernel
theorem dX7_comesFixer_64 : decode cX7_comesFixer 64 = .ok (.iconst 1, 1) := by decide +kernel
theorem dX7_comesFixer_65 : decode cX7_comesFixer 65 = .ok (.iadd, 1) := by decide +kernel
theorem dX7_comesFixer_66 : decode cX7_comesFixer 66 = .ok (.iastore, 1) := by decide +kernel
theorem dX7_comesFixer_67 : decode cX7_comesFixer 67 = .ok (.aload_n 0, 1) := by decide +kernel
theorem dX7_comesFixer_68 : decode cX7_comesFixer 68 = .ok (.getfield 7, 3) := by decide +kernel
theorem dX7_comesFixer_71 : decode cX7_comesFixer 71 = .ok (.iconst 2, 1) := by decide +kernel
theorem dX7_comesFixer_72 : decode cX7_comesFixer 72 = .ok (.iaload, 1) := by decide +kernel
theorem dX7_comesFixer_73 : decode cX7_comesFixer 73 = .ok (.iconst 1, 1) := by decide +kernel
theorem dX7_comesFixer_74 : decode cX7_comesFixer 74 = .ok (.isub, 1) := by decide +kernel
theorem dX7_comesFixer_75 : decode cX7_comesFixer 75 = .ok (.ireturn, 1) := by decide +kernel
theorem dX7_fixer_0 : decode cX7_fixer 0 = .ok (.aload_n 0, 1) := by decide +kernel
theorem dX7_fixer_1 : decode cX7_fixer 1 = .ok (.iconst 0, 1) := by decide +kernel
theorem dX7_fixer_2 : decode cX7_fixer 2 = .ok (.putfield 32, 3) := by decide +kernel
theorem dX7_fixer_5 : decode cX7_fixer 5 = .ok (.aload_n 0, 1) := by decide +kernel
theorem dX7_fixer_6 : decode cX7_fixer 6 = .ok (.iload_n 1, 1) := by decide +kernel
theorem dX7_fixer_7 : decode cX7_fixer 7 = .ok (.iload_n 2, 1) := by decide +kernel
theorem dX7_fixer_8 : decode cX7_fixer 8 = .ok (.invokevirtual 108, 3) := by decide +kernel
theorem dX7_fixer_11 : decode cX7_fixer 11 = .ok (.istore_n 3, 1) := by decide +kernel
theorem dX7_fixer_12 : decode cX7_fixer 12 = .ok (.iload_n 3, 1) := by decide +kernel
theorem dX7_fixer_13 : decode cX7_fixer 13 = .ok (.ifCond .eq 5, 3) := by decide +kernel
theorem dX7_fixer_16 : decode cX7_fixer 16 = .ok (.iload_n 3, 1) := by decide +kernel
theorem dX7_fixer_17 : decode cX7_fixer 17 = .ok (.ireturn, 1) := by decide +kernel
theorem dX7_fixer_18 : decode cX7_fixer 18 = .ok (.aload_n 0, 1) := by decide +kernel
theorem dX7_fixer_19 : decode cX7_fixer 19 = .ok (.invokevirtual 102, 3) := by decide +kernel
theorem dX7_fixer_22 : decode cX7_fixer 22 = .ok (.aload_n 0, 1) := by decide +kernel
theorem dX7_fixer_23 : decode cX7_fixer 23 = .ok (.iload_n 1, 1) := by decide +kernel
theorem dX7_fixer_24 : decode cX7_fixer 24 = .ok (.iload_n 2, 1) := by decide +kernel
theorem dX7_fixer_25 : decode cX7_fixer 25 = .ok (.invokevirtual 111, 3) := by decide +kernel
theorem dX7_fixer_28 : decode cX7_fixer 28 = .ok (.ireturn, 1) := by decide +kernel
theorem dX7_refusesDrawer_0 : decode cX7_refusesDrawer 0 = .ok (.iload_n 0, 1) := by decide +kernel
theorem dX7_refusesDrawer_1 : decode cX7_refusesDrawer 1 = .ok (.iconst 0, 1) := by decide +kernel
theorem dX7_refusesDrawer_2 : decode cX7_refusesDrawer 2 = .ok (.bipush 7, 2) := by decide +kernel
theorem dX7_refusesDrawer_4 : decode cX7_refusesDrawer 4 = .ok (.invokestatic 94, 3) := by decide +kernel
theorem dX7_refusesDrawer_7 : decode cX7_refusesDrawer 7 = .ok (.ifCond .ne 7, 3) := by decide +kernel
theorem dX7_refusesDrawer_10 : decode cX7_refusesDrawer 10 = .ok (.iconst (-1), 1) := by decide +kernel
theorem dX7_refusesDrawer_11 : decode cX7_refusesDrawer 11 = .ok (.goto 19, 3) := by decide +kernel
theorem dX7_refusesDrawer_14 : decode cX7_refusesDrawer 14 = .ok (.iload_n 1, 1) := by decide +kernel
theorem dX7_refusesDrawer_15 : decode cX7_refusesDrawer 15 = .ok (.iconst 0, 1) := by decide +kernel
theorem dX7_refusesDrawer_16 : decode cX7_refusesDrawer 16 = .ok (.bipush 99, 2) := by decide +kernel
theorem dX7_refusesDrawer_18 : decode cX7_refusesDrawer 18 = .ok (.invokestatic 94, 3) := by decide +kernel
theorem dX7_refusesDrawer_21 : decode cX7_refusesDrawer 21 = .ok (.ifCond .eq 7, 3) := by decide +kernel
theorem dX7_refusesDrawer_24 : decode cX7_refusesDrawer 24 = .ok (.iconst 0, 1) := by decide +kernel
theorem dX7_refusesDrawer_25 : decode cX7_refusesDrawer 25 = .ok (.goto 5, 3) := by decide +kernel
theorem dX7_refusesDrawer_28 : decode cX7_refusesDrawer 28 = .ok (.bipush (-2), 2) := by decide +kernel
theorem dX7_refusesDrawer_30 : decode cX7_refusesDrawer 30 = .ok (.ireturn, 1) := by decide +kernel
theorem dX7_drawer_0 : decode cX7_drawer 0 = .ok (.aload_n 0, 1) := by decide +kernel
theorem dX7_drawer_1 : decode cX7_drawer 1 = .ok (.iconst 0, 1) := by decide +kernel
theorem dX7_drawer_2 : decode cX7_drawer 2 = .ok (.putfield 32, 3) := by decide +kernel
theorem dX7_drawer_5 : decode cX7_drawer 5 = .ok (.iload_n 1, 1) := by decide +kernel
theorem dX7_drawer_6 : decode cX7_drawer 6 = .ok (.iload_n 2, 1) := by decide +kernel
theorem dX7_drawer_7 : decode cX7_drawer 7 = .ok (.invokestatic 114, 3) := by decide +kernel
theorem dX7_drawer_10 : decode cX7_drawer 10 = .ok (.istore_n 3, 1) := by decide +kernel
theorem dX7_drawer_11 : decode cX7_drawer 11 = .ok (.iload_n 3, 1) := by decide +kernel
theorem dX7_drawer_12 : decode cX7_drawer 12 = .ok (.ifCond .eq 5, 3) := by decide +kernel
theorem dX7_drawer_15 : decode cX7_drawer 15 = .ok (.iload_n 3, 1) := by decide +kernel
theorem dX7_drawer_16 : decode cX7_drawer 16 = .ok (.ireturn, 1) := by decide +kernel
theorem dX7_drawer_17 : decode cX7_drawer 17 = .ok (.aload_n 0, 1) := by decide +kernel
theorem dX7_drawer_18 : decode cX7_drawer 18 = .ok (.invokevirtual 102, 3) := by decide +kernel
theorem dX7_drawer_21 : decode cX7_drawer 21 = .ok (.aload_n 0, 1) := by decide +kernel
theorem dX7_drawer_22 : decode cX7_drawer 22 = .ok (.getfield 7, 3) := by decide +kernel
theorem dX7_drawer_25 : decode cX7_drawer 25 = .ok (.iconst 3, 1) := by decide +kernel
theorem dX7_drawer_26 : decode cX7_drawer 26 = .ok (.iload_n 1, 1) := by decide +kernel
theorem dX7_drawer_27 : decode cX7_drawer 27 = .ok (.iadd, 1) := by decide +kernel
theorem dX7_drawer_28 : decode cX7_drawer 28 = .ok (.iaload, 1) := by decide +kernel
theorem dX7_drawer_29 : decode cX7_drawer 29 = .ok (.istore 4, 2) := by decide +kernel
theorem dX7_drawer_31 : decode cX7_drawer 31 = .ok (.aload_n 0, 1) := by decide +kernel
theorem dX7_drawer_32 : decode cX7_drawer 32 = .ok (.getfield 7, 3) := by decide +kernel
theorem dX7_drawer_35 : decode cX7_drawer 35 = .ok (.iconst 3, 1) := by decide +kernel
theorem dX7_drawer_36 : decode cX7_drawer 36 = .ok (.iload_n 1, 1) := by decide +kernel
theorem dX7_drawer_37 : decode cX7_drawer 37 = .ok (.iadd, 1) := by decide +kernel
theorem dX7_drawer_38 : decode cX7_drawer 38 = .ok (.iload_n 2, 1) := by decide +kernel
theorem dX7_drawer_39 : decode cX7_drawer 39 = .ok (.iastore, 1) := by decide +kernel
theorem dX7_drawer_40 : decode cX7_drawer 40 = .ok (.iload 4, 2) := by decide +kernel
theorem dX7_drawer_42 : decode cX7_drawer 42 = .ok (.ireturn, 1) := by decide +kernel
theorem dX7_isThing_0 : decode cX7_isThing 0 = .ok (.iload_n 1, 1) := by decide +kernel
theorem dX7_isThing_1 : decode cX7_isThing 1 = .ok (.iconst 0, 1) := by decide +kernel
theorem dX7_isThing_2 : decode cX7_isThing 2 = .ok (.aload_n 0, 1) := by decide +kernel
theorem dX7_isThing_3 : decode cX7_isThing 3 = .ok (.getfield 7, 3) := by decide +kernel
theorem dX7_isThing_6 : decode cX7_isThing 6 = .ok (.iconst 1, 1) := by decide +kernel
theorem dX7_isThing_7 : decode cX7_isThing 7 = .ok (.iaload, 1) := by decide +kernel
theorem dX7_isThing_8 : decode cX7_isThing 8 = .ok (.iconst 1, 1) := by decide +kernel
theorem dX7_isThing_9 : decode cX7_isThing 9 = .ok (.isub, 1) := by decide +kernel
theorem dX7_isThing_10 : decode cX7_isThing 10 = .ok (.invokestatic 94, 3) := by decide +kernel
theorem dX7_isThing_13 : decode cX7_isThing 13 = .ok (.ireturn, 1) := by decide +kernel
theorem dX7_giveUp_0 : decode cX7_giveUp 0 = .ok (.aload_n 0, 1) := by decide +kernel
theorem dX7_giveUp_1 : decode cX7_giveUp 1 = .ok (.iconst 0, 1) := by decide +kernel
theorem dX7_giveUp_2 : decode cX7_giveUp 2 = .ok (.putfield 32, 3) := by decide +kernel
theorem dX7_giveUp_5 : decode cX7_giveUp 5 = .ok (.aload_n 0, 1) := by decide +kernel
theorem dX7_giveUp_6 : decode cX7_giveUp 6 = .ok (.iload_n 1, 1) := by decide +kernel
theorem dX7_giveUp_7 : decode cX7_giveUp 7 = .ok (.invokevirtual 117, 3) := by decide +kernel
theorem dX7_giveUp_10 : decode cX7_giveUp 10 = .ok (.ifCond .ne 5, 3) := by decide +kernel
theorem dX7_giveUp_13 : decode cX7_giveUp 13 = .ok (.iconst (-1), 1) := by decide +kernel
theorem dX7_giveUp_14 : decode cX7_giveUp 14 = .ok (.ireturn, 1) := by decide +kernel
theorem dX7_giveUp_15 : decode cX7_giveUp 15 = .ok (.aload_n 0, 1) := by decide +kernel
theorem dX7_giveUp_16 : decode cX7_giveUp 16 = .ok (.iload_n 1, 1) := by decide +kernel
theorem dX7_giveUp_17 : decode cX7_giveUp 17 = .ok (.iconst 4, 1) := by decide +kernel
theorem dX7_giveUp_18 : decode cX7_giveUp 18 = .ok (.invokevirtual 39, 3) := by decide +kernel
theorem dX7_giveUp_21 : decode cX7_giveUp 21 = .ok (.ifCond .eq 6, 3) := by decide +kernel
theorem dX7_giveUp_24 : decode cX7_giveUp 24 = .ok (.bipush (-5), 2) := by decide +kernel
theorem dX7_giveUp_26 : decode cX7_giveUp 26 = .ok (.ireturn, 1) := by decide +kernel
theorem dX7_giveUp_27 : decode cX7_giveUp 27 = .ok (.aload_n 0, 1) := by decide +kernel
theorem dX7_giveUp_28 : decode cX7_giveUp 28 = .ok (.invokevirtual 102, 3) := by decide +kernel
theorem dX7_giveUp_31 : decode cX7_giveUp 31 = .ok (.aload_n 0, 1) := by decide +kernel
theorem dX7_giveUp_32 : decode cX7_giveUp 32 = .ok (.iload_n 1, 1) := by decide +kernel
theorem dX7_giveUp_33 : decode cX7_giveUp 33 = .ok (.invokevirtual 54, 3) := by decide +kernel
theorem dX7_giveUp_36 : decode cX7_giveUp 36 = .ok (.ireturn, 1) := by decide +kernel
theorem dX7_refusesPass_0 : decode cX7_refusesPass 0 = .ok (.iload_n 1, 1) := by decide +kernel
theorem dX7_refusesPass_1 : decode cX7_refusesPass 1 = .ok (.iconst 1, 1) := by decide +kernel
theorem dX7_refusesPass_2 : decode cX7_refusesPass 2 = .ok (.bipush 99, 2) := by decide +kernel
theorem dX7_refusesPass_4 : decode cX7_refusesPass 4 = .ok (.invokestatic 94, 3) := by decide +kernel
theorem dX7_refusesPass_7 : decode cX7_refusesPass 7 = .ok (.ifCond .ne 6, 3) := by decide +kernel
theorem dX7_refusesPass_10 : decode cX7_refusesPass 10 = .ok (.bipush (-2), 2) := by decide +kernel
theorem dX7_refusesPass_12 : decode cX7_refusesPass 12 = .ok (.ireturn, 1) := by decide +kernel
theorem dX7_refusesPass_13 : decode cX7_refusesPass 13 = .ok (.aload_n 0, 1) := by decide +kernel
theorem dX7_refusesPass_14 : decode cX7_refusesPass 14 = .ok (.getfield 7, 3) := by decide +kernel
theorem dX7_refusesPass_17 : decode cX7_refusesPass 17 = .ok (.iconst 0, 1) := by decide +kernel
theorem dX7_refusesPass_18 : decode cX7_refusesPass 18 = .ok (.iaload, 1) := by decide +kernel
theorem dX7_refusesPass_19 : decode cX7_refusesPass 19 = .ok (.iload_n 1, 1) := by decide +kernel
theorem dX7_refusesPass_20 : decode cX7_refusesPass 20 = .ok (.iadd, 1) := by decide +kernel
theorem dX7_refusesPass_21 : decode cX7_refusesPass 21 = .ok (.sipush 9999, 3) := by decide +kernel
theorem dX7_refusesPass_24 : decode cX7_refusesPass 24 = .ok (.if_icmp .le 8, 3) := by decide +kernel
theorem dX7_refusesPass_27 : decode cX7_refusesPass 27 = .ok (.bipush (-5), 2) := by decide +kernel
theorem dX7_refusesPass_29 : decode cX7_refusesPass 29 = .ok (.goto 4, 3) := by decide +kernel
theorem dX7_refusesPass_32 : decode cX7_refusesPass 32 = .ok (.iconst 0, 1) := by decide +kernel
theorem dX7_refusesPass_33 : decode cX7_refusesPass 33 = .ok (.ireturn, 1) := by decide +kernel
theorem dX7_pass_0 : decode cX7_pass 0 = .ok (.aload_n 0, 1) := by decide +kernel
theorem dX7_pass_1 : decode cX7_pass 1 = .ok (.iconst 0, 1) := by decide +kernel
theorem dX7_pass_2 : decode cX7_pass 2 = .ok (.putfield 32, 3) := by decide +kernel
theorem dX7_pass_5 : decode cX7_pass 5 = .ok (.aload_n 0, 1) := by decide +kernel
theorem dX7_pass_6 : decode cX7_pass 6 = .ok (.iload_n 1, 1) := by decide +kernel
theorem dX7_pass_7 : decode cX7_pass 7 = .ok (.invokevirtual 120, 3) := by decide +kernel
theorem dX7_pass_10 : decode cX7_pass 10 = .ok (.istore_n 2, 1) := by decide +kernel
theorem dX7_pass_11 : decode cX7_pass 11 = .ok (.iload_n 2, 1) := by decide +kernel
theorem dX7_pass_12 : decode cX7_pass 12 = .ok (.ifCond .eq 5, 3) := by decide +kernel
theorem dX7_pass_15 : decode cX7_pass 15 = .ok (.iload_n 2, 1) := by decide +kernel
theorem dX7_pass_16 : decode cX7_pass 16 = .ok (.ireturn, 1) := by decide +kernel
theorem dX7_pass_17 : decode cX7_pass 17 = .ok (.aload_n 0, 1) := by decide +kernel
theorem dX7_pass_18 : decode cX7_pass 18 = .ok (.invokevirtual 102, 3) := by decide +kernel
theorem dX7_pass_21 : decode cX7_pass 21 = .ok (.aload_n 0, 1) := by decide +kernel
theorem dX7_pass_22 : decode cX7_pass 22 = .ok (.iload_n 1, 1) := by decide +kernel
theorem dX7_pass_23 : decode cX7_pass 23 = .ok (.invokevirtual 123, 3) := by decide +kernel
theorem dX7_pass_26 : decode cX7_pass 26 = .ok (.ireturn, 1) := by decide +kernel
theorem dX7_placeOf_0 : decode cX7_placeOf 0 = .ok (.aload_n 0, 1) := by decide +kernel
theorem dX7_placeOf_1 : decode cX7_placeOf 1 = .ok (.iload_n 1, 1) := by decide +kernel
theorem dX7_placeOf_2 : decode cX7_placeOf 2 = .ok (.iconst 4, 1) := by decide +kernel
theorem dX7_placeOf_3 : decode cX7_placeOf 3 = .ok (.invokevirtual 39, 3) := by decide +kernel
theorem dX7_placeOf_6 : decode cX7_placeOf 6 = .ok (.ifCond .eq 6, 3) := by decide +kernel
theorem dX7_placeOf_9 : decode cX7_placeOf 9 = .ok (.bipush (-6), 2) := by decide +kernel
theorem dX7_placeOf_11 : decode cX7_placeOf 11 = .ok (.ireturn, 1) := by decide +kernel
theorem dX7_placeOf_12 : decode cX7_placeOf 12 = .ok (.iconst 0, 1) := by decide +kernel
theorem dX7_placeOf_13 : decode cX7_placeOf 13 = .ok (.istore_n 2, 1) := by decide +kernel
theorem dX7_placeOf_14 : decode cX7_placeOf 14 = .ok (.iconst 0, 1) := by decide +kernel
theorem dX7_placeOf_15 : decode cX7_placeOf 15 = .ok (.istore_n 3, 1) := by decide +kernel
theorem dX7_placeOf_16 : decode cX7_placeOf 16 = .ok (.iload_n 3, 1) := by decide +kernel
theorem dX7_placeOf_17 : decode cX7_placeOf 17 = .ok (.aload_n 0, 1) := by decide +kernel
theorem dX7_placeOf_18 : decode cX7_placeOf 18 = .ok (.getfield 7, 3) := by decide +kernel
theorem dX7_placeOf_21 : decode cX7_placeOf 21 = .ok (.iconst 1, 1) := by decide +kernel
theorem dX7_placeOf_22 : decode cX7_placeOf 22 = .ok (.iaload, 1) := by decide +kernel
theorem dX7_placeOf_23 : decode cX7_placeOf 23 = .ok (.if_icmp .ge 56, 3) := by decide +kernel
theorem dX7_placeOf_26 : decode cX7_placeOf 26 = .ok (.aload_n 0, 1) := by decide +kernel
theorem dX7_placeOf_27 : decode cX7_placeOf 27 = .ok (.iload_n 1, 1) := by decide +kernel
theorem dX7_placeOf_28 : decode cX7_placeOf 28 = .ok (.iconst 2, 1) := by decide +kernel
theorem dX7_placeOf_29 : decode cX7_placeOf 29 = .ok (.invokevirtual 39, 3) := by decide +kernel
theorem dX7_placeOf_32 : decode cX7_placeOf 32 = .ok (.aload_n 0, 1) := by decide +kernel
theorem dX7_placeOf_33 : decode cX7_placeOf 33 = .ok (.iload_n 3, 1) := by decide +kernel
theorem dX7_placeOf_34 : decode cX7_placeOf 34 = .ok (.iconst 2, 1) := by decide +kernel
theorem dX7_placeOf_35 : decode cX7_placeOf 35 = .ok (.invokevirtual 39, 3) := by decide +kernel
theorem dX7_placeOf_38 : decode cX7_placeOf 38 = .ok (.isub, 1) := by decide +kernel
theorem dX7_placeOf_39 : decode cX7_placeOf 39 = .ok (.istore 4, 2) := by decide +kernel
theorem dX7_placeOf_41 : decode cX7_placeOf 41 = .ok (.iload_n 2, 1) := by decide +kernel
theorem dX7_placeOf_42 : decode cX7_placeOf 42 = .ok (.aload_n 0, 1) := by decide +kernel
theorem dX7_placeOf_43 : decode cX7_placeOf 43 = .ok (.iload_n 3, 1) := by decide +kernel
theorem dX7_placeOf_44 : decode cX7_placeOf 44 = .ok (.iconst 4, 1) := by decide +kernel
theorem dX7_placeOf_45 : decode cX7_placeOf 45 = .ok (.invokevirtual 39, 3) := by decide +kernel
theorem dX7_placeOf_48 : decode cX7_placeOf 48 = .ok (.ifCond .ne 22, 3) := by decide +kernel
theorem dX7_placeOf_51 : decode cX7_placeOf 51 = .ok (.iload 4, 2) := by decide +kernel
theorem dX7_placeOf_53 : decode cX7_placeOf 53 = .ok (.ifCond .gt 13, 3) := by decide +kernel
theorem dX7_placeOf_56 : decode cX7_placeOf 56 = .ok (.iload 4, 2) := by decide +kernel
theorem dX7_placeOf_58 : decode cX7_placeOf 58 = .ok (.ifCond .ne 12, 3) := by decide +kernel
theorem dX7_placeOf_61 : decode cX7_placeOf 61 = .ok (.iload_n 3, 1) := by decide +kernel
theorem dX7_placeOf_62 : decode cX7_placeOf 62 = .ok (.iload_n 1, 1) := by decide +kernel
theorem dX7_placeOf_63 : decode cX7_placeOf 63 = .ok (.if_icmp .ge 7, 3) := by decide +kernel
theorem dX7_placeOf_66 : decode cX7_placeOf 66 = .ok (.iconst 1, 1) := by decide +kernel
theorem dX7_placeOf_67 : decode cX7_placeOf 67 = .ok (.goto 4, 3) := by decide +kernel
theorem dX7_placeOf_70 : decode cX7_placeOf 70 = .ok (.iconst 0, 1) := by decide +kernel
theorem dX7_placeOf_71 : decode cX7_placeOf 71 = .ok (.iadd, 1) := by decide +kernel
theorem dX7_placeOf_72 : decode cX7_placeOf 72 = .ok (.istore_n 2, 1) := by decide +kernel
theorem dX7_placeOf_73 : decode cX7_placeOf 73 = .ok (.iinc 3 1, 3) := by decide +kernel
theorem dX7_placeOf_76 : decode cX7_placeOf 76 = .ok (.goto (-60), 3) := by decide +kernel
theorem dX7_placeOf_79 : decode cX7_placeOf 79 = .ok (.iload_n 2, 1) := by decide +kernel
theorem dX7_placeOf_80 : decode cX7_placeOf 80 = .ok (.ireturn, 1) := by decide +kernel
theorem dX7_ofThing_0 : decode cX7_ofThing 0 = .ok (.aload_n 0, 1) := by decide +kernel
theorem dX7_ofThing_1 : decode cX7_ofThing 1 = .ok (.iconst 0, 1) := by decide +kernel
theorem dX7_ofThing_2 : decode cX7_ofThing 2 = .ok (.putfield 32, 3) := by decide +kernel
theorem dX7_ofThing_5 : decode cX7_ofThing 5 = .ok (.aload_n 0, 1) := by decide +kernel
theorem dX7_ofThing_6 : decode cX7_ofThing 6 = .ok (.iload_n 1, 1) := by decide +kernel
theorem dX7_ofThing_7 : decode cX7_ofThing 7 = .ok (.invokevirtual 117, 3) := by decide +kernel
theorem dX7_ofThing_10 : decode cX7_ofThing 10 = .ok (.ifCond .ne 5, 3) := by decide +kernel
theorem dX7_ofThing_13 : decode cX7_ofThing 13 = .ok (.iconst (-1), 1) := by decide +kernel
theorem dX7_ofThing_14 : decode cX7_ofThing 14 = .ok (.ireturn, 1) := by decide +kernel
theorem dX7_ofThing_15 : decode cX7_ofThing 15 = .ok (.iload_n 2, 1) := by decide +kernel
theorem dX7_ofThing_16 : decode cX7_ofThing 16 = .ok (.tableswitch 59 5 8 #[32, 38, 45, 53], 32) := by decide +kernel
theorem dX7_ofThing_48 : decode cX7_ofThing 48 = .ok (.aload_n 0, 1) := by decide +kernel
theorem dX7_ofThing_49 : decode cX7_ofThing 49 = .ok (.iload_n 1, 1) := by decide +kernel
theorem dX7_ofThing_50 : decode cX7_ofThing 50 = .ok (.invokevirtual 126, 3) := by decide +kernel
theorem dX7_ofThing_53 : decode cX7_ofThing 53 = .ok (.ireturn, 1) := by decide +kernel
theorem dX7_ofThing_54 : decode cX7_ofThing 54 = .ok (.aload_n 0, 1) := by decide +kernel
theorem dX7_ofThing_55 : decode cX7_ofThing 55 = .ok (.iload_n 1, 1) := by decide +kernel
theorem dX7_ofThing_56 : decode cX7_ofThing 56 = .ok (.iconst 5, 1) := by decide +kernel
theorem dX7_ofThing_57 : decode cX7_ofThing 57 = .ok (.invokevirtual 39, 3) := by decide +kernel
theorem dX7_ofThing_60 : decode cX7_ofThing 60 = .ok (.ireturn, 1) := by decide +kernel
theorem dX7_ofThing_61 : decode cX7_ofThing 61 = .ok (.aload_n 0, 1) := by decide +kernel
theorem dX7_ofThing_62 : decode cX7_ofThing 62 = .ok (.iload_n 1, 1) := by decide +kernel
theorem dX7_ofThing_63 : decode cX7_ofThing 63 = .ok (.bipush 6, 2) := by decide +kernel
theorem dX7_ofThing_65 : decode cX7_ofThing 65 = .ok (.invokevirtual 39, 3) := by decide +kernel
theorem dX7_ofThing_68 : decode cX7_ofThing 68 = .ok (.ireturn, 1) := by decide +kernel
theorem dX7_ofThing_69 : decode cX7_ofThing 69 = .ok (.aload_n 0, 1) := by decide +kernel
theorem dX7_ofThing_70 : decode cX7_ofThing 70 = .ok (.iload_n 1, 1) := by decide +kernel
theorem dX7_ofThing_71 : decode cX7_ofThing 71 = .ok (.invokevirtual 129, 3) := by decide +kernel
theorem dX7_ofThing_74 : decode cX7_ofThing 74 = .ok (.ireturn, 1) := by decide +kernel
theorem dX7_ofThing_75 : decode cX7_ofThing 75 = .ok (.iload_n 2, 1) := by decide +kernel
theorem dX7_ofThing_76 : decode cX7_ofThing 76 = .ok (.iconst 0, 1) := by decide +kernel
theorem dX7_ofThing_77 : decode cX7_ofThing 77 = .ok (.iconst 4, 1) := by decide +kernel
theorem dX7_ofThing_78 : decode cX7_ofThing 78 = .ok (.invokestatic 94, 3) := by decide +kernel
theorem dX7_ofThing_81 : decode cX7_ofThing 81 = .ok (.ifCond .eq 12, 3) := by decide +kernel
theorem dX7_ofThing_84 : decode cX7_ofThing 84 = .ok (.aload_n 0, 1) := by decide +kernel
theorem dX7_ofThing_85 : decode cX7_ofThing 85 = .ok (.iload_n 1, 1) := by decide +kernel
theorem dX7_ofThing_86 : decode cX7_ofThing 86 = .ok (.iload_n 2, 1) := by decide +kernel
theorem dX7_ofThing_87 : decode cX7_ofThing 87 = .ok (.invokevirtual 39, 3) := by decide +kernel
theorem dX7_ofThing_90 : decode cX7_ofThing 90 = .ok (.goto 5, 3) := by decide +kernel
theorem dX7_ofThing_93 : decode cX7_ofThing 93 = .ok (.bipush (-2), 2) := by decide +kernel
theorem dX7_ofThing_95 : decode cX7_ofThing 95 = .ok (.ireturn, 1) := by decide +kernel
theorem dX7_ofFixer_0 : decode cX7_ofFixer 0 = .ok (.aload_n 0, 1) := by decide +kernel
theorem dX7_ofFixer_1 : decode cX7_ofFixer 1 = .ok (.iconst 0, 1) := by decide +kernel
theorem dX7_ofFixer_2 : decode cX7_ofFixer 2 = .ok (.putfield 32, 3) := by decide +kernel
theorem dX7_ofFixer_5 : decode cX7_ofFixer 5 = .ok (.iload_n 1, 1) := by decide +kernel
theorem dX7_ofFixer_6 : decode cX7_ofFixer 6 = .ok (.iconst 0, 1) := by decide +kernel
theorem dX7_ofFixer_7 : decode cX7_ofFixer 7 = .ok (.aload_n 0, 1) := by decide +kernel
theorem dX7_ofFixer_8 : decode cX7_ofFixer 8 = .ok (.getfield 7, 3) := by decide +kernel
theorem dX7_ofFixer_11 : decode cX7_ofFixer 11 = .ok (.iconst 2, 1) := by decide +kernel
theorem dX7_ofFixer_12 : decode cX7_ofFixer 12 = .ok (.iaload, 1) := by decide +kernel
theorem dX7_ofFixer_13 : decode cX7_ofFixer 13 = .ok (.iconst 1, 1) := by decide +kernel
theorem dX7_ofFixer_14 : decode cX7_ofFixer 14 = .ok (.isub, 1) := by decide +kernel
theorem dX7_ofFixer_15 : decode cX7_ofFixer 15 = .ok (.invokestatic 94, 3) := by decide +kernel
theorem dX7_ofFixer_18 : decode cX7_ofFixer 18 = .ok (.ifCond .ne 5, 3) := by decide +kernel
theorem dX7_ofFixer_21 : decode cX7_ofFixer 21 = .ok (.iconst (-1), 1) := by decide +kernel
theorem dX7_ofFixer_22 : decode cX7_ofFixer 22 = .ok (.ireturn, 1) := by decide +kernel
theorem dX7_ofFixer_23 : decode cX7_ofFixer 23 = .ok (.iload_n 2, 1) := by decide +kernel
theorem dX7_ofFixer_24 : decode cX7_ofFixer 24 = .ok (.lookupswitch 62 #[(2, 28), (6, 51)], 28) := by decide +kernel
theorem dX7_ofFixer_52 : decode cX7_ofFixer 52 = .ok (.aload_n 0, 1) := by decide +kernel
theorem dX7_ofFixer_53 : decode cX7_ofFixer 53 = .ok (.iload_n 1, 1) := by decide +kernel
theorem dX7_ofFixer_54 : decode cX7_ofFixer 54 = .ok (.iconst 2, 1) := by decide +kernel
theorem dX7_ofFixer_55 : decode cX7_ofFixer 55 = .ok (.invokevirtual 51, 3) := by decide +kernel
theorem dX7_ofFixer_58 : decode cX7_ofFixer 58 = .ok (.ifCond .ne 8, 3) := by decide +kernel
theorem dX7_ofFixer_61 : decode cX7_ofFixer 61 = .ok (.bipush (-6), 2) := by decide +kernel
theorem dX7_ofFixer_63 : decode cX7_ofFixer 63 = .ok (.goto 11, 3) := by decide +kernel
theorem dX7_ofFixer_66 : decode cX7_ofFixer 66 = .ok (.aload_n 0, 1) := by decide +kernel
theorem dX7_ofFixer_67 : decode cX7_ofFixer 67 = .ok (.iload_n 1, 1) := by decide +kernel
theorem dX7_ofFixer_68 : decode cX7_ofFixer 68 = .ok (.iconst 2, 1) := by decide +kernel
theorem dX7_ofFixer_69 : decode cX7_ofFixer 69 = .ok (.invokevirtual 51, 3) := by decide +kernel
theorem dX7_ofFixer_72 : decode cX7_ofFixer 72 = .ok (.iconst 1, 1) := by decide +kernel
theorem dX7_ofFixer_73 : decode cX7_ofFixer 73 = .ok (.isub, 1) := by decide +kernel
theorem dX7_ofFixer_74 : decode cX7_ofFixer 74 = .ok (.ireturn, 1) := by decide +kernel
theorem dX7_ofFixer_75 : decode cX7_ofFixer 75 = .ok (.aload_n 0, 1) := by decide +kernel
theorem dX7_ofFixer_76 : decode cX7_ofFixer 76 = .ok (.aload_n 0, 1) := by decide +kernel
theorem dX7_ofFixer_77 : decode cX7_ofFixer 77 = .ok (.iload_n 1, 1) := by decide +kernel
theorem dX7_ofFixer_78 : decode cX7_ofFixer 78 = .ok (.iconst 0, 1) := by decide +kernel
theorem dX7_ofFixer_79 : decode cX7_ofFixer 79 = .ok (.invokevirtual 51, 3) := by decide +kernel
theorem dX7_ofFixer_82 : decode cX7_ofFixer 82 = .ok (.invokevirtual 79, 3) := by decide +kernel
theorem dX7_ofFixer_85 : decode cX7_ofFixer 85 = .ok (.ireturn, 1) := by decide +kernel
theorem dX7_ofFixer_86 : decode cX7_ofFixer 86 = .ok (.iload_n 2, 1) := by decide +kernel
theorem dX7_ofFixer_87 : decode cX7_ofFixer 87 = .ok (.iconst 0, 1) := by decide +kernel
theorem dX7_ofFixer_88 : decode cX7_ofFixer 88 = .ok (.iconst 5, 1) := by decide +kernel
theorem dX7_ofFixer_89 : decode cX7_ofFixer 89 = .ok (.invokestatic 94, 3) := by decide +kernel
theorem dX7_ofFixer_92 : decode cX7_ofFixer 92 = .ok (.ifCond .eq 12, 3) := by decide +kernel
theorem dX7_ofFixer_95 : decode cX7_ofFixer 95 = .ok (.aload_n 0, 1) := by decide +kernel
theorem dX7_ofFixer_96 : decode cX7_ofFixer 96 = .ok (.iload_n 1, 1) := by decide +kernel
theorem dX7_ofFixer_97 : decode cX7_ofFixer 97 = .ok (.iload_n 2, 1) := by decide +kernel
theorem dX7_ofFixer_98 : decode cX7_ofFixer 98 = .ok (.invokevirtual 51, 3) := by decide +kernel
theorem dX7_ofFixer_101 : decode cX7_ofFixer 101 = .ok (.goto 5, 3) := by decide +kernel
theorem dX7_ofFixer_104 : decode cX7_ofFixer 104 = .ok (.bipush (-2), 2) := by decide +kernel
theorem dX7_ofFixer_106 : decode cX7_ofFixer 106 = .ok (.ireturn, 1) := by decide +kernel
theorem dX7_brokenOnes_0 : decode cX7_brokenOnes 0 = .ok (.iconst 0, 1) := by decide +kernel
theorem dX7_brokenOnes_1 : decode cX7_brokenOnes 1 = .ok (.istore_n 2, 1) := by decide +kernel
theorem dX7_brokenOnes_2 : decode cX7_brokenOnes 2 = .ok (.iconst 0, 1) := by decide +kernel
theorem dX7_brokenOnes_3 : decode cX7_brokenOnes 3 = .ok (.istore_n 3, 1) := by decide +kernel
theorem dX7_brokenOnes_4 : decode cX7_brokenOnes 4 = .ok (.iload_n 3, 1) := by decide +kernel
theorem dX7_brokenOnes_5 : decode cX7_brokenOnes 5 = .ok (.aload_n 0, 1) := by decide +kernel
theorem dX7_brokenOnes_6 : decode cX7_brokenOnes 6 = .ok (.getfield 7, 3) := by decide +kernel
theorem dX7_brokenOnes_9 : decode cX7_brokenOnes 9 = .ok (.iconst 1, 1) := by decide +kernel
theorem dX7_brokenOnes_10 : decode cX7_brokenOnes 10 = .ok (.iaload, 1) := by decide +kernel
theorem dX7_brokenOnes_11 : decode cX7_brokenOnes 11 = .ok (.if_icmp .ge 36, 3) := by decide +kernel
theorem dX7_brokenOnes_14 : decode cX7_brokenOnes 14 = .ok (.iload_n 2, 1) := by decide +kernel
theorem dX7_brokenOnes_15 : decode cX7_brokenOnes 15 = .ok (.aload_n 0, 1) := by decide +kernel
theorem dX7_brokenOnes_16 : decode cX7_brokenOnes 16 = .ok (.iload_n 3, 1) := by decide +kernel
theorem dX7_brokenOnes_17 : decode cX7_brokenOnes 17 = .ok (.iconst 4, 1) := by decide +kernel
theorem dX7_brokenOnes_18 : decode cX7_brokenOnes 18 = .ok (.invokevirtual 39, 3) := by decide +kernel
theorem dX7_brokenOnes_21 : decode cX7_brokenOnes 21 = .ok (.iconst 2, 1) := by decide +kernel
theorem dX7_brokenOnes_22 : decode cX7_brokenOnes 22 = .ok (.if_icmp .ge 16, 3) := by decide +kernel
theorem dX7_brokenOnes_25 : decode cX7_brokenOnes 25 = .ok (.aload_n 0, 1) := by decide +kernel
theorem dX7_brokenOnes_26 : decode cX7_brokenOnes 26 = .ok (.iload_n 3, 1) := by decide +kernel
theorem dX7_brokenOnes_27 : decode cX7_brokenOnes 27 = .ok (.iconst 1, 1) := by decide +kernel
theorem dX7_brokenOnes_28 : decode cX7_brokenOnes 28 = .ok (.invokevirtual 39, 3) := by decide +kernel
theorem dX7_brokenOnes_31 : decode cX7_brokenOnes 31 = .ok (.iload_n 1, 1) := by decide +kernel
theorem dX7_brokenOnes_32 : decode cX7_brokenOnes 32 = .ok (.ishr, 1) := by decide +kernel
theorem dX7_brokenOnes_33 : decode cX7_brokenOnes 33 = .ok (.iconst 1, 1) := by decide +kernel
theorem dX7_brokenOnes_34 : decode cX7_brokenOnes 34 = .ok (.iand, 1) := by decide +kernel
theorem dX7_brokenOnes_35 : decode cX7_brokenOnes 35 = .ok (.goto 4, 3) := by decide +kernel
theorem dX7_brokenOnes_38 : decode cX7_brokenOnes 38 = .ok (.iconst 0, 1) := by decide +kernel
theorem dX7_brokenOnes_39 : decode cX7_brokenOnes 39 = .ok (.iadd, 1) := by decide +kernel
theorem dX7_brokenOnes_40 : decode cX7_brokenOnes 40 = .ok (.istore_n 2, 1) := by decide +kernel
theorem dX7_brokenOnes_41 : decode cX7_brokenOnes 41 = .ok (.iinc 3 1, 3) := by decide +kernel
theorem dX7_brokenOnes_44 : decode cX7_brokenOnes 44 = .ok (.goto (-40), 3) := by decide +kernel
theorem dX7_brokenOnes_47 : decode cX7_brokenOnes 47 = .ok (.iload_n 2, 1) := by decide +kernel
theorem dX7_brokenOnes_48 : decode cX7_brokenOnes 48 = .ok (.ireturn, 1) := by decide +kernel
theorem dX7_ofPart_0 : decode cX7_ofPart 0 = .ok (.aload_n 0, 1) := by decide +kernel
theorem dX7_ofPart_1 : decode cX7_ofPart 1 = .ok (.iconst 0, 1) := by decide +kernel
theorem dX7_ofPart_2 : decode cX7_ofPart 2 = .ok (.putfield 32, 3) := by decide +kernel
theorem dX7_ofPart_5 : decode cX7_ofPart 5 = .ok (.iload_n 1, 1) := by decide +kernel
theorem dX7_ofPart_6 : decode cX7_ofPart 6 = .ok (.iconst 0, 1) := by decide +kernel
theorem dX7_ofPart_7 : decode cX7_ofPart 7 = .ok (.bipush 7, 2) := by decide +kernel
theorem dX7_ofPart_9 : decode cX7_ofPart 9 = .ok (.invokestatic 94, 3) := by decide +kernel
theorem dX7_ofPart_12 : decode cX7_ofPart 12 = .ok (.ifCond .ne 5, 3) := by decide +kernel
theorem dX7_ofPart_15 : decode cX7_ofPart 15 = .ok (.iconst (-1), 1) := by decide +kernel
theorem dX7_ofPart_16 : decode cX7_ofPart 16 = .ok (.ireturn, 1) := by decide +kernel
theorem dX7_ofPart_17 : decode cX7_ofPart 17 = .ok (.iload_n 2, 1) := by decide +kernel
theorem dX7_ofPart_18 : decode cX7_ofPart 18 = .ok (.tableswitch 65 0 3 #[30, 39, 45, 55], 30) := by decide +kernel
theorem dX7_ofPart_48 : decode cX7_ofPart 48 = .ok (.aload_n 0, 1) := by decide +kernel
theorem dX7_ofPart_49 : decode cX7_ofPart 49 = .ok (.getfield 7, 3) := by decide +kernel
theorem dX7_ofPart_52 : decode cX7_ofPart 52 = .ok (.iconst 3, 1) := by decide +kernel
theorem dX7_ofPart_53 : decode cX7_ofPart 53 = .ok (.iload_n 1, 1) := by decide +kernel
theorem dX7_ofPart_54 : decode cX7_ofPart 54 = .ok (.iadd, 1) := by decide +kernel
theorem dX7_ofPart_55 : decode cX7_ofPart 55 = .ok (.iaload, 1) := by decide +kernel
theorem dX7_ofPart_56 : decode cX7_ofPart 56 = .ok (.ireturn, 1) := by decide +kernel
theorem dX7_ofPart_57 : decode cX7_ofPart 57 = .ok (.aload_n 0, 1) := by decide +kernel
theorem dX7_ofPart_58 : decode cX7_ofPart 58 = .ok (.iload_n 1, 1) := by decide +kernel
theorem dX7_ofPart_59 : decode cX7_ofPart 59 = .ok (.invokevirtual 132, 3) := by decide +kernel
theorem dX7_ofPart_62 : decode cX7_ofPart 62 = .ok (.ireturn, 1) := by decide +kernel
theorem dX7_ofPart_63 : decode cX7_ofPart 63 = .ok (.aload_n 0, 1) := by decide +kernel
theorem dX7_ofPart_64 : decode cX7_ofPart 64 = .ok (.getfield 7, 3) := by decide +kernel
theorem dX7_ofPart_67 : decode cX7_ofPart 67 = .ok (.bipush 11, 2) := by decide +kernel
theorem dX7_ofPart_69 : decode cX7_ofPart 69 = .ok (.iload_n 1, 1) := by decide +kernel
theorem dX7_ofPart_70 : decode cX7_ofPart 70 = .ok (.iadd, 1) := by decide +kernel
theorem dX7_ofPart_71 : decode cX7_ofPart 71 = .ok (.iaload, 1) := by decide +kernel
theorem dX7_ofPart_72 : decode cX7_ofPart 72 = .ok (.ireturn, 1) := by decide +kernel
theorem dX7_ofPart_73 : decode cX7_ofPart 73 = .ok (.aload_n 0, 1) := by decide +kernel
theorem dX7_ofPart_74 : decode cX7_ofPart 74 = .ok (.getfield 7, 3) := by decide +kernel
theorem dX7_ofPart_77 : decode cX7_ofPart 77 = .ok (.bipush 19, 2) := by decide +kernel
theorem dX7_ofPart_79 : decode cX7_ofPart 79 = .ok (.iload_n 1, 1) := by decide +kernel
theorem dX7_ofPart_80 : decode cX7_ofPart 80 = .ok (.iadd, 1) := by decide +kernel
theorem dX7_ofPart_81 : decode cX7_ofPart 81 = .ok (.iaload, 1) := by decide +kernel
theorem dX7_ofPart_82 : decode cX7_ofPart 82 = .ok (.ireturn, 1) := by decide +kernel
theorem dX7_ofPart_83 : decode cX7_ofPart 83 = .ok (.bipush (-2), 2) := by decide +kernel
theorem dX7_ofPart_85 : decode cX7_ofPart 85 = .ok (.ireturn, 1) := by decide +kernel
theorem dX7_count_0 : decode cX7_count 0 = .ok (.aload_n 0, 1) := by decide +kernel
theorem dX7_count_1 : decode cX7_count 1 = .ok (.iconst 0, 1) := by decide +kernel
theorem dX7_count_2 : decode cX7_count 2 = .ok (.putfield 32, 3) := by decide +kernel
theorem dX7_count_5 : decode cX7_count 5 = .ok (.iload_n 1, 1) := by decide +kernel
theorem dX7_count_6 : decode cX7_count 6 = .ok (.bipush 8, 2) := by decide +kernel
theorem dX7_count_8 : decode cX7_count 8 = .ok (.if_icmp .eq 9, 3) := by decide +kernel
theorem dX7_count_11 : decode cX7_count 11 = .ok (.iload_n 1, 1) := by decide +kernel
theorem dX7_count_12 : decode cX7_count 12 = .ok (.bipush 9, 2) := by decide +kernel
theorem dX7_count_14 : decode cX7_count 14 = .ok (.if_icmp .ne 21, 3) := by decide +kernel
theorem dX7_count_17 : decode cX7_count 17 = .ok (.iload_n 1, 1) := by decide +kernel
theorem dX7_count_18 : decode cX7_count 18 = .ok (.bipush 8, 2) := by decide +kernel
theorem dX7_count_20 : decode cX7_count 20 = .ok (.if_icmp .ne 10, 3) := by decide +kernel
theorem dX7_count_23 : decode cX7_count 23 = .ok (.aload_n 0, 1) := by decide +kernel
theorem dX7_count_24 : decode cX7_count 24 = .ok (.getfield 135, 3) := by decide +kernel
theorem dX7_count_27 : decode cX7_count 27 = .ok (.goto 7, 3) := by decide +kernel
theorem dX7_count_30 : decode cX7_count 30 = .ok (.aload_n 0, 1) := by decide +kernel
theorem dX7_count_31 : decode cX7_count 31 = .ok (.getfield 36, 3) := by decide +kernel
theorem dX7_count_34 : decode cX7_count 34 = .ok (.ireturn, 1) := by decide +kernel
theorem dX7_count_35 : decode cX7_count 35 = .ok (.iload_n 1, 1) := by decide +kernel
theorem dX7_count_36 : decode cX7_count 36 = .ok (.iconst 0, 1) := by decide +kernel
theorem dX7_count_37 : decode cX7_count 37 = .ok (.iconst 2, 1) := by decide +kernel
theorem dX7_count_38 : decode cX7_count 38 = .ok (.invokestatic 94, 3) := by decide +kernel
theorem dX7_count_41 : decode cX7_count 41 = .ok (.ifCond .eq 12, 3) := by decide +kernel
theorem dX7_count_44 : decode cX7_count 44 = .ok (.aload_n 0, 1) := by decide +kernel
theorem dX7_count_45 : decode cX7_count 45 = .ok (.getfield 7, 3) := by decide +kernel
theorem dX7_count_48 : decode cX7_count 48 = .ok (.iload_n 1, 1) := by decide +kernel
theorem dX7_count_49 : decode cX7_count 49 = .ok (.iaload, 1) := by decide +kernel
theorem dX7_count_50 : decode cX7_count 50 = .ok (.goto 25, 3) := by decide +kernel
theorem dX7_count_53 : decode cX7_count 53 = .ok (.iload_n 1, 1) := by decide +kernel
theorem dX7_count_54 : decode cX7_count 54 = .ok (.iconst 3, 1) := by decide +kernel
theorem dX7_count_55 : decode cX7_count 55 = .ok (.bipush 7, 2) := by decide +kernel
theorem dX7_count_57 : decode cX7_count 57 = .ok (.invokestatic 94, 3) := by decide +kernel
theorem dX7_count_60 : decode cX7_count 60 = .ok (.ifCond .eq 13, 3) := by decide +kernel
theorem dX7_count_63 : decode cX7_count 63 = .ok (.aload_n 0, 1) := by decide +kernel
theorem dX7_count_64 : decode cX7_count 64 = .ok (.iload_n 1, 1) := by decide +kernel
theorem dX7_count_65 : decode cX7_count 65 = .ok (.iconst 3, 1) := by decide +kernel
theorem dX7_count_66 : decode cX7_count 66 = .ok (.isub, 1) := by decide +kernel
theorem dX7_count_67 : decode cX7_count 67 = .ok (.invokevirtual 88, 3) := by decide +kernel
theorem dX7_count_70 : decode cX7_count 70 = .ok (.goto 5, 3) := by decide +kernel
theorem dX7_count_73 : decode cX7_count 73 = .ok (.bipush (-2), 2) := by decide +kernel
theorem dX7_count_75 : decode cX7_count 75 = .ok (.ireturn, 1) := by decide +kernel
theorem dX7_scarcest_0 : decode cX7_scarcest 0 = .ok (.aload_n 0, 1) := by decide +kernel
theorem dX7_scarcest_1 : decode cX7_scarcest 1 = .ok (.iconst 0, 1) := by decide +kernel
theorem dX7_scarcest_2 : decode cX7_scarcest 2 = .ok (.putfield 32, 3) := by decide +kernel
theorem dX7_scarcest_5 : decode cX7_scarcest 5 = .ok (.bipush (-6), 2) := by decide +kernel
theorem dX7_scarcest_7 : decode cX7_scarcest 7 = .ok (.istore_n 1, 1) := by decide +kernel
theorem dX7_scarcest_8 : decode cX7_scarcest 8 = .ok (.iconst 0, 1) := by decide +kernel
theorem dX7_scarcest_9 : decode cX7_scarcest 9 = .ok (.istore_n 2, 1) := by decide +kernel
theorem dX7_scarcest_10 : decode cX7_scarcest 10 = .ok (.iconst 0, 1) := by decide +kernel
theorem dX7_scarcest_11 : decode cX7_scarcest 11 = .ok (.istore_n 3, 1) := by decide +kernel
theorem dX7_scarcest_12 : decode cX7_scarcest 12 = .ok (.iload_n 3, 1) := by decide +kernel
theorem dX7_scarcest_13 : decode cX7_scarcest 13 = .ok (.bipush 8, 2) := by decide +kernel
theorem dX7_scarcest_15 : decode cX7_scarcest 15 = .ok (.if_icmp .ge 50, 3) := by decide +kernel
theorem dX7_scarcest_18 : decode cX7_scarcest 18 = .ok (.aload_n 0, 1) := by decide +kernel
theorem dX7_scarcest_19 : decode cX7_scarcest 19 = .ok (.iload_n 3, 1) := by decide +kernel
theorem dX7_scarcest_20 : decode cX7_scarcest 20 = .ok (.invokevirtual 132, 3) := by decide +kernel
theorem dX7_scarcest_23 : decode cX7_scarcest 23 = .ok (.aload_n 0, 1) := by decide +kernel
theorem dX7_scarcest_24 : decode cX7_scarcest 24 = .ok (.getfield 7, 3) := by decide +kernel
theorem dX7_scarcest_27 : decode cX7_scarcest 27 = .ok (.iconst 3, 1) := by decide +kernel
theorem dX7_scarcest_28 : decode cX7_scarcest 28 = .ok (.iload_n 3, 1) := by decide +kernel
theorem dX7_scarcest_29 : decode cX7_scarcest 29 = .ok (.iadd, 1) := by decide +kernel
theorem dX7_scarcest_30 : decode cX7_scarcest 30 = .ok (.iaload, 1) := by decide +kernel
theorem dX7_scarcest_31 : decode cX7_scarcest 31 = .ok (.isub, 1) := by decide +kernel
theorem dX7_scarcest_32 : decode cX7_scarcest 32 = .ok (.istore 4, 2) := by decide +kernel
theorem dX7_scarcest_34 : decode cX7_scarcest 34 = .ok (.iload 4, 2) := by decide +kernel
theorem dX7_scarcest_36 : decode cX7_scarcest 36 = .ok (.iload_n 2, 1) := by decide +kernel
theorem dX7_scarcest_37 : decode cX7_scarcest 37 = .ok (.if_icmp .le 7, 3) := by decide +kernel
theorem dX7_scarcest_40 : decode cX7_scarcest 40 = .ok (.iload_n 3, 1) := by decide +kernel
theorem dX7_scarcest_41 : decode cX7_scarcest 41 = .ok (.goto 4, 3) := by decide +kernel
theorem dX7_scarcest_44 : decode cX7_scarcest 44 = .ok (.iload_n 1, 1) := by decide +kernel
theorem dX7_scarcest_45 : decode cX7_scarcest 45 = .ok (.istore_n 1, 1) := by decide +kernel
theorem dX7_scarcest_46 : decode cX7_scarcest 46 = .ok (.iload 4, 2) := by decide +kernel
theorem dX7_scarcest_48 : decode cX7_scarcest 48 = .ok (.iload_n 2, 1) := by decide +kernel
theorem dX7_scarcest_49 : decode cX7_scarcest 49 = .ok (.if_icmp .le 8, 3) := by decide +kernel
theorem dX7_scarcest_52 : decode cX7_scarcest 52 = .ok (.iload 4, 2) := by decide +kernel
theorem dX7_scarcest_54 : decode cX7_scarcest 54 = .ok (.goto 4, 3) := by decide +kernel
theorem dX7_scarcest_57 : decode cX7_scarcest 57 = .ok (.iload_n 2, 1) := by decide +kernel
theorem dX7_scarcest_58 : decode cX7_scarcest 58 = .ok (.istore_n 2, 1) := by decide +kernel
theorem dX7_scarcest_59 : decode cX7_scarcest 59 = .ok (.iinc 3 1, 3) := by decide +kernel
theorem dX7_scarcest_62 : decode cX7_scarcest 62 = .ok (.goto (-50), 3) := by decide +kernel
theorem dX7_scarcest_65 : decode cX7_scarcest 65 = .ok (.iload_n 1, 1) := by decide +kernel
theorem dX7_scarcest_66 : decode cX7_scarcest 66 = .ok (.ireturn, 1) := by decide +kernel
theorem dX7_doneIn_0 : decode cX7_doneIn 0 = .ok (.aload_n 0, 1) := by decide +kernel
theorem dX7_doneIn_1 : decode cX7_doneIn 1 = .ok (.iconst 0, 1) := by decide +kernel
theorem dX7_doneIn_2 : decode cX7_doneIn 2 = .ok (.putfield 32, 3) := by decide +kernel
theorem dX7_doneIn_5 : decode cX7_doneIn 5 = .ok (.aload_n 0, 1) := by decide +kernel
theorem dX7_doneIn_6 : decode cX7_doneIn 6 = .ok (.iload_n 1, 1) := by decide +kernel
theorem dX7_doneIn_7 : decode cX7_doneIn 7 = .ok (.invokevirtual 117, 3) := by decide +kernel
theorem dX7_doneIn_10 : decode cX7_doneIn 10 = .ok (.ifCond .ne 5, 3) := by decide +kernel
theorem dX7_doneIn_13 : decode cX7_doneIn 13 = .ok (.iconst (-1), 1) := by decide +kernel
theorem dX7_doneIn_14 : decode cX7_doneIn 14 = .ok (.ireturn, 1) := by decide +kernel
theorem dX7_doneIn_15 : decode cX7_doneIn 15 = .ok (.aload_n 0, 1) := by decide +kernel
theorem dX7_doneIn_16 : decode cX7_doneIn 16 = .ok (.invokevirtual 138, 3) := by decide +kernel
theorem dX7_doneIn_19 : decode cX7_doneIn 19 = .ok (.iconst 0, 1) := by decide +kernel
theorem dX7_doneIn_20 : decode cX7_doneIn 20 = .ok (.istore_n 2, 1) := by decide +kernel
theorem dX7_doneIn_21 : decode cX7_doneIn 21 = .ok (.iload_n 2, 1) := by decide +kernel
theorem dX7_doneIn_22 : decode cX7_doneIn 22 = .ok (.sipush 501, 3) := by decide +kernel
theorem dX7_doneIn_25 : decode cX7_doneIn 25 = .ok (.if_icmp .ge 23, 3) := by decide +kernel
theorem dX7_doneIn_28 : decode cX7_doneIn 28 = .ok (.aload_n 0, 1) := by decide +kernel
theorem dX7_doneIn_29 : decode cX7_doneIn 29 = .ok (.iload_n 1, 1) := by decide +kernel
theorem dX7_doneIn_30 : decode cX7_doneIn 30 = .ok (.iconst 4, 1) := by decide +kernel
theorem dX7_doneIn_31 : decode cX7_doneIn 31 = .ok (.invokevirtual 39, 3) := by decide +kernel
theorem dX7_doneIn_34 : decode cX7_doneIn 34 = .ok (.iconst 2, 1) := by decide +kernel
theorem dX7_doneIn_35 : decode cX7_doneIn 35 = .ok (.if_icmp .ge 13, 3) := by decide +kernel
theorem dX7_doneIn_38 : decode cX7_doneIn 38 = .ok (.aload_n 0, 1) := by decide +kernel
theorem dX7_doneIn_39 : decode cX7_doneIn 39 = .ok (.invokevirtual 91, 3) := by decide +kernel
theorem dX7_doneIn_42 : decode cX7_doneIn 42 = .ok (.iinc 2 1, 3) := by decide +kernel
theorem dX7_doneIn_45 : decode cX7_doneIn 45 = .ok (.goto (-24), 3) := by decide +kernel
theorem dX7_doneIn_48 : decode cX7_doneIn 48 = .ok (.aload_n 0, 1) := by decide +kernel
theorem dX7_doneIn_49 : decode cX7_doneIn 49 = .ok (.invokevirtual 141, 3) := by decide +kernel
theorem dX7_doneIn_52 : decode cX7_doneIn 52 = .ok (.iload_n 2, 1) := by decide +kernel
theorem dX7_doneIn_53 : decode cX7_doneIn 53 = .ok (.sipush 500, 3) := by decide +kernel
theorem dX7_doneIn_56 : decode cX7_doneIn 56 = .ok (.if_icmp .le 8, 3) := by decide +kernel
theorem dX7_doneIn_59 : decode cX7_doneIn 59 = .ok (.bipush (-6), 2) := by decide +kernel
theorem dX7_doneIn_61 : decode cX7_doneIn 61 = .ok (.goto 4, 3) := by decide +kernel
theorem dX7_doneIn_64 : decode cX7_doneIn 64 = .ok (.iload_n 2, 1) := by decide +kernel
theorem dX7_doneIn_65 : decode cX7_doneIn 65 = .ok (.ireturn, 1) := by decide +kernel
theorem dX7_repairedWith_0 : decode cX7_repairedWith 0 = .ok (.aload_n 0, 1) := by decide +kernel
theorem dX7_repairedWith_1 : decode cX7_repairedWith 1 = .ok (.invokevirtual 138, 3) := by decide +kernel
theorem dX7_repairedWith_4 : decode cX7_repairedWith 4 = .ok (.aload_n 0, 1) := by decide +kernel
theorem dX7_repairedWith_5 : decode cX7_repairedWith 5 = .ok (.iload_n 1, 1) := by decide +kernel
theorem dX7_repairedWith_6 : decode cX7_repairedWith 6 = .ok (.iload_n 2, 1) := by decide +kernel
theorem dX7_repairedWith_7 : decode cX7_repairedWith 7 = .ok (.invokevirtual 111, 3) := by decide +kernel
theorem dX7_repairedWith_10 : decode cX7_repairedWith 10 = .ok (.pop, 1) := by decide +kernel
theorem dX7_repairedWith_11 : decode cX7_repairedWith 11 = .ok (.aload_n 0, 1) := by decide +kernel
theorem dX7_repairedWith_12 : decode cX7_repairedWith 12 = .ok (.iload_n 3, 1) := by decide +kernel
theorem dX7_repairedWith_13 : decode cX7_repairedWith 13 = .ok (.invokevirtual 123, 3) := by decide +kernel
theorem dX7_repairedWith_16 : decode cX7_repairedWith 16 = .ok (.istore 4, 2) := by decide +kernel
theorem dX7_repairedWith_18 : decode cX7_repairedWith 18 = .ok (.aload_n 0, 1) := by decide +kernel
theorem dX7_repairedWith_19 : decode cX7_repairedWith 19 = .ok (.invokevirtual 141, 3) := by decide +kernel
theorem dX7_repairedWith_22 : decode cX7_repairedWith 22 = .ok (.iload 4, 2) := by decide +kernel
theorem dX7_repairedWith_24 : decode cX7_repairedWith 24 = .ok (.ireturn, 1) := by decide +kernel
theorem dX7_withFixer_0 : decode cX7_withFixer 0 = .ok (.aload_n 0, 1) := by decide +kernel
theorem dX7_withFixer_1 : decode cX7_withFixer 1 = .ok (.iconst 0, 1) := by decide +kernel
theorem dX7_withFixer_2 : decode cX7_withFixer 2 = .ok (.putfield 32, 3) := by decide +kernel
theorem dX7_withFixer_5 : decode cX7_withFixer 5 = .ok (.aload_n 0, 1) := by decide +kernel
theorem dX7_withFixer_6 : decode cX7_withFixer 6 = .ok (.iload_n 1, 1) := by decide +kernel
theorem dX7_withFixer_7 : decode cX7_withFixer 7 = .ok (.iload_n 2, 1) := by decide +kernel
theorem dX7_withFixer_8 : decode cX7_withFixer 8 = .ok (.invokevirtual 108, 3) := by decide +kernel
theorem dX7_withFixer_11 : decode cX7_withFixer 11 = .ok (.istore 4, 2) := by decide +kernel
theorem dX7_withFixer_13 : decode cX7_withFixer 13 = .ok (.iload 4, 2) := by decide +kernel
theorem dX7_withFixer_15 : decode cX7_withFixer 15 = .ok (.bipush (-2), 2) := by decide +kernel
theorem dX7_withFixer_17 : decode cX7_withFixer 17 = .ok (.if_icmp .eq 14, 3) := by decide +kernel
theorem dX7_withFixer_20 : decode cX7_withFixer 20 = .ok (.iload_n 3, 1) := by decide +kernel
theorem dX7_withFixer_21 : decode cX7_withFixer 21 = .ok (.iconst 1, 1) := by decide +kernel
theorem dX7_withFixer_22 : decode cX7_withFixer 22 = .ok (.sipush 300, 3) := by decide +kernel
theorem dX7_withFixer_25 : decode cX7_withFixer 25 = .ok (.invokestatic 94, 3) := by decide +kernel
theorem dX7_withFixer_28 : decode cX7_withFixer 28 = .ok (.ifCond .ne 6, 3) := by decide +kernel
theorem dX7_withFixer_31 : decode cX7_withFixer 31 = .ok (.bipush (-2), 2) := by decide +kernel
theorem dX7_withFixer_33 : decode cX7_withFixer 33 = .ok (.ireturn, 1) := by decide +kernel
theorem dX7_withFixer_34 : decode cX7_withFixer 34 = .ok (.iload 4, 2) := by decide +kernel
theorem dX7_withFixer_36 : decode cX7_withFixer 36 = .ok (.ifCond .eq 8, 3) := by decide +kernel
theorem dX7_withFixer_39 : decode cX7_withFixer 39 = .ok (.iload 4, 2) := by decide +kernel
theorem dX7_withFixer_41 : decode cX7_withFixer 41 = .ok (.goto 10, 3) := by decide +kernel
theorem dX7_withFixer_44 : decode cX7_withFixer 44 = .ok (.aload_n 0, 1) := by decide +kernel
theorem dX7_withFixer_45 : decode cX7_withFixer 45 = .ok (.iload_n 1, 1) := by decide +kernel
theorem dX7_withFixer_46 : decode cX7_withFixer 46 = .ok (.iload_n 2, 1) := by decide +kernel
theorem dX7_withFixer_47 : decode cX7_withFixer 47 = .ok (.iload_n 3, 1) := by decide +kernel
theorem dX7_withFixer_48 : decode cX7_withFixer 48 = .ok (.invokevirtual 144, 3) := by decide +kernel
theorem dX7_withFixer_51 : decode cX7_withFixer 51 = .ok (.ireturn, 1) := by decide +kernel
theorem dX7_bestCare_0 : decode cX7_bestCare 0 = .ok (.aload_n 0, 1) := by decide +kernel
theorem dX7_bestCare_1 : decode cX7_bestCare 1 = .ok (.iconst 0, 1) := by decide +kernel
theorem dX7_bestCare_2 : decode cX7_bestCare 2 = .ok (.putfield 32, 3) := by decide +kernel
theorem dX7_bestCare_5 : decode cX7_bestCare 5 = .ok (.iload_n 1, 1) := by decide +kernel
theorem dX7_bestCare_6 : decode cX7_bestCare 6 = .ok (.iconst 1, 1) := by decide +kernel
theorem dX7_bestCare_7 : decode cX7_bestCare 7 = .ok (.sipush 300, 3) := by decide +kernel
theorem dX7_bestCare_10 : decode cX7_bestCare 10 = .ok (.invokestatic 94, 3) := by decide +kernel
theorem dX7_bestCare_13 : decode cX7_bestCare 13 = .ok (.ifCond .ne 6, 3) := by decide +kernel
theorem dX7_bestCare_16 : decode cX7_bestCare 16 = .ok (.bipush (-2), 2) := by decide +kernel
theorem dX7_bestCare_18 : decode cX7_bestCare 18 = .ok (.ireturn, 1) := by decide +kernel
theorem dX7_bestCare_19 : decode cX7_bestCare 19 = .ok (.aload_n 0, 1) := by decide +kernel
theorem dX7_bestCare_20 : decode cX7_bestCare 20 = .ok (.getfield 7, 3) := by decide +kernel
theorem dX7_bestCare_23 : decode cX7_bestCare 23 = .ok (.iconst 2, 1) := by decide +kernel
theorem dX7_bestCare_24 : decode cX7_bestCare 24 = .ok (.iaload, 1) := by decide +kernel
theorem dX7_bestCare_25 : decode cX7_bestCare 25 = .ok (.iconst 5, 1) := by decide +kernel
theorem dX7_bestCare_26 : decode cX7_bestCare 26 = .ok (.if_icmp .ne 6, 3) := by decide +kernel
theorem dX7_bestCare_29 : decode cX7_bestCare 29 = .ok (.bipush (-4), 2) := by decide +kernel
theorem dX7_bestCare_31 : decode cX7_bestCare 31 = .ok (.ireturn, 1) := by decide +kernel
theorem dX7_bestCare_32 : decode cX7_bestCare 32 = .ok (.iconst 0, 1) := by decide +kernel
theorem dX7_bestCare_33 : decode cX7_bestCare 33 = .ok (.istore_n 2, 1) := by decide +kernel
theorem dX7_bestCare_34 : decode cX7_bestCare 34 = .ok (.aload_n 0, 1) := by decide +kernel
theorem dX7_bestCare_35 : decode cX7_bestCare 35 = .ok (.bipush 63, 2) := by decide +kernel
theorem dX7_bestCare_37 : decode cX7_bestCare 37 = .ok (.iconst 0, 1) := by decide +kernel
theorem dX7_bestCare_38 : decode cX7_bestCare 38 = .ok (.iload_n 1, 1) := by decide +kernel
theorem dX7_bestCare_39 : decode cX7_bestCare 39 = .ok (.invokevirtual 144, 3) := by decide +kernel
theorem dX7_bestCare_42 : decode cX7_bestCare 42 = .ok (.istore_n 3, 1) := by decide +kernel
theorem dX7_bestCare_43 : decode cX7_bestCare 43 = .ok (.iconst 1, 1) := by decide +kernel
theorem dX7_bestCare_44 : decode cX7_bestCare 44 = .ok (.istore 4, 2) := by decide +kernel
theorem dX7_bestCare_46 : decode cX7_bestCare 46 = .ok (.iload 4, 2) := by decide +kernel
theorem dX7_bestCare_48 : decode cX7_bestCare 48 = .ok (.bipush 10, 2) := by decide +kernel
theorem dX7_bestCare_50 : decode cX7_bestCare 50 = .ok (.if_icmp .ge 46, 3) := by decide +kernel
theorem dX7_bestCare_53 : decode cX7_bestCare 53 = .ok (.aload_n 0, 1) := by decide +kernel
theorem dX7_bestCare_54 : decode cX7_bestCare 54 = .ok (.bipush 63, 2) := by decide +kernel
theorem dX7_bestCare_56 : decode cX7_bestCare 56 = .ok (.iload 4, 2) := by decide +kernel
theorem dX7_bestCare_58 : decode cX7_bestCare 58 = .ok (.iload_n 1, 1) := by decide +kernel
theorem dX7_bestCare_59 : decode cX7_bestCare 59 = .ok (.invokevirtual 144, 3) := by decide +kernel
theorem dX7_bestCare_62 : decode cX7_bestCare 62 = .ok (.istore 5, 2) := by decide +kernel
theorem dX7_bestCare_64 : decode cX7_bestCare 64 = .ok (.iload 5, 2) := by decide +kernel
theorem dX7_bestCare_66 : decode cX7_bestCare 66 = .ok (.iload_n 3, 1) := by decide +kernel
theorem dX7_bestCare_67 : decode cX7_bestCare 67 = .ok (.if_icmp .le 8, 3) := by decide +kernel
theorem dX7_bestCare_70 : decode cX7_bestCare 70 = .ok (.iload 4, 2) := by decide +kernel
theorem dX7_bestCare_72 : decode cX7_bestCare 72 = .ok (.goto 4, 3) := by decide +kernel
theorem dX7_bestCare_75 : decode cX7_bestCare 75 = .ok (.iload_n 2, 1) := by decide +kernel
theorem dX7_bestCare_76 : decode cX7_bestCare 76 = .ok (.istore_n 2, 1) := by decide +kernel
theorem dX7_bestCare_77 : decode cX7_bestCare 77 = .ok (.iload 5, 2) := by decide +kernel
theorem dX7_bestCare_79 : decode cX7_bestCare 79 = .ok (.iload_n 3, 1) := by decide +kernel
theorem dX7_bestCare_80 : decode cX7_bestCare 80 = .ok (.if_icmp .le 8, 3) := by decide +kernel
theorem dX7_bestCare_83 : decode cX7_bestCare 83 = .ok (.iload 5, 2) := by decide +kernel
theorem dX7_bestCare_85 : decode cX7_bestCare 85 = .ok (.goto 4, 3) := by decide +kernel
theorem dX7_bestCare_88 : decode cX7_bestCare 88 = .ok (.iload_n 3, 1) := by decide +kernel
theorem dX7_bestCare_89 : decode cX7_bestCare 89 = .ok (.istore_n 3, 1) := by decide +kernel
theorem dX7_bestCare_90 : decode cX7_bestCare 90 = .ok (.iinc 4 1, 3) := by decide +kernel
theorem dX7_bestCare_93 : decode cX7_bestCare 93 = .ok (.goto (-47), 3) := by decide +kernel
theorem dX7_bestCare_96 : decode cX7_bestCare 96 = .ok (.iload_n 2, 1) := by decide +kernel
theorem dX7_bestCare_97 : decode cX7_bestCare 97 = .ok (.ireturn, 1) := by decide +kernel
theorem dX7_put_0 : decode cX7_put 0 = .ok (.aload_n 0, 1) := by decide +kernel
theorem dX7_put_1 : decode cX7_put 1 = .ok (.iconst 0, 1) := by decide +kernel
theorem dX7_put_2 : decode cX7_put 2 = .ok (.putfield 32, 3) := by decide +kernel
theorem dX7_put_5 : decode cX7_put 5 = .ok (.iconst 0, 1) := by decide +kernel
theorem dX7_put_6 : decode cX7_put 6 = .ok (.istore_n 3, 1) := by decide +kernel
theorem dX7_put_7 : decode cX7_put 7 = .ok (.lload_n 1, 1) := by decide +kernel
theorem dX7_put_8 : decode cX7_put 8 = .ok (.lstore 4, 2) := by decide +kernel
theorem dX7_put_10 : decode cX7_put 10 = .ok (.iconst 1, 1) := by decide +kernel
theorem dX7_put_11 : decode cX7_put 11 = .ok (.istore 6, 2) := by decide +kernel
theorem dX7_put_13 : decode cX7_put 13 = .ok (.iload_n 3, 1) := by decide +kernel
theorem dX7_put_14 : decode cX7_put 14 = .ok (.bipush 8, 2) := by decide +kernel
theorem dX7_put_16 : decode cX7_put 16 = .ok (.if_icmp .ge 56, 3) := by decide +kernel
theorem dX7_put_19 : decode cX7_put 19 = .ok (.lload 4, 2) := by decide +kernel
theorem dX7_put_21 : decode cX7_put 21 = .ok (.ldc2_w 148, 3) := by decide +kernel
theorem dX7_put_24 : decode cX7_put 24 = .ok (.land, 1) := by decide +kernel
theorem dX7_put_25 : decode cX7_put 25 = .ok (.lconst 0, 1) := by decide +kernel
theorem dX7_put_26 : decode cX7_put 26 = .ok (.lcmp, 1) := by decide +kernel
theorem dX7_put_27 : decode cX7_put 27 = .ok (.ifCond .eq 45, 3) := by decide +kernel
theorem dX7_put_30 : decode cX7_put 30 = .ok (.iload 6, 2) := by decide +kernel
theorem dX7_put_32 : decode cX7_put 32 = .ok (.ifCond .eq 24, 3) := by decide +kernel
theorem dX7_put_35 : decode cX7_put 35 = .ok (.lload 4, 2) := by decide +kernel
theorem dX7_put_37 : decode cX7_put 37 = .ok (.ldc2_w 148, 3) := by decide +kernel
theorem dX7_put_40 : decode cX7_put 40 = .ok (.land, 1) := by decide +kernel
theorem dX7_put_41 : decode cX7_put 41 = .ok (.l2i, 1) := by decide +kernel
theorem dX7_put_42 : decode cX7_put 42 = .ok (.bipush 33, 2) := by decide +kernel
theorem dX7_put_44 : decode cX7_put 44 = .ok (.bipush 126, 2) := by decide +kernel
theorem dX7_put_46 : decode cX7_put 46 = .ok (.invokestatic 94, 3) := by decide +kernel
theorem dX7_put_49 : decode cX7_put 49 = .ok (.ifCond .eq 7, 3) := by decide +kernel
theorem dX7_put_52 : decode cX7_put 52 = .ok (.iconst 1, 1) := by decide +kernel
theorem dX7_put_53 : decode cX7_put 53 = .ok (.goto 4, 3) := by decide +kernel
theorem dX7_put_56 : decode cX7_put 56 = .ok (.iconst 0, 1) := by decide +kernel
theorem dX7_put_57 : decode cX7_put 57 = .ok (.istore 6, 2) := by decide +kernel
theorem dX7_put_59 : decode cX7_put 59 = .ok (.lload 4, 2) := by decide +kernel
theorem dX7_put_61 : decode cX7_put 61 = .ok (.bipush 8, 2) := by decide +kernel
theorem dX7_put_63 : decode cX7_put 63 = .ok (.lushr, 1) := by decide +kernel
theorem dX7_put_64 : decode cX7_put 64 = .ok (.lstore 4, 2) := by decide +kernel
theorem dX7_put_66 : decode cX7_put 66 = .ok (.iinc 3 1, 3) := by decide +kernel
theorem dX7_put_69 : decode cX7_put 69 = .ok (.goto (-56), 3) := by decide +kernel
theorem dX7_put_72 : decode cX7_put 72 = .ok (.iload_n 3, 1) := by decide +kernel
theorem dX7_put_73 : decode cX7_put 73 = .ok (.ifCond .eq 15, 3) := by decide +kernel
theorem dX7_put_76 : decode cX7_put 76 = .ok (.iload 6, 2) := by decide +kernel
theorem dX7_put_78 : decode cX7_put 78 = .ok (.ifCond .eq 10, 3) := by decide +kernel
theorem dX7_put_81 : decode cX7_put 81 = .ok (.lload 4, 2) := by decide +kernel
theorem dX7_put_83 : decode cX7_put 83 = .ok (.lconst 0, 1) := by decide +kernel
theorem dX7_put_84 : decode cX7_put 84 = .ok (.lcmp, 1) := by decide +kernel
theorem dX7_put_85 : decode cX7_put 85 = .ok (.ifCond .eq 6, 3) := by decide +kernel
theorem dX7_put_88 : decode cX7_put 88 = .ok (.bipush (-2), 2) := by decide +kernel
theorem dX7_put_90 : decode cX7_put 90 = .ok (.ireturn, 1) := by decide +kernel
theorem dX7_put_91 : decode cX7_put 91 = .ok (.aload_n 0, 1) := by decide +kernel
theorem dX7_put_92 : decode cX7_put 92 = .ok (.getfield 135, 3) := by decide +kernel
theorem dX7_put_95 : decode cX7_put 95 = .ok (.iload_n 3, 1) := by decide +kernel
theorem dX7_put_96 : decode cX7_put 96 = .ok (.iadd, 1) := by decide +kernel
theorem dX7_put_97 : decode cX7_put 97 = .ok (.bipush 80, 2) := by decide +kernel
theorem dX7_put_99 : decode cX7_put 99 = .ok (.if_icmp .le 6, 3) := by decide +kernel
theorem dX7_put_102 : decode cX7_put 102 = .ok (.bipush (-4), 2) := by decide +kernel
theorem dX7_put_104 : decode cX7_put 104 = .ok (.ireturn, 1) := by decide +kernel
theorem dX7_put_105 : decode cX7_put 105 = .ok (.iconst 0, 1) := by decide +kernel
theorem dX7_put_106 : decode cX7_put 106 = .ok (.istore 7, 2) := by decide +kernel
theorem dX7_put_108 : decode cX7_put 108 = .ok (.iload 7, 2) := by decide +kernel
theorem dX7_put_110 : decode cX7_put 110 = .ok (.iload_n 3, 1) := by decide +kernel
theorem dX7_put_111 : decode cX7_put 111 = .ok (.if_icmp .ge 37, 3) := by decide +kernel
theorem dX7_put_114 : decode cX7_put 114 = .ok (.aload_n 0, 1) := by decide +kernel
theorem dX7_put_115 : decode cX7_put 115 = .ok (.getfield 26, 3) := by decide +kernel
theorem dX7_put_118 : decode cX7_put 118 = .ok (.aload_n 0, 1) := by decide +kernel
theorem dX7_put_119 : decode cX7_put 119 = .ok (.getfield 135, 3) := by decide +kernel
theorem dX7_put_122 : decode cX7_put 122 = .ok (.iload 7, 2) := by decide +kernel
theorem dX7_put_124 : decode cX7_put 124 = .ok (.iadd, 1) := by decide +kernel
theorem dX7_put_125 : decode cX7_put 125 = .ok (.lload_n 1, 1) := by decide +kernel
theorem dX7_put_126 : decode cX7_put 126 = .ok (.bipush 8, 2) := by decide +kernel
theorem dX7_put_128 : decode cX7_put 128 = .ok (.iload_n 3, 1) := by decide +kernel
theorem dX7_put_129 : decode cX7_put 129 = .ok (.iconst 1, 1) := by decide +kernel
theorem dX7_put_130 : decode cX7_put 130 = .ok (.isub, 1) := by decide +kernel
theorem dX7_put_131 : decode cX7_put 131 = .ok (.iload 7, 2) := by decide +kernel
theorem dX7_put_133 : decode cX7_put 133 = .ok (.isub, 1) := by decide +kernel
theorem dX7_put_134 : decode cX7_put 134 = .ok (.imul, 1) := by decide +kernel
theorem dX7_put_135 : decode cX7_put 135 = .ok (.lushr, 1) := by decide +kernel
theorem dX7_put_136 : decode cX7_put 136 = .ok (.ldc2_w 148, 3) := by decide +kernel
theorem dX7_put_139 : decode cX7_put 139 = .ok (.land, 1) := by decide +kernel
theorem dX7_put_140 : decode cX7_put 140 = .ok (.l2i, 1) := by decide +kernel
theorem dX7_put_141 : decode cX7_put 141 = .ok (.iastore, 1) := by decide +kernel
theorem dX7_put_142 : decode cX7_put 142 = .ok (.iinc 7 1, 3) := by decide +kernel
theorem dX7_put_145 : decode cX7_put 145 = .ok (.goto (-37), 3) := by decide +kernel
theorem dX7_put_148 : decode cX7_put 148 = .ok (.aload_n 0, 1) := by decide +kernel
theorem dX7_put_149 : decode cX7_put 149 = .ok (.dup, 1) := by decide +kernel
theorem dX7_put_150 : decode cX7_put 150 = .ok (.getfield 135, 3) := by decide +kernel
theorem dX7_put_153 : decode cX7_put 153 = .ok (.iload_n 3, 1) := by decide +kernel
theorem dX7_put_154 : decode cX7_put 154 = .ok (.iadd, 1) := by decide +kernel
theorem dX7_put_155 : decode cX7_put 155 = .ok (.putfield 135, 3) := by decide +kernel
theorem dX7_put_158 : decode cX7_put 158 = .ok (.aload_n 0, 1) := by decide +kernel
theorem dX7_put_159 : decode cX7_put 159 = .ok (.getfield 135, 3) := by decide +kernel
theorem dX7_put_162 : decode cX7_put 162 = .ok (.ireturn, 1) := by decide +kernel
theorem dX7_wipe_0 : decode cX7_wipe 0 = .ok (.aload_n 0, 1) := by decide +kernel
theorem dX7_wipe_1 : decode cX7_wipe 1 = .ok (.iconst 0, 1) := by decide +kernel
theorem dX7_wipe_2 : decode cX7_wipe 2 = .ok (.putfield 32, 3) := by decide +kernel
theorem dX7_wipe_5 : decode cX7_wipe 5 = .ok (.aload_n 0, 1) := by decide +kernel
theorem dX7_wipe_6 : decode cX7_wipe 6 = .ok (.getfield 135, 3) := by decide +kernel
theorem dX7_wipe_9 : decode cX7_wipe 9 = .ok (.istore_n 1, 1) := by decide +kernel
theorem dX7_wipe_10 : decode cX7_wipe 10 = .ok (.aload_n 0, 1) := by decide +kernel
theorem dX7_wipe_11 : decode cX7_wipe 11 = .ok (.iconst 0, 1) := by decide +kernel
theorem dX7_wipe_12 : decode cX7_wipe 12 = .ok (.putfield 135, 3) := by decide +kernel
theorem dX7_wipe_15 : decode cX7_wipe 15 = .ok (.iload_n 1, 1) := by decide +kernel
theorem dX7_wipe_16 : decode cX7_wipe 16 = .ok (.ireturn, 1) := by decide +kernel
theorem dX7_sign_0 : decode cX7_sign 0 = .ok (.aload_n 0, 1) := by decide +kernel
theorem dX7_sign_1 : decode cX7_sign 1 = .ok (.getfield 150, 3) := by decide +kernel
theorem dX7_sign_4 : decode cX7_sign 4 = .ok (.aload_n 0, 1) := by decide +kernel
theorem dX7_sign_5 : decode cX7_sign 5 = .ok (.getfield 135, 3) := by decide +kernel
theorem dX7_sign_8 : decode cX7_sign 8 = .ok (.if_icmp .ge 15, 3) := by decide +kernel
theorem dX7_sign_11 : decode cX7_sign 11 = .ok (.aload_n 0, 1) := by decide +kernel
theorem dX7_sign_12 : decode cX7_sign 12 = .ok (.getfield 26, 3) := by decide +kernel
theorem dX7_sign_15 : decode cX7_sign 15 = .ok (.aload_n 0, 1) := by decide +kernel
theorem dX7_sign_16 : decode cX7_sign 16 = .ok (.getfield 150, 3) := by decide +kernel
theorem dX7_sign_19 : decode cX7_sign 19 = .ok (.iaload, 1) := by decide +kernel
theorem dX7_sign_20 : decode cX7_sign 20 = .ok (.goto 4, 3) := by decide +kernel
theorem dX7_sign_23 : decode cX7_sign 23 = .ok (.iconst 0, 1) := by decide +kernel
theorem dX7_sign_24 : decode cX7_sign 24 = .ok (.ireturn, 1) := by decide +kernel
theorem dX7_takesSign_0 : decode cX7_takesSign 0 = .ok (.aload_n 0, 1) := by decide +kernel
theorem dX7_takesSign_1 : decode cX7_takesSign 1 = .ok (.getfield 153, 3) := by decide +kernel
theorem dX7_takesSign_4 : decode cX7_takesSign 4 = .ok (.ifCond .eq 15, 3) := by decide +kernel
theorem dX7_takesSign_7 : decode cX7_takesSign 7 = .ok (.aload_n 0, 1) := by decide +kernel
theorem dX7_takesSign_8 : decode cX7_takesSign 8 = .ok (.invokevirtual 157, 3) := by decide +kernel
theorem dX7_takesSign_11 : decode cX7_takesSign 11 = .ok (.iload_n 1, 1) := by decide +kernel
theorem dX7_takesSign_12 : decode cX7_takesSign 12 = .ok (.if_icmp .ne 7, 3) := by decide +kernel
theorem dX7_takesSign_15 : decode cX7_takesSign 15 = .ok (.iconst 1, 1) := by decide +kernel
theorem dX7_takesSign_16 : decode cX7_takesSign 16 = .ok (.goto 4, 3) := by decide +kernel
theorem dX7_takesSign_19 : decode cX7_takesSign 19 = .ok (.iconst 0, 1) := by decide +kernel
theorem dX7_takesSign_20 : decode cX7_takesSign 20 = .ok (.istore_n 2, 1) := by decide +kernel
theorem dX7_takesSign_21 : decode cX7_takesSign 21 = .ok (.aload_n 0, 1) := by decide +kernel
theorem dX7_takesSign_22 : decode cX7_takesSign 22 = .ok (.dup, 1) := by decide +kernel
theorem dX7_takesSign_23 : decode cX7_takesSign 23 = .ok (.getfield 150, 3) := by decide +kernel
theorem dX7_takesSign_26 : decode cX7_takesSign 26 = .ok (.iload_n 2, 1) := by decide +kernel
theorem dX7_takesSign_27 : decode cX7_takesSign 27 = .ok (.ifCond .eq 7, 3) := by decide +kernel
theorem dX7_takesSign_30 : decode cX7_takesSign 30 = .ok (.iconst 1, 1) := by decide +kernel
theorem dX7_takesSign_31 : decode cX7_takesSign 31 = .ok (.goto 4, 3) := by decide +kernel
theorem dX7_takesSign_34 : decode cX7_takesSign 34 = .ok (.iconst 0, 1) := by decide +kernel
theorem dX7_takesSign_35 : decode cX7_takesSign 35 = .ok (.iadd, 1) := by decide +kernel
theorem dX7_takesSign_36 : decode cX7_takesSign 36 = .ok (.putfield 150, 3) := by decide +kernel
theorem dX7_takesSign_39 : decode cX7_takesSign 39 = .ok (.iload_n 2, 1) := by decide +kernel
theorem dX7_takesSign_40 : decode cX7_takesSign 40 = .ok (.ireturn, 1) := by decide +kernel
theorem dX7_digit_0 : decode cX7_digit 0 = .ok (.aload_n 0, 1) := by decide +kernel
theorem dX7_digit_1 : decode cX7_digit 1 = .ok (.aload_n 0, 1) := by decide +kernel
theorem dX7_digit_2 : decode cX7_digit 2 = .ok (.getfield 153, 3) := by decide +kernel
theorem dX7_digit_5 : decode cX7_digit 5 = .ok (.ifCond .eq 23, 3) := by decide +kernel
theorem dX7_digit_8 : decode cX7_digit 8 = .ok (.aload_n 0, 1) := by decide +kernel
theorem dX7_digit_9 : decode cX7_digit 9 = .ok (.invokevirtual 157, 3) := by decide +kernel
theorem dX7_digit_12 : decode cX7_digit 12 = .ok (.bipush 48, 2) := by decide +kernel
theorem dX7_digit_14 : decode cX7_digit 14 = .ok (.bipush 48, 2) := by decide +kernel
theorem dX7_digit_16 : decode cX7_digit 16 = .ok (.iload_n 1, 1) := by decide +kernel
theorem dX7_digit_17 : decode cX7_digit 17 = .ok (.iadd, 1) := by decide +kernel
theorem dX7_digit_18 : decode cX7_digit 18 = .ok (.invokestatic 94, 3) := by decide +kernel
theorem dX7_digit_21 : decode cX7_digit 21 = .ok (.ifCond .eq 7, 3) := by decide +kernel
theorem dX7_digit_24 : decode cX7_digit 24 = .ok (.iconst 1, 1) := by decide +kernel
theorem dX7_digit_25 : decode cX7_digit 25 = .ok (.goto 4, 3) := by decide +kernel
theorem dX7_digit_28 : decode cX7_digit 28 = .ok (.iconst 0, 1) := by decide +kernel
theorem dX7_digit_29 : decode cX7_digit 29 = .ok (.putfield 153, 3) := by decide +kernel
theorem dX7_digit_32 : decode cX7_digit 32 = .ok (.aload_n 0, 1) := by decide +kernel
theorem dX7_digit_33 : decode cX7_digit 33 = .ok (.invokevirtual 157, 3) := by decide +kernel
theorem dX7_digit_36 : decode cX7_digit 36 = .ok (.bipush 48, 2) := by decide +kernel
theorem dX7_digit_38 : decode cX7_digit 38 = .ok (.isub, 1) := by decide +kernel
theorem dX7_digit_39 : decode cX7_digit 39 = .ok (.istore_n 2, 1) := by decide +kernel
theorem dX7_digit_40 : decode cX7_digit 40 = .ok (.aload_n 0, 1) := by decide +kernel
theorem dX7_digit_41 : decode cX7_digit 41 = .ok (.dup, 1) := by decide +kernel
theorem dX7_digit_42 : decode cX7_digit 42 = .ok (.getfield 150, 3) := by decide +kernel
theorem dX7_digit_45 : decode cX7_digit 45 = .ok (.aload_n 0, 1) := by decide +kernel
theorem dX7_digit_46 : decode cX7_digit 46 = .ok (.getfield 153, 3) := by decide +kernel
theorem dX7_digit_49 : decode cX7_digit 49 = .ok (.ifCond .eq 7, 3) := by decide +kernel
theorem dX7_digit_52 : decode cX7_digit 52 = .ok (.iconst 1, 1) := by decide +kernel
theorem dX7_digit_53 : decode cX7_digit 53 = .ok (.goto 4, 3) := by decide +kernel
theorem dX7_digit_56 : decode cX7_digit 56 = .ok (.iconst 0, 1) := by decide +kernel
theorem dX7_digit_57 : decode cX7_digit 57 = .ok (.iadd, 1) := by decide +kernel
theorem dX7_digit_58 : decode cX7_digit 58 = .ok (.putfield 150, 3) := by decide +kernel
theorem dX7_digit_61 : decode cX7_digit 61 = .ok (.iload_n 2, 1) := by decide +kernel
theorem dX7_digit_62 : decode cX7_digit 62 = .ok (.ireturn, 1) := by decide +kernel
theorem dX7_digits_0 : decode cX7_digits 0 = .ok (.iconst 1, 1) := by decide +kernel
theorem dX7_digits_1 : decode cX7_digits 1 = .ok (.aload_n 0, 1) := by decide +kernel
theorem dX7_digits_2 : decode cX7_digits 2 = .ok (.iload_n 1, 1) := by decide +kernel
theorem dX7_digits_3 : decode cX7_digits 3 = .ok (.invokevirtual 161, 3) := by decide +kernel
theorem dX7_digits_6 : decode cX7_digits 6 = .ok (.bipush 7, 2) := by decide +kernel
theorem dX7_digits_8 : decode cX7_digits 8 = .ok (.iand, 1) := by decide +kernel
theorem dX7_digits_9 : decode cX7_digits 9 = .ok (.ishl, 1) := by decide +kernel
theorem dX7_digits_10 : decode cX7_digits 10 = .ok (.istore_n 2, 1) := by decide +kernel
theorem dX7_digits_11 : decode cX7_digits 11 = .ok (.aload_n 0, 1) := by decide +kernel
theorem dX7_digits_12 : decode cX7_digits 12 = .ok (.getfield 153, 3) := by decide +kernel
theorem dX7_digits_15 : decode cX7_digits 15 = .ok (.ifCond .eq 32, 3) := by decide +kernel
theorem dX7_digits_18 : decode cX7_digits 18 = .ok (.aload_n 0, 1) := by decide +kernel
theorem dX7_digits_19 : decode cX7_digits 19 = .ok (.invokevirtual 157, 3) := by decide +kernel
theorem dX7_digits_22 : decode cX7_digits 22 = .ok (.bipush 48, 2) := by decide +kernel
theorem dX7_digits_24 : decode cX7_digits 24 = .ok (.bipush 48, 2) := by decide +kernel
theorem dX7_digits_26 : decode cX7_digits 26 = .ok (.iload_n 1, 1) := by decide +kernel
theorem dX7_digits_27 : decode cX7_digits 27 = .ok (.iadd, 1) := by decide +kernel
theorem dX7_digits_28 : decode cX7_digits 28 = .ok (.invokestatic 94, 3) := by decide +kernel
theorem dX7_digits_31 : decode cX7_digits 31 = .ok (.ifCond .eq 16, 3) := by decide +kernel
theorem dX7_digits_34 : decode cX7_digits 34 = .ok (.iload_n 2, 1) := by decide +kernel
theorem dX7_digits_35 : decode cX7_digits 35 = .ok (.iconst 1, 1) := by decide +kernel
theorem dX7_digits_36 : decode cX7_digits 36 = .ok (.aload_n 0, 1) := by decide +kernel
theorem dX7_digits_37 : decode cX7_digits 37 = .ok (.iload_n 1, 1) := by decide +kernel
theorem dX7_digits_38 : decode cX7_digits 38 = .ok (.invokevirtual 161, 3) := by decide +kernel
theorem dX7_digits_41 : decode cX7_digits 41 = .ok (.ishl, 1) := by decide +kernel
theorem dX7_digits_42 : decode cX7_digits 42 = .ok (.ior, 1) := by decide +kernel
theorem dX7_digits_43 : decode cX7_digits 43 = .ok (.istore_n 2, 1) := by decide +kernel
theorem dX7_digits_44 : decode cX7_digits 44 = .ok (.goto (-33), 3) := by decide +kernel
theorem dX7_digits_47 : decode cX7_digits 47 = .ok (.iload_n 2, 1) := by decide +kernel
theorem dX7_digits_48 : decode cX7_digits 48 = .ok (.ireturn, 1) := by decide +kernel
theorem dX7_number_0 : decode cX7_number 0 = .ok (.aload_n 0, 1) := by decide +kernel
theorem dX7_number_1 : decode cX7_number 1 = .ok (.bipush 9, 2) := by decide +kernel
theorem dX7_number_3 : decode cX7_number 3 = .ok (.invokevirtual 161, 3) := by decide +kernel
theorem dX7_number_6 : decode cX7_number 6 = .ok (.istore_n 1, 1) := by decide +kernel
theorem dX7_number_7 : decode cX7_number 7 = .ok (.aload_n 0, 1) := by decide +kernel
theorem dX7_number_8 : decode cX7_number 8 = .ok (.getfield 153, 3) := by decide +kernel
theorem dX7_number_11 : decode cX7_number 11 = .ok (.ifCond .eq 44, 3) := by decide +kernel
theorem dX7_number_14 : decode cX7_number 14 = .ok (.iload_n 1, 1) := by decide +kernel
theorem dX7_number_15 : decode cX7_number 15 = .ok (.ifCond .le 40, 3) := by decide +kernel
theorem dX7_number_18 : decode cX7_number 18 = .ok (.aload_n 0, 1) := by decide +kernel
theorem dX7_number_19 : decode cX7_number 19 = .ok (.invokevirtual 157, 3) := by decide +kernel
theorem dX7_number_22 : decode cX7_number 22 = .ok (.bipush 48, 2) := by decide +kernel
theorem dX7_number_24 : decode cX7_number 24 = .ok (.bipush 57, 2) := by decide +kernel
theorem dX7_number_26 : decode cX7_number 26 = .ok (.invokestatic 94, 3) := by decide +kernel
theorem dX7_number_29 : decode cX7_number 29 = .ok (.ifCond .eq 26, 3) := by decide +kernel
theorem dX7_number_32 : decode cX7_number 32 = .ok (.bipush 10, 2) := by decide +kernel
theorem dX7_number_34 : decode cX7_number 34 = .ok (.iload_n 1, 1) := by decide +kernel
theorem dX7_number_35 : decode cX7_number 35 = .ok (.imul, 1) := by decide +kernel
theorem dX7_number_36 : decode cX7_number 36 = .ok (.aload_n 0, 1) := by decide +kernel
theorem dX7_number_37 : decode cX7_number 37 = .ok (.invokevirtual 157, 3) := by decide +kernel
theorem dX7_number_40 : decode cX7_number 40 = .ok (.iadd, 1) := by decide +kernel
theorem dX7_number_41 : decode cX7_number 41 = .ok (.bipush 48, 2) := by decide +kernel
theorem dX7_number_43 : decode cX7_number 43 = .ok (.isub, 1) := by decide +kernel
theorem dX7_number_44 : decode cX7_number 44 = .ok (.istore_n 1, 1) := by decide +kernel
theorem dX7_number_45 : decode cX7_number 45 = .ok (.aload_n 0, 1) := by decide +kernel
theorem dX7_number_46 : decode cX7_number 46 = .ok (.dup, 1) := by decide +kernel
theorem dX7_number_47 : decode cX7_number 47 = .ok (.getfield 150, 3) := by decide +kernel
theorem dX7_number_50 : decode cX7_number 50 = .ok (.iconst 1, 1) := by decide +kernel
theorem dX7_number_51 : decode cX7_number 51 = .ok (.iadd, 1) := by decide +kernel
theorem dX7_number_52 : decode cX7_number 52 = .ok (.putfield 150, 3) := by decide +kernel
theorem dX7_number_55 : decode cX7_number 55 = .ok (.iload_n 1, 1) := by decide +kernel
theorem dX7_number_56 : decode cX7_number 56 = .ok (.ireturn, 1) := by decide +kernel
theorem dX7_readsOrder_0 : decode cX7_readsOrder 0 = .ok (.iconst 5, 1) := by decide +kernel
theorem dX7_readsOrder_1 : decode cX7_readsOrder 1 = .ok (.aload_n 0, 1) := by decide +kernel
theorem dX7_readsOrder_2 : decode cX7_readsOrder 2 = .ok (.getfield 164, 3) := by decide +kernel
theorem dX7_readsOrder_5 : decode cX7_readsOrder 5 = .ok (.imul, 1) := by decide +kernel
theorem dX7_readsOrder_6 : decode cX7_readsOrder 6 = .ok (.istore_n 1, 1) := by decide +kernel
theorem dX7_readsOrder_7 : decode cX7_readsOrder 7 = .ok (.aload_n 0, 1) := by decide +kernel
theorem dX7_readsOrder_8 : decode cX7_readsOrder 8 = .ok (.invokevirtual 157, 3) := by decide +kernel
theorem dX7_readsOrder_11 : decode cX7_readsOrder 11 = .ok (.istore_n 2, 1) := by decide +kernel
theorem dX7_readsOrder_12 : decode cX7_readsOrder 12 = .ok (.iload_n 2, 1) := by decide +kernel
theorem dX7_readsOrder_13 : decode cX7_readsOrder 13 = .ok (.bipush 43, 2) := by decide +kernel
theorem dX7_readsOrder_15 : decode cX7_readsOrder 15 = .ok (.if_icmp .eq 21, 3) := by decide +kernel
theorem dX7_readsOrder_18 : decode cX7_readsOrder 18 = .ok (.iload_n 2, 1) := by decide +kernel
theorem dX7_readsOrder_19 : decode cX7_readsOrder 19 = .ok (.bipush 102, 2) := by decide +kernel
theorem dX7_readsOrder_21 : decode cX7_readsOrder 21 = .ok (.if_icmp .eq 15, 3) := by decide +kernel
theorem dX7_readsOrder_24 : decode cX7_readsOrder 24 = .ok (.iload_n 2, 1) := by decide +kernel
theorem dX7_readsOrder_25 : decode cX7_readsOrder 25 = .ok (.bipush 100, 2) := by decide +kernel
theorem dX7_readsOrder_27 : decode cX7_readsOrder 27 = .ok (.if_icmp .eq 9, 3) := by decide +kernel
theorem dX7_readsOrder_30 : decode cX7_readsOrder 30 = .ok (.iload_n 2, 1) := by decide +kernel
theorem dX7_readsOrder_31 : decode cX7_readsOrder 31 = .ok (.bipush 116, 2) := by decide +kernel
theorem dX7_readsOrder_33 : decode cX7_readsOrder 33 = .ok (.if_icmp .ne 7, 3) := by decide +kernel
theorem dX7_readsOrder_36 : decode cX7_readsOrder 36 = .ok (.iconst 1, 1) := by decide +kernel
theorem dX7_readsOrder_37 : decode cX7_readsOrder 37 = .ok (.goto 4, 3) := by decide +kernel
theorem dX7_readsOrder_40 : decode cX7_readsOrder 40 = .ok (.iconst 0, 1) := by decide +kernel
theorem dX7_readsOrder_41 : decode cX7_readsOrder 41 = .ok (.istore_n 3, 1) := by decide +kernel
theorem dX7_readsOrder_42 : decode cX7_readsOrder 42 = .ok (.aload_n 0, 1) := by decide +kernel
theorem dX7_readsOrder_43 : decode cX7_readsOrder 43 = .ok (.aload_n 0, 1) := by decide +kernel
theorem dX7_readsOrder_44 : decode cX7_readsOrder 44 = .ok (.getfield 153, 3) := by decide +kernel
theorem dX7_readsOrder_47 : decode cX7_readsOrder 47 = .ok (.ifCond .eq 11, 3) := by decide +kernel
theorem dX7_readsOrder_50 : decode cX7_readsOrder 50 = .ok (.iload_n 3, 1) := by decide +kernel
theorem dX7_readsOrder_51 : decode cX7_readsOrder 51 = .ok (.ifCond .eq 7, 3) := by decide +kernel
theorem dX7_readsOrder_54 : decode cX7_readsOrder 54 = .ok (.iconst 1, 1) := by decide +kernel
theorem dX7_readsOrder_55 : decode cX7_readsOrder 55 = .ok (.goto 4, 3) := by decide +kernel
theorem dX7_readsOrder_58 : decode cX7_readsOrder 58 = .ok (.iconst 0, 1) := by decide +kernel
theorem dX7_readsOrder_59 : decode cX7_readsOrder 59 = .ok (.putfield 153, 3) := by decide +kernel
theorem dX7_readsOrder_62 : decode cX7_readsOrder 62 = .ok (.aload_n 0, 1) := by decide +kernel
theorem dX7_readsOrder_63 : decode cX7_readsOrder 63 = .ok (.dup, 1) := by decide +kernel
theorem dX7_readsOrder_64 : decode cX7_readsOrder 64 = .ok (.getfield 150, 3) := by decide +kernel
theorem dX7_readsOrder_67 : decode cX7_readsOrder 67 = .ok (.aload_n 0, 1) := by decide +kernel
theorem dX7_readsOrder_68 : decode cX7_readsOrder 68 = .ok (.getfield 153, 3) := by decide +kernel
theorem dX7_readsOrder_71 : decode cX7_readsOrder 71 = .ok (.ifCond .eq 7, 3) := by decide +kernel
theorem dX7_readsOrder_74 : decode cX7_readsOrder 74 = .ok (.iconst 1, 1) := by decide +kernel
theorem dX7_readsOrder_75 : decode cX7_readsOrder 75 = .ok (.goto 4, 3) := by decide +kernel
theorem dX7_readsOrder_78 : decode cX7_readsOrder 78 = .ok (.iconst 0, 1) := by decide +kernel
theorem dX7_readsOrder_79 : decode cX7_readsOrder 79 = .ok (.iadd, 1) := by decide +kernel
theorem dX7_readsOrder_80 : decode cX7_readsOrder 80 = .ok (.putfield 150, 3) := by decide +kernel
theorem dX7_readsOrder_83 : decode cX7_readsOrder 83 = .ok (.aload_n 0, 1) := by decide +kernel
theorem dX7_readsOrder_84 : decode cX7_readsOrder 84 = .ok (.getfield 29, 3) := by decide +kernel
theorem dX7_readsOrder_87 : decode cX7_readsOrder 87 = .ok (.iload_n 1, 1) := by decide +kernel
theorem dX7_readsOrder_88 : decode cX7_readsOrder 88 = .ok (.iload_n 2, 1) := by decide +kernel
theorem dX7_readsOrder_89 : decode cX7_readsOrder 89 = .ok (.iastore, 1) := by decide +kernel
theorem dX7_readsOrder_90 : decode cX7_readsOrder 90 = .ok (.iload_n 2, 1) := by decide +kernel
theorem dX7_readsOrder_91 : decode cX7_readsOrder 91 = .ok (.bipush 43, 2) := by decide +kernel
theorem dX7_readsOrder_93 : decode cX7_readsOrder 93 = .ok (.if_icmp .ne 95, 3) := by decide +kernel
theorem dX7_readsOrder_96 : decode cX7_readsOrder 96 = .ok (.aload_n 0, 1) := by decide +kernel
theorem dX7_readsOrder_97 : decode cX7_readsOrder 97 = .ok (.getfield 29, 3) := by decide +kernel
theorem dX7_readsOrder_100 : decode cX7_readsOrder 100 = .ok (.iload_n 1, 1) := by decide +kernel
theorem dX7_readsOrder_101 : decode cX7_readsOrder 101 = .ok (.iconst 1, 1) := by decide +kernel
theorem dX7_readsOrder_102 : decode cX7_readsOrder 102 = .ok (.iadd, 1) := by decide +kernel
theorem dX7_readsOrder_103 : decode cX7_readsOrder 103 = .ok (.aload_n 0, 1) := by decide +kernel
theorem dX7_readsOrder_104 : decode cX7_readsOrder 104 = .ok (.iconst 5, 1) := by decide +kernel
theorem dX7_readsOrder_105 : decode cX7_readsOrder 105 = .ok (.invokevirtual 161, 3) := by decide +kernel
theorem dX7_readsOrder_108 : decode cX7_readsOrder 108 = .ok (.iastore, 1) := by decide +kernel
theorem dX7_readsOrder_109 : decode cX7_readsOrder 109 = .ok (.aload_n 0, 1) := by decide +kernel
theorem dX7_readsOrder_110 : decode cX7_readsOrder 110 = .ok (.getfield 29, 3) := by decide +kernel
theorem dX7_readsOrder_113 : decode cX7_readsOrder 113 = .ok (.iload_n 1, 1) := by decide +kernel
theorem dX7_readsOrder_114 : decode cX7_readsOrder 114 = .ok (.iconst 2, 1) := by decide +kernel
theorem dX7_readsOrder_115 : decode cX7_readsOrder 115 = .ok (.iadd, 1) := by decide +kernel
theorem dX7_readsOrder_116 : decode cX7_readsOrder 116 = .ok (.aload_n 0, 1) := by decide +kernel
theorem dX7_readsOrder_117 : decode cX7_readsOrder 117 = .ok (.bipush 58, 2) := by decide +kernel
theorem dX7_readsOrder_119 : decode cX7_readsOrder 119 = .ok (.invokevirtual 167, 3) := by decide +kernel
theorem dX7_readsOrder_122 : decode cX7_readsOrder 122 = .ok (.ifCond .eq 12, 3) := by decide +kernel
theorem dX7_readsOrder_125 : decode cX7_readsOrder 125 = .ok (.aload_n 0, 1) := by decide +kernel
theorem dX7_readsOrder_126 : decode cX7_readsOrder 126 = .ok (.bipush 7, 2) := by decide +kernel
theorem dX7_readsOrder_128 : decode cX7_readsOrder 128 = .ok (.invokevirtual 170, 3) := by decide +kernel
theorem dX7_readsOrder_131 : decode cX7_readsOrder 131 = .ok (.goto 4, 3) := by decide +kernel
theorem dX7_readsOrder_134 : decode cX7_readsOrder 134 = .ok (.iconst 0, 1) := by decide +kernel
theorem dX7_readsOrder_135 : decode cX7_readsOrder 135 = .ok (.iastore, 1) := by decide +kernel
theorem dX7_readsOrder_136 : decode cX7_readsOrder 136 = .ok (.aload_n 0, 1) := by decide +kernel
theorem dX7_readsOrder_137 : decode cX7_readsOrder 137 = .ok (.aload_n 0, 1) := by decide +kernel
theorem dX7_readsOrder_138 : decode cX7_readsOrder 138 = .ok (.bipush 33, 2) := by decide +kernel
theorem dX7_readsOrder_140 : decode cX7_readsOrder 140 = .ok (.invokevirtual 167, 3) := by decide +kernel
theorem dX7_readsOrder_143 : decode cX7_readsOrder 143 = .ok (.putfield 153, 3) := by decide +kernel
theorem dX7_readsOrder_146 : decode cX7_readsOrder 146 = .ok (.aload_n 0, 1) := by decide +kernel
theorem dX7_readsOrder_147 : decode cX7_readsOrder 147 = .ok (.getfield 29, 3) := by decide +kernel
theorem dX7_readsOrder_150 : decode cX7_readsOrder 150 = .ok (.iload_n 1, 1) := by decide +kernel
theorem dX7_readsOrder_151 : decode cX7_readsOrder 151 = .ok (.iconst 3, 1) := by decide +kernel
theorem dX7_readsOrder_152 : decode cX7_readsOrder 152 = .ok (.iadd, 1) := by decide +kernel
theorem dX7_readsOrder_153 : decode cX7_readsOrder 153 = .ok (.aload_n 0, 1) := by decide +kernel
theorem dX7_readsOrder_154 : decode cX7_readsOrder 154 = .ok (.invokevirtual 173, 3) := by decide +kernel
theorem dX7_readsOrder_157 : decode cX7_readsOrder 157 = .ok (.iastore, 1) := by decide +kernel
theorem dX7_readsOrder_158 : decode cX7_readsOrder 158 = .ok (.aload_n 0, 1) := by decide +kernel
theorem dX7_readsOrder_159 : decode cX7_readsOrder 159 = .ok (.getfield 29, 3) := by decide +kernel
theorem dX7_readsOrder_162 : decode cX7_readsOrder 162 = .ok (.iload_n 1, 1) := by decide +kernel
theorem dX7_readsOrder_163 : decode cX7_readsOrder 163 = .ok (.iconst 4, 1) := by decide +kernel
theorem dX7_readsOrder_164 : decode cX7_readsOrder 164 = .ok (.iadd, 1) := by decide +kernel
theorem dX7_readsOrder_165 : decode cX7_readsOrder 165 = .ok (.aload_n 0, 1) := by decide +kernel
theorem dX7_readsOrder_166 : decode cX7_readsOrder 166 = .ok (.bipush 63, 2) := by decide +kernel
theorem dX7_readsOrder_168 : decode cX7_readsOrder 168 = .ok (.invokevirtual 167, 3) := by decide +kernel
theorem dX7_readsOrder_171 : decode cX7_readsOrder 171 = .ok (.ifCond .eq 12, 3) := by decide +kernel
theorem dX7_readsOrder_174 : decode cX7_readsOrder 174 = .ok (.aload_n 0, 1) := by decide +kernel
theorem dX7_readsOrder_175 : decode cX7_readsOrder 175 = .ok (.bipush 7, 2) := by decide +kernel
theorem dX7_readsOrder_177 : decode cX7_readsOrder 177 = .ok (.invokevirtual 161, 3) := by decide +kernel
theorem dX7_readsOrder_180 : decode cX7_readsOrder 180 = .ok (.goto 4, 3) := by decide +kernel
theorem dX7_readsOrder_183 : decode cX7_readsOrder 183 = .ok (.iconst 0, 1) := by decide +kernel
theorem dX7_readsOrder_184 : decode cX7_readsOrder 184 = .ok (.iastore, 1) := by decide +kernel
theorem dX7_readsOrder_185 : decode cX7_readsOrder 185 = .ok (.goto 106, 3) := by decide +kernel
theorem dX7_readsOrder_188 : decode cX7_readsOrder 188 = .ok (.iload_n 2, 1) := by decide +kernel
theorem dX7_readsOrder_189 : decode cX7_readsOrder 189 = .ok (.bipush 102, 2) := by decide +kernel
theorem dX7_readsOrder_191 : decode cX7_readsOrder 191 = .ok (.if_icmp .ne 43, 3) := by decide +kernel
theorem dX7_readsOrder_194 : decode cX7_readsOrder 194 = .ok (.aload_n 0, 1) := by decide +kernel
theorem dX7_readsOrder_195 : decode cX7_readsOrder 195 = .ok (.getfield 29, 3) := by decide +kernel
theorem dX7_readsOrder_198 : decode cX7_readsOrder 198 = .ok (.iload_n 1, 1) := by decide +kernel
theorem dX7_readsOrder_199 : decode cX7_readsOrder 199 = .ok (.iconst 1, 1) := by decide +kernel
theorem dX7_readsOrder_200 : decode cX7_readsOrder 200 = .ok (.iadd, 1) := by decide +kernel
theorem dX7_readsOrder_201 : decode cX7_readsOrder 201 = .ok (.aload_n 0, 1) := by decide +kernel
theorem dX7_readsOrder_202 : decode cX7_readsOrder 202 = .ok (.iconst 5, 1) := by decide +kernel
theorem dX7_readsOrder_203 : decode cX7_readsOrder 203 = .ok (.invokevirtual 170, 3) := by decide +kernel
theorem dX7_readsOrder_206 : decode cX7_readsOrder 206 = .ok (.iastore, 1) := by decide +kernel
theorem dX7_readsOrder_207 : decode cX7_readsOrder 207 = .ok (.aload_n 0, 1) := by decide +kernel
theorem dX7_readsOrder_208 : decode cX7_readsOrder 208 = .ok (.aload_n 0, 1) := by decide +kernel
theorem dX7_readsOrder_209 : decode cX7_readsOrder 209 = .ok (.bipush 94, 2) := by decide +kernel
theorem dX7_readsOrder_211 : decode cX7_readsOrder 211 = .ok (.invokevirtual 167, 3) := by decide +kernel
theorem dX7_readsOrder_214 : decode cX7_readsOrder 214 = .ok (.putfield 153, 3) := by decide +kernel
theorem dX7_readsOrder_217 : decode cX7_readsOrder 217 = .ok (.aload_n 0, 1) := by decide +kernel
theorem dX7_readsOrder_218 : decode cX7_readsOrder 218 = .ok (.getfield 29, 3) := by decide +kernel
theorem dX7_readsOrder_221 : decode cX7_readsOrder 221 = .ok (.iload_n 1, 1) := by decide +kernel
theorem dX7_readsOrder_222 : decode cX7_readsOrder 222 = .ok (.iconst 2, 1) := by decide +kernel
theorem dX7_readsOrder_223 : decode cX7_readsOrder 223 = .ok (.iadd, 1) := by decide +kernel
theorem dX7_readsOrder_224 : decode cX7_readsOrder 224 = .ok (.aload_n 0, 1) := by decide +kernel
theorem dX7_readsOrder_225 : decode cX7_readsOrder 225 = .ok (.bipush 9, 2) := by decide +kernel
theorem dX7_readsOrder_227 : decode cX7_readsOrder 227 = .ok (.invokevirtual 161, 3) := by decide +kernel
theorem dX7_readsOrder_230 : decode cX7_readsOrder 230 = .ok (.iastore, 1) := by decide +kernel
theorem dX7_readsOrder_231 : decode cX7_readsOrder 231 = .ok (.goto 60, 3) := by decide +kernel
theorem dX7_readsOrder_234 : decode cX7_readsOrder 234 = .ok (.iload_n 2, 1) := by decide +kernel
theorem dX7_readsOrder_235 : decode cX7_readsOrder 235 = .ok (.bipush 100, 2) := by decide +kernel
theorem dX7_readsOrder_237 : decode cX7_readsOrder 237 = .ok (.if_icmp .ne 42, 3) := by decide +kernel
theorem dX7_readsOrder_240 : decode cX7_readsOrder 240 = .ok (.aload_n 0, 1) := by decide +kernel
theorem dX7_readsOrder_241 : decode cX7_readsOrder 241 = .ok (.getfield 29, 3) := by decide +kernel
theorem dX7_readsOrder_244 : decode cX7_readsOrder 244 = .ok (.iload_n 1, 1) := by decide +kernel
theorem dX7_readsOrder_245 : decode cX7_readsOrder 245 = .ok (.iconst 1, 1) := by decide +kernel
theorem dX7_readsOrder_246 : decode cX7_readsOrder 246 = .ok (.iadd, 1) := by decide +kernel
theorem dX7_readsOrder_247 : decode cX7_readsOrder 247 = .ok (.aload_n 0, 1) := by decide +kernel
theorem dX7_readsOrder_248 : decode cX7_readsOrder 248 = .ok (.bipush 7, 2) := by decide +kernel
theorem dX7_readsOrder_250 : decode cX7_readsOrder 250 = .ok (.invokevirtual 161, 3) := by decide +kernel
theorem dX7_readsOrder_253 : decode cX7_readsOrder 253 = .ok (.iastore, 1) := by decide +kernel
theorem dX7_readsOrder_254 : decode cX7_readsOrder 254 = .ok (.aload_n 0, 1) := by decide +kernel
theorem dX7_readsOrder_255 : decode cX7_readsOrder 255 = .ok (.aload_n 0, 1) := by decide +kernel
theorem dX7_readsOrder_256 : decode cX7_readsOrder 256 = .ok (.bipush 61, 2) := by decide +kernel
theorem dX7_readsOrder_258 : decode cX7_readsOrder 258 = .ok (.invokevirtual 167, 3) := by decide +kernel
theorem dX7_readsOrder_261 : decode cX7_readsOrder 261 = .ok (.putfield 153, 3) := by decide +kernel
theorem dX7_readsOrder_264 : decode cX7_readsOrder 264 = .ok (.aload_n 0, 1) := by decide +kernel
theorem dX7_readsOrder_265 : decode cX7_readsOrder 265 = .ok (.getfield 29, 3) := by decide +kernel
theorem dX7_readsOrder_268 : decode cX7_readsOrder 268 = .ok (.iload_n 1, 1) := by decide +kernel
theorem dX7_readsOrder_269 : decode cX7_readsOrder 269 = .ok (.iconst 2, 1) := by decide +kernel
theorem dX7_readsOrder_270 : decode cX7_readsOrder 270 = .ok (.iadd, 1) := by decide +kernel
theorem dX7_readsOrder_271 : decode cX7_readsOrder 271 = .ok (.aload_n 0, 1) := by decide +kernel
theorem dX7_readsOrder_272 : decode cX7_readsOrder 272 = .ok (.invokevirtual 173, 3) := by decide +kernel
theorem dX7_readsOrder_275 : decode cX7_readsOrder 275 = .ok (.iastore, 1) := by decide +kernel
theorem dX7_readsOrder_276 : decode cX7_readsOrder 276 = .ok (.goto 15, 3) := by decide +kernel
theorem dX7_readsOrder_279 : decode cX7_readsOrder 279 = .ok (.aload_n 0, 1) := by decide +kernel
theorem dX7_readsOrder_280 : decode cX7_readsOrder 280 = .ok (.getfield 29, 3) := by decide +kernel
theorem dX7_readsOrder_283 : decode cX7_readsOrder 283 = .ok (.iload_n 1, 1) := by decide +kernel
theorem dX7_readsOrder_284 : decode cX7_readsOrder 284 = .ok (.iconst 1, 1) := by decide +kernel
theorem dX7_readsOrder_285 : decode cX7_readsOrder 285 = .ok (.iadd, 1) := by decide +kernel
theorem dX7_readsOrder_286 : decode cX7_readsOrder 286 = .ok (.aload_n 0, 1) := by decide +kernel
theorem dX7_readsOrder_287 : decode cX7_readsOrder 287 = .ok (.invokevirtual 173, 3) := by decide +kernel
theorem dX7_readsOrder_290 : decode cX7_readsOrder 290 = .ok (.iastore, 1) := by decide +kernel
theorem dX7_readsOrder_291 : decode cX7_readsOrder 291 = .ok (.aload_n 0, 1) := by decide +kernel
theorem dX7_readsOrder_292 : decode cX7_readsOrder 292 = .ok (.dup, 1) := by decide +kernel
theorem dX7_readsOrder_293 : decode cX7_readsOrder 293 = .ok (.getfield 164, 3) := by decide +kernel
theorem dX7_readsOrder_296 : decode cX7_readsOrder 296 = .ok (.aload_n 0, 1) := by decide +kernel
theorem dX7_readsOrder_297 : decode cX7_readsOrder 297 = .ok (.getfield 153, 3) := by decide +kernel
theorem dX7_readsOrder_300 : decode cX7_readsOrder 300 = .ok (.ifCond .eq 7, 3) := by decide +kernel
theorem dX7_readsOrder_303 : decode cX7_readsOrder 303 = .ok (.iconst 1, 1) := by decide +kernel
theorem dX7_readsOrder_304 : decode cX7_readsOrder 304 = .ok (.goto 4, 3) := by decide +kernel
theorem dX7_readsOrder_307 : decode cX7_readsOrder 307 = .ok (.iconst 0, 1) := by decide +kernel
theorem dX7_readsOrder_308 : decode cX7_readsOrder 308 = .ok (.iadd, 1) := by decide +kernel
theorem dX7_readsOrder_309 : decode cX7_readsOrder 309 = .ok (.putfield 164, 3) := by decide +kernel
theorem dX7_readsOrder_312 : decode cX7_readsOrder 312 = .ok (.return_, 1) := by decide +kernel
theorem dX7_reads_0 : decode cX7_reads 0 = .ok (.aload_n 0, 1) := by decide +kernel
theorem dX7_reads_1 : decode cX7_reads 1 = .ok (.iconst 0, 1) := by decide +kernel
theorem dX7_reads_2 : decode cX7_reads 2 = .ok (.putfield 150, 3) := by decide +kernel
theorem dX7_reads_5 : decode cX7_reads 5 = .ok (.aload_n 0, 1) := by decide +kernel
theorem dX7_reads_6 : decode cX7_reads 6 = .ok (.iconst 1, 1) := by decide +kernel
theorem dX7_reads_7 : decode cX7_reads 7 = .ok (.putfield 153, 3) := by decide +kernel
theorem dX7_reads_10 : decode cX7_reads 10 = .ok (.aload_n 0, 1) := by decide +kernel
theorem dX7_reads_11 : decode cX7_reads 11 = .ok (.iconst 0, 1) := by decide +kernel
theorem dX7_reads_12 : decode cX7_reads 12 = .ok (.putfield 164, 3) := by decide +kernel
theorem dX7_reads_15 : decode cX7_reads 15 = .ok (.aload_n 0, 1) := by decide +kernel
theorem dX7_reads_16 : decode cX7_reads 16 = .ok (.invokevirtual 176, 3) := by decide +kernel
theorem dX7_reads_19 : decode cX7_reads 19 = .ok (.aload_n 0, 1) := by decide +kernel
theorem dX7_reads_20 : decode cX7_reads 20 = .ok (.getfield 153, 3) := by decide +kernel
theorem dX7_reads_23 : decode cX7_reads 23 = .ok (.ifCond .eq 38, 3) := by decide +kernel
theorem dX7_reads_26 : decode cX7_reads 26 = .ok (.aload_n 0, 1) := by decide +kernel
theorem dX7_reads_27 : decode cX7_reads 27 = .ok (.getfield 150, 3) := by decide +kernel
theorem dX7_reads_30 : decode cX7_reads 30 = .ok (.aload_n 0, 1) := by decide +kernel
theorem dX7_reads_31 : decode cX7_reads 31 = .ok (.getfield 135, 3) := by decide +kernel
theorem dX7_reads_34 : decode cX7_reads 34 = .ok (.if_icmp .ge 27, 3) := by decide +kernel
theorem dX7_reads_37 : decode cX7_reads 37 = .ok (.aload_n 0, 1) := by decide +kernel
theorem dX7_reads_38 : decode cX7_reads 38 = .ok (.aload_n 0, 1) := by decide +kernel
theorem dX7_reads_39 : decode cX7_reads 39 = .ok (.bipush 59, 2) := by decide +kernel
theorem dX7_reads_41 : decode cX7_reads 41 = .ok (.invokevirtual 167, 3) := by decide +kernel
theorem dX7_reads_44 : decode cX7_reads 44 = .ok (.putfield 153, 3) := by decide +kernel
theorem dX7_reads_47 : decode cX7_reads 47 = .ok (.aload_n 0, 1) := by decide +kernel
theorem dX7_reads_48 : decode cX7_reads 48 = .ok (.getfield 153, 3) := by decide +kernel
theorem dX7_reads_51 : decode cX7_reads 51 = .ok (.ifCond .eq (-32), 3) := by decide +kernel
theorem dX7_reads_54 : decode cX7_reads 54 = .ok (.aload_n 0, 1) := by decide +kernel
theorem dX7_reads_55 : decode cX7_reads 55 = .ok (.invokevirtual 176, 3) := by decide +kernel
theorem dX7_reads_58 : decode cX7_reads 58 = .ok (.goto (-39), 3) := by decide +kernel
theorem dX7_reads_61 : decode cX7_reads 61 = .ok (.aload_n 0, 1) := by decide +kernel
theorem dX7_reads_62 : decode cX7_reads 62 = .ok (.getfield 153, 3) := by decide +kernel
theorem dX7_reads_65 : decode cX7_reads 65 = .ok (.ifCond .eq 8, 3) := by decide +kernel
theorem dX7_reads_68 : decode cX7_reads 68 = .ok (.bipush (-6), 2) := by decide +kernel
theorem dX7_reads_70 : decode cX7_reads 70 = .ok (.goto 7, 3) := by decide +kernel
theorem dX7_reads_73 : decode cX7_reads 73 = .ok (.aload_n 0, 1) := by decide +kernel
theorem dX7_reads_74 : decode cX7_reads 74 = .ok (.getfield 150, 3) := by decide +kernel
theorem dX7_reads_77 : decode cX7_reads 77 = .ok (.ireturn, 1) := by decide +kernel
theorem dX7_fault_0 : decode cX7_fault 0 = .ok (.aload_n 0, 1) := by decide +kernel
theorem dX7_fault_1 : decode cX7_fault 1 = .ok (.iconst 0, 1) := by decide +kernel
theorem dX7_fault_2 : decode cX7_fault 2 = .ok (.putfield 32, 3) := by decide +kernel
theorem dX7_fault_5 : decode cX7_fault 5 = .ok (.aload_n 0, 1) := by decide +kernel
theorem dX7_fault_6 : decode cX7_fault 6 = .ok (.invokevirtual 179, 3) := by decide +kernel
theorem dX7_fault_9 : decode cX7_fault 9 = .ok (.ireturn, 1) := by decide +kernel
theorem dX7_refuses_0 : decode cX7_refuses 0 = .ok (.aload_n 0, 1) := by decide +kernel
theorem dX7_refuses_1 : decode cX7_refuses 1 = .ok (.getfield 29, 3) := by decide +kernel
theorem dX7_refuses_4 : decode cX7_refuses 4 = .ok (.iload_n 1, 1) := by decide +kernel
theorem dX7_refuses_5 : decode cX7_refuses 5 = .ok (.iaload, 1) := by decide +kernel
theorem dX7_refuses_6 : decode cX7_refuses 6 = .ok (.lookupswitch 112 #[(43, 34), (100, 92), (102, 71)], 34) := by decide +kernel
theorem dX7_refuses_40 : decode cX7_refuses 40 = .ok (.aload_n 0, 1) := by decide +kernel
theorem dX7_refuses_41 : decode cX7_refuses 41 = .ok (.aload_n 0, 1) := by decide +kernel
theorem dX7_refuses_42 : decode cX7_refuses 42 = .ok (.getfield 29, 3) := by decide +kernel
theorem dX7_refuses_45 : decode cX7_refuses 45 = .ok (.iload_n 1, 1) := by decide +kernel
theorem dX7_refuses_46 : decode cX7_refuses 46 = .ok (.iconst 1, 1) := by decide +kernel
theorem dX7_refuses_47 : decode cX7_refuses 47 = .ok (.iadd, 1) := by decide +kernel
theorem dX7_refuses_48 : decode cX7_refuses 48 = .ok (.iaload, 1) := by decide +kernel
theorem dX7_refuses_49 : decode cX7_refuses 49 = .ok (.aload_n 0, 1) := by decide +kernel
theorem dX7_refuses_50 : decode cX7_refuses 50 = .ok (.getfield 29, 3) := by decide +kernel
theorem dX7_refuses_53 : decode cX7_refuses 53 = .ok (.iload_n 1, 1) := by decide +kernel
theorem dX7_refuses_54 : decode cX7_refuses 54 = .ok (.iconst 2, 1) := by decide +kernel
theorem dX7_refuses_55 : decode cX7_refuses 55 = .ok (.iadd, 1) := by decide +kernel
theorem dX7_refuses_56 : decode cX7_refuses 56 = .ok (.iaload, 1) := by decide +kernel
theorem dX7_refuses_57 : decode cX7_refuses 57 = .ok (.aload_n 0, 1) := by decide +kernel
theorem dX7_refuses_58 : decode cX7_refuses 58 = .ok (.getfield 29, 3) := by decide +kernel
theorem dX7_refuses_61 : decode cX7_refuses 61 = .ok (.iload_n 1, 1) := by decide +kernel
theorem dX7_refuses_62 : decode cX7_refuses 62 = .ok (.iconst 3, 1) := by decide +kernel
theorem dX7_refuses_63 : decode cX7_refuses 63 = .ok (.iadd, 1) := by decide +kernel
theorem dX7_refuses_64 : decode cX7_refuses 64 = .ok (.iaload, 1) := by decide +kernel
theorem dX7_refuses_65 : decode cX7_refuses 65 = .ok (.aload_n 0, 1) := by decide +kernel
theorem dX7_refuses_66 : decode cX7_refuses 66 = .ok (.getfield 29, 3) := by decide +kernel
theorem dX7_refuses_69 : decode cX7_refuses 69 = .ok (.iload_n 1, 1) := by decide +kernel
theorem dX7_refuses_70 : decode cX7_refuses 70 = .ok (.iconst 4, 1) := by decide +kernel
theorem dX7_refuses_71 : decode cX7_refuses 71 = .ok (.iadd, 1) := by decide +kernel
theorem dX7_refuses_72 : decode cX7_refuses 72 = .ok (.iaload, 1) := by decide +kernel
theorem dX7_refuses_73 : decode cX7_refuses 73 = .ok (.invokevirtual 98, 3) := by decide +kernel
theorem dX7_refuses_76 : decode cX7_refuses 76 = .ok (.ireturn, 1) := by decide +kernel
theorem dX7_refuses_77 : decode cX7_refuses 77 = .ok (.aload_n 0, 1) := by decide +kernel
theorem dX7_refuses_78 : decode cX7_refuses 78 = .ok (.aload_n 0, 1) := by decide +kernel
theorem dX7_refuses_79 : decode cX7_refuses 79 = .ok (.getfield 29, 3) := by decide +kernel
theorem dX7_refuses_82 : decode cX7_refuses 82 = .ok (.iload_n 1, 1) := by decide +kernel
theorem dX7_refuses_83 : decode cX7_refuses 83 = .ok (.iconst 1, 1) := by decide +kernel
theorem dX7_refuses_84 : decode cX7_refuses 84 = .ok (.iadd, 1) := by decide +kernel
theorem dX7_refuses_85 : decode cX7_refuses 85 = .ok (.iaload, 1) := by decide +kernel
theorem dX7_refuses_86 : decode cX7_refuses 86 = .ok (.aload_n 0, 1) := by decide +kernel
theorem dX7_refuses_87 : decode cX7_refuses 87 = .ok (.getfield 29, 3) := by decide +kernel
theorem dX7_refuses_90 : decode cX7_refuses 90 = .ok (.iload_n 1, 1) := by decide +kernel
theorem dX7_refuses_91 : decode cX7_refuses 91 = .ok (.iconst 2, 1) := by decide +kernel
theorem dX7_refuses_92 : decode cX7_refuses 92 = .ok (.iadd, 1) := by decide +kernel
theorem dX7_refuses_93 : decode cX7_refuses 93 = .ok (.iaload, 1) := by decide +kernel
theorem dX7_refuses_94 : decode cX7_refuses 94 = .ok (.invokevirtual 108, 3) := by decide +kernel
theorem dX7_refuses_97 : decode cX7_refuses 97 = .ok (.ireturn, 1) := by decide +kernel
theorem dX7_refuses_98 : decode cX7_refuses 98 = .ok (.aload_n 0, 1) := by decide +kernel
theorem dX7_refuses_99 : decode cX7_refuses 99 = .ok (.getfield 29, 3) := by decide +kernel
theorem dX7_refuses_102 : decode cX7_refuses 102 = .ok (.iload_n 1, 1) := by decide +kernel
theorem dX7_refuses_103 : decode cX7_refuses 103 = .ok (.iconst 1, 1) := by decide +kernel
theorem dX7_refuses_104 : decode cX7_refuses 104 = .ok (.iadd, 1) := by decide +kernel
theorem dX7_refuses_105 : decode cX7_refuses 105 = .ok (.iaload, 1) := by decide +kernel
theorem dX7_refuses_106 : decode cX7_refuses 106 = .ok (.aload_n 0, 1) := by decide +kernel
theorem dX7_refuses_107 : decode cX7_refuses 107 = .ok (.getfield 29, 3) := by decide +kernel
theorem dX7_refuses_110 : decode cX7_refuses 110 = .ok (.iload_n 1, 1) := by decide +kernel
theorem dX7_refuses_111 : decode cX7_refuses 111 = .ok (.iconst 2, 1) := by decide +kernel
theorem dX7_refuses_112 : decode cX7_refuses 112 = .ok (.iadd, 1) := by decide +kernel
theorem dX7_refuses_113 : decode cX7_refuses 113 = .ok (.iaload, 1) := by decide +kernel
theorem dX7_refuses_114 : decode cX7_refuses 114 = .ok (.invokestatic 114, 3) := by decide +kernel
theorem dX7_refuses_117 : decode cX7_refuses 117 = .ok (.ireturn, 1) := by decide +kernel
theorem dX7_refuses_118 : decode cX7_refuses 118 = .ok (.aload_n 0, 1) := by decide +kernel
theorem dX7_refuses_119 : decode cX7_refuses 119 = .ok (.aload_n 0, 1) := by decide +kernel
theorem dX7_refuses_120 : decode cX7_refuses 120 = .ok (.getfield 29, 3) := by decide +kernel
theorem dX7_refuses_123 : decode cX7_refuses 123 = .ok (.iload_n 1, 1) := by decide +kernel
theorem dX7_refuses_124 : decode cX7_refuses 124 = .ok (.iconst 1, 1) := by decide +kernel
theorem dX7_refuses_125 : decode cX7_refuses 125 = .ok (.iadd, 1) := by decide +kernel
theorem dX7_refuses_126 : decode cX7_refuses 126 = .ok (.iaload, 1) := by decide +kernel
theorem dX7_refuses_127 : decode cX7_refuses 127 = .ok (.invokevirtual 120, 3) := by decide +kernel
theorem dX7_refuses_130 : decode cX7_refuses 130 = .ok (.ireturn, 1) := by decide +kernel
theorem dX7_does_0 : decode cX7_does 0 = .ok (.aload_n 0, 1) := by decide +kernel
theorem dX7_does_1 : decode cX7_does 1 = .ok (.getfield 29, 3) := by decide +kernel
theorem dX7_does_4 : decode cX7_does 4 = .ok (.iload_n 1, 1) := by decide +kernel
theorem dX7_does_5 : decode cX7_does 5 = .ok (.iaload, 1) := by decide +kernel
theorem dX7_does_6 : decode cX7_does 6 = .ok (.lookupswitch 124 #[(43, 34), (100, 98), (102, 74)], 34) := by decide +kernel
theorem dX7_does_40 : decode cX7_does 40 = .ok (.aload_n 0, 1) := by decide +kernel
theorem dX7_does_41 : decode cX7_does 41 = .ok (.aload_n 0, 1) := by decide +kernel
theorem dX7_does_42 : decode cX7_does 42 = .ok (.getfield 29, 3) := by decide +kernel
theorem dX7_does_45 : decode cX7_does 45 = .ok (.iload_n 1, 1) := by decide +kernel
theorem dX7_does_46 : decode cX7_does 46 = .ok (.iconst 1, 1) := by decide +kernel
theorem dX7_does_47 : decode cX7_does 47 = .ok (.iadd, 1) := by decide +kernel
theorem dX7_does_48 : decode cX7_does 48 = .ok (.iaload, 1) := by decide +kernel
theorem dX7_does_49 : decode cX7_does 49 = .ok (.aload_n 0, 1) := by decide +kernel
theorem dX7_does_50 : decode cX7_does 50 = .ok (.getfield 29, 3) := by decide +kernel
theorem dX7_does_53 : decode cX7_does 53 = .ok (.iload_n 1, 1) := by decide +kernel
theorem dX7_does_54 : decode cX7_does 54 = .ok (.iconst 2, 1) := by decide +kernel
theorem dX7_does_55 : decode cX7_does 55 = .ok (.iadd, 1) := by decide +kernel
theorem dX7_does_56 : decode cX7_does 56 = .ok (.iaload, 1) := by decide +kernel
theorem dX7_does_57 : decode cX7_does 57 = .ok (.aload_n 0, 1) := by decide +kernel
theorem dX7_does_58 : decode cX7_does 58 = .ok (.getfield 29, 3) := by decide +kernel
theorem dX7_does_61 : decode cX7_does 61 = .ok (.iload_n 1, 1) := by decide +kernel
theorem dX7_does_62 : decode cX7_does 62 = .ok (.iconst 3, 1) := by decide +kernel
theorem dX7_does_63 : decode cX7_does 63 = .ok (.iadd, 1) := by decide +kernel
theorem dX7_does_64 : decode cX7_does 64 = .ok (.iaload, 1) := by decide +kernel
theorem dX7_does_65 : decode cX7_does 65 = .ok (.aload_n 0, 1) := by decide +kernel
theorem dX7_does_66 : decode cX7_does 66 = .ok (.getfield 29, 3) := by decide +kernel
theorem dX7_does_69 : decode cX7_does 69 = .ok (.iload_n 1, 1) := by decide +kernel
theorem dX7_does_70 : decode cX7_does 70 = .ok (.iconst 4, 1) := by decide +kernel
theorem dX7_does_71 : decode cX7_does 71 = .ok (.iadd, 1) := by decide +kernel
theorem dX7_does_72 : decode cX7_does 72 = .ok (.iaload, 1) := by decide +kernel
theorem dX7_does_73 : decode cX7_does 73 = .ok (.invokevirtual 105, 3) := by decide +kernel
theorem dX7_does_76 : decode cX7_does 76 = .ok (.pop, 1) := by decide +kernel
theorem dX7_does_77 : decode cX7_does 77 = .ok (.goto 66, 3) := by decide +kernel
theorem dX7_does_80 : decode cX7_does 80 = .ok (.aload_n 0, 1) := by decide +kernel
theorem dX7_does_81 : decode cX7_does 81 = .ok (.aload_n 0, 1) := by decide +kernel
theorem dX7_does_82 : decode cX7_does 82 = .ok (.getfield 29, 3) := by decide +kernel
theorem dX7_does_85 : decode cX7_does 85 = .ok (.iload_n 1, 1) := by decide +kernel
theorem dX7_does_86 : decode cX7_does 86 = .ok (.iconst 1, 1) := by decide +kernel
theorem dX7_does_87 : decode cX7_does 87 = .ok (.iadd, 1) := by decide +kernel
theorem dX7_does_88 : decode cX7_does 88 = .ok (.iaload, 1) := by decide +kernel
theorem dX7_does_89 : decode cX7_does 89 = .ok (.aload_n 0, 1) := by decide +kernel
theorem dX7_does_90 : decode cX7_does 90 = .ok (.getfield 29, 3) := by decide +kernel
theorem dX7_does_93 : decode cX7_does 93 = .ok (.iload_n 1, 1) := by decide +kernel
theorem dX7_does_94 : decode cX7_does 94 = .ok (.iconst 2, 1) := by decide +kernel
theorem dX7_does_95 : decode cX7_does 95 = .ok (.iadd, 1) := by decide +kernel
theorem dX7_does_96 : decode cX7_does 96 = .ok (.iaload, 1) := by decide +kernel
theorem dX7_does_97 : decode cX7_does 97 = .ok (.invokevirtual 111, 3) := by decide +kernel
theorem dX7_does_100 : decode cX7_does 100 = .ok (.pop, 1) := by decide +kernel
theorem dX7_does_101 : decode cX7_does 101 = .ok (.goto 42, 3) := by decide +kernel
theorem dX7_does_104 : decode cX7_does 104 = .ok (.aload_n 0, 1) := by decide +kernel
theorem dX7_does_105 : decode cX7_does 105 = .ok (.getfield 7, 3) := by decide +kernel
theorem dX7_does_108 : decode cX7_does 108 = .ok (.iconst 3, 1) := by decide +kernel
theorem dX7_does_109 : decode cX7_does 109 = .ok (.aload_n 0, 1) := by decide +kernel
theorem dX7_does_110 : decode cX7_does 110 = .ok (.getfield 29, 3) := by decide +kernel
theorem dX7_does_113 : decode cX7_does 113 = .ok (.iload_n 1, 1) := by decide +kernel
theorem dX7_does_114 : decode cX7_does 114 = .ok (.iconst 1, 1) := by decide +kernel
theorem dX7_does_115 : decode cX7_does 115 = .ok (.iadd, 1) := by decide +kernel
theorem dX7_does_116 : decode cX7_does 116 = .ok (.iaload, 1) := by decide +kernel
theorem dX7_does_117 : decode cX7_does 117 = .ok (.iadd, 1) := by decide +kernel
theorem dX7_does_118 : decode cX7_does 118 = .ok (.aload_n 0, 1) := by decide +kernel
theorem dX7_does_119 : decode cX7_does 119 = .ok (.getfield 29, 3) := by decide +kernel
theorem dX7_does_122 : decode cX7_does 122 = .ok (.iload_n 1, 1) := by decide +kernel
theorem dX7_does_123 : decode cX7_does 123 = .ok (.iconst 2, 1) := by decide +kernel
theorem dX7_does_124 : decode cX7_does 124 = .ok (.iadd, 1) := by decide +kernel
theorem dX7_does_125 : decode cX7_does 125 = .ok (.iaload, 1) := by decide +kernel
theorem dX7_does_126 : decode cX7_does 126 = .ok (.iastore, 1) := by decide +kernel
theorem dX7_does_127 : decode cX7_does 127 = .ok (.goto 16, 3) := by decide +kernel
theorem dX7_does_130 : decode cX7_does 130 = .ok (.aload_n 0, 1) := by decide +kernel
theorem dX7_does_131 : decode cX7_does 131 = .ok (.aload_n 0, 1) := by decide +kernel
theorem dX7_does_132 : decode cX7_does 132 = .ok (.getfield 29, 3) := by decide +kernel
theorem dX7_does_135 : decode cX7_does 135 = .ok (.iload_n 1, 1) := by decide +kernel
theorem dX7_does_136 : decode cX7_does 136 = .ok (.iconst 1, 1) := by decide +kernel
theorem dX7_does_137 : decode cX7_does 137 = .ok (.iadd, 1) := by decide +kernel
theorem dX7_does_138 : decode cX7_does 138 = .ok (.iaload, 1) := by decide +kernel
theorem dX7_does_139 : decode cX7_does 139 = .ok (.invokevirtual 123, 3) := by decide +kernel
theorem dX7_does_142 : decode cX7_does 142 = .ok (.pop, 1) := by decide +kernel
theorem dX7_does_143 : decode cX7_does 143 = .ok (.return_, 1) := by decide +kernel
theorem dX7_carryOut_0 : decode cX7_carryOut 0 = .ok (.aload_n 0, 1) := by decide +kernel
theorem dX7_carryOut_1 : decode cX7_carryOut 1 = .ok (.iconst 0, 1) := by decide +kernel
theorem dX7_carryOut_2 : decode cX7_carryOut 2 = .ok (.putfield 32, 3) := by decide +kernel
theorem dX7_carryOut_5 : decode cX7_carryOut 5 = .ok (.aload_n 0, 1) := by decide +kernel
theorem dX7_carryOut_6 : decode cX7_carryOut 6 = .ok (.invokevirtual 179, 3) := by decide +kernel
theorem dX7_carryOut_9 : decode cX7_carryOut 9 = .ok (.bipush (-6), 2) := by decide +kernel
theorem dX7_carryOut_11 : decode cX7_carryOut 11 = .ok (.if_icmp .eq 6, 3) := by decide +kernel
theorem dX7_carryOut_14 : decode cX7_carryOut 14 = .ok (.bipush (-3), 2) := by decide +kernel
theorem dX7_carryOut_16 : decode cX7_carryOut 16 = .ok (.ireturn, 1) := by decide +kernel
theorem dX7_carryOut_17 : decode cX7_carryOut 17 = .ok (.aload_n 0, 1) := by decide +kernel
theorem dX7_carryOut_18 : decode cX7_carryOut 18 = .ok (.invokevirtual 102, 3) := by decide +kernel
theorem dX7_carryOut_21 : decode cX7_carryOut 21 = .ok (.aload_n 0, 1) := by decide +kernel
theorem dX7_carryOut_22 : decode cX7_carryOut 22 = .ok (.iconst 0, 1) := by decide +kernel
theorem dX7_carryOut_23 : decode cX7_carryOut 23 = .ok (.putfield 135, 3) := by decide +kernel
theorem dX7_carryOut_26 : decode cX7_carryOut 26 = .ok (.iconst 0, 1) := by decide +kernel
theorem dX7_carryOut_27 : decode cX7_carryOut 27 = .ok (.istore_n 1, 1) := by decide +kernel
theorem dX7_carryOut_28 : decode cX7_carryOut 28 = .ok (.iload_n 1, 1) := by decide +kernel
theorem dX7_carryOut_29 : decode cX7_carryOut 29 = .ok (.aload_n 0, 1) := by decide +kernel
theorem dX7_carryOut_30 : decode cX7_carryOut 30 = .ok (.getfield 164, 3) := by decide +kernel
theorem dX7_carryOut_33 : decode cX7_carryOut 33 = .ok (.if_icmp .ge 28, 3) := by decide +kernel
theorem dX7_carryOut_36 : decode cX7_carryOut 36 = .ok (.aload_n 0, 1) := by decide +kernel
theorem dX7_carryOut_37 : decode cX7_carryOut 37 = .ok (.iconst 5, 1) := by decide +kernel
theorem dX7_carryOut_38 : decode cX7_carryOut 38 = .ok (.iload_n 1, 1) := by decide +kernel
theorem dX7_carryOut_39 : decode cX7_carryOut 39 = .ok (.imul, 1) := by decide +kernel
theorem dX7_carryOut_40 : decode cX7_carryOut 40 = .ok (.invokevirtual 182, 3) := by decide +kernel
theorem dX7_carryOut_43 : decode cX7_carryOut 43 = .ok (.ifCond .eq 5, 3) := by decide +kernel
theorem dX7_carryOut_46 : decode cX7_carryOut 46 = .ok (.iload_n 1, 1) := by decide +kernel
theorem dX7_carryOut_47 : decode cX7_carryOut 47 = .ok (.ireturn, 1) := by decide +kernel
theorem dX7_carryOut_48 : decode cX7_carryOut 48 = .ok (.aload_n 0, 1) := by decide +kernel
theorem dX7_carryOut_49 : decode cX7_carryOut 49 = .ok (.iconst 5, 1) := by decide +kernel
theorem dX7_carryOut_50 : decode cX7_carryOut 50 = .ok (.iload_n 1, 1) := by decide +kernel
theorem dX7_carryOut_51 : decode cX7_carryOut 51 = .ok (.imul, 1) := by decide +kernel
theorem dX7_carryOut_52 : decode cX7_carryOut 52 = .ok (.invokevirtual 185, 3) := by decide +kernel
theorem dX7_carryOut_55 : decode cX7_carryOut 55 = .ok (.iinc 1 1, 3) := by decide +kernel
theorem dX7_carryOut_58 : decode cX7_carryOut 58 = .ok (.goto (-30), 3) := by decide +kernel
theorem dX7_carryOut_61 : decode cX7_carryOut 61 = .ok (.aload_n 0, 1) := by decide +kernel
theorem dX7_carryOut_62 : decode cX7_carryOut 62 = .ok (.getfield 164, 3) := by decide +kernel
theorem dX7_carryOut_65 : decode cX7_carryOut 65 = .ok (.ireturn, 1) := by decide +kernel
theorem dX7_undo_0 : decode cX7_undo 0 = .ok (.aload_n 0, 1) := by decide +kernel
theorem dX7_undo_1 : decode cX7_undo 1 = .ok (.iconst 0, 1) := by decide +kernel
theorem dX7_undo_2 : decode cX7_undo 2 = .ok (.putfield 32, 3) := by decide +kernel
theorem dX7_undo_5 : decode cX7_undo 5 = .ok (.aload_n 0, 1) := by decide +kernel
theorem dX7_undo_6 : decode cX7_undo 6 = .ok (.getfield 36, 3) := by decide +kernel
theorem dX7_undo_9 : decode cX7_undo 9 = .ok (.ifCond .ne 6, 3) := by decide +kernel
theorem dX7_undo_12 : decode cX7_undo 12 = .ok (.bipush (-5), 2) := by decide +kernel
theorem dX7_undo_14 : decode cX7_undo 14 = .ok (.ireturn, 1) := by decide +kernel
theorem dX7_undo_15 : decode cX7_undo 15 = .ok (.aload_n 0, 1) := by decide +kernel
theorem dX7_undo_16 : decode cX7_undo 16 = .ok (.dup, 1) := by decide +kernel
theorem dX7_undo_17 : decode cX7_undo 17 = .ok (.getfield 36, 3) := by decide +kernel
theorem dX7_undo_20 : decode cX7_undo 20 = .ok (.iconst 1, 1) := by decide +kernel
theorem dX7_undo_21 : decode cX7_undo 21 = .ok (.isub, 1) := by decide +kernel
theorem dX7_undo_22 : decode cX7_undo 22 = .ok (.putfield 36, 3) := by decide +kernel
theorem dX7_undo_25 : decode cX7_undo 25 = .ok (.iconst 0, 1) := by decide +kernel
theorem dX7_undo_26 : decode cX7_undo 26 = .ok (.istore_n 1, 1) := by decide +kernel
theorem dX7_undo_27 : decode cX7_undo 27 = .ok (.iload_n 1, 1) := by decide +kernel
theorem dX7_undo_28 : decode cX7_undo 28 = .ok (.sipush 267, 3) := by decide +kernel
theorem dX7_undo_31 : decode cX7_undo 31 = .ok (.if_icmp .ge 30, 3) := by decide +kernel
theorem dX7_undo_34 : decode cX7_undo 34 = .ok (.aload_n 0, 1) := by decide +kernel
theorem dX7_undo_35 : decode cX7_undo 35 = .ok (.getfield 7, 3) := by decide +kernel
theorem dX7_undo_38 : decode cX7_undo 38 = .ok (.iload_n 1, 1) := by decide +kernel
theorem dX7_undo_39 : decode cX7_undo 39 = .ok (.aload_n 0, 1) := by decide +kernel
theorem dX7_undo_40 : decode cX7_undo 40 = .ok (.getfield 16, 3) := by decide +kernel
theorem dX7_undo_43 : decode cX7_undo 43 = .ok (.sipush 267, 3) := by decide +kernel
theorem dX7_undo_46 : decode cX7_undo 46 = .ok (.aload_n 0, 1) := by decide +kernel
theorem dX7_undo_47 : decode cX7_undo 47 = .ok (.getfield 36, 3) := by decide +kernel
theorem dX7_undo_50 : decode cX7_undo 50 = .ok (.imul, 1) := by decide +kernel
theorem dX7_undo_51 : decode cX7_undo 51 = .ok (.iload_n 1, 1) := by decide +kernel
theorem dX7_undo_52 : decode cX7_undo 52 = .ok (.iadd, 1) := by decide +kernel
theorem dX7_undo_53 : decode cX7_undo 53 = .ok (.iaload, 1) := by decide +kernel
theorem dX7_undo_54 : decode cX7_undo 54 = .ok (.iastore, 1) := by decide +kernel
theorem dX7_undo_55 : decode cX7_undo 55 = .ok (.iinc 1 1, 3) := by decide +kernel
theorem dX7_undo_58 : decode cX7_undo 58 = .ok (.goto (-31), 3) := by decide +kernel
theorem dX7_undo_61 : decode cX7_undo 61 = .ok (.aload_n 0, 1) := by decide +kernel
theorem dX7_undo_62 : decode cX7_undo 62 = .ok (.getfield 36, 3) := by decide +kernel
theorem dX7_undo_65 : decode cX7_undo 65 = .ok (.ireturn, 1) := by decide +kernel
theorem dX7_save_0 : decode cX7_save 0 = .ok (.aload_n 0, 1) := by decide +kernel
theorem dX7_save_1 : decode cX7_save 1 = .ok (.iconst 0, 1) := by decide +kernel
theorem dX7_save_2 : decode cX7_save 2 = .ok (.putfield 32, 3) := by decide +kernel
theorem dX7_save_5 : decode cX7_save 5 = .ok (.iload_n 1, 1) := by decide +kernel
theorem dX7_save_6 : decode cX7_save 6 = .ok (.iconst 0, 1) := by decide +kernel
theorem dX7_save_7 : decode cX7_save 7 = .ok (.iconst 1, 1) := by decide +kernel
theorem dX7_save_8 : decode cX7_save 8 = .ok (.invokestatic 94, 3) := by decide +kernel
theorem dX7_save_11 : decode cX7_save 11 = .ok (.ifCond .ne 6, 3) := by decide +kernel
theorem dX7_save_14 : decode cX7_save 14 = .ok (.bipush (-2), 2) := by decide +kernel
theorem dX7_save_16 : decode cX7_save 16 = .ok (.ireturn, 1) := by decide +kernel
theorem dX7_save_17 : decode cX7_save 17 = .ok (.iconst 0, 1) := by decide +kernel
theorem dX7_save_18 : decode cX7_save 18 = .ok (.istore_n 2, 1) := by decide +kernel
theorem dX7_save_19 : decode cX7_save 19 = .ok (.iload_n 2, 1) := by decide +kernel
theorem dX7_save_20 : decode cX7_save 20 = .ok (.sipush 267, 3) := by decide +kernel
theorem dX7_save_23 : decode cX7_save 23 = .ok (.if_icmp .ge 27, 3) := by decide +kernel
theorem dX7_save_26 : decode cX7_save 26 = .ok (.aload_n 0, 1) := by decide +kernel
theorem dX7_save_27 : decode cX7_save 27 = .ok (.getfield 19, 3) := by decide +kernel
theorem dX7_save_30 : decode cX7_save 30 = .ok (.sipush 267, 3) := by decide +kernel
theorem dX7_save_33 : decode cX7_save 33 = .ok (.iload_n 1, 1) := by decide +kernel
theorem dX7_save_34 : decode cX7_save 34 = .ok (.imul, 1) := by decide +kernel
theorem dX7_save_35 : decode cX7_save 35 = .ok (.iload_n 2, 1) := by decide +kernel
theorem dX7_save_36 : decode cX7_save 36 = .ok (.iadd, 1) := by decide +kernel
theorem dX7_save_37 : decode cX7_save 37 = .ok (.aload_n 0, 1) := by decide +kernel
theorem dX7_save_38 : decode cX7_save 38 = .ok (.getfield 7, 3) := by decide +kernel
theorem dX7_save_41 : decode cX7_save 41 = .ok (.iload_n 2, 1) := by decide +kernel
theorem dX7_save_42 : decode cX7_save 42 = .ok (.iaload, 1) := by decide +kernel
theorem dX7_save_43 : decode cX7_save 43 = .ok (.iastore, 1) := by decide +kernel
theorem dX7_save_44 : decode cX7_save 44 = .ok (.iinc 2 1, 3) := by decide +kernel
theorem dX7_save_47 : decode cX7_save 47 = .ok (.goto (-28), 3) := by decide +kernel
theorem dX7_save_50 : decode cX7_save 50 = .ok (.aload_n 0, 1) := by decide +kernel
theorem dX7_save_51 : decode cX7_save 51 = .ok (.getfield 22, 3) := by decide +kernel
theorem dX7_save_54 : decode cX7_save 54 = .ok (.iload_n 1, 1) := by decide +kernel
theorem dX7_save_55 : decode cX7_save 55 = .ok (.iconst 1, 1) := by decide +kernel
theorem dX7_save_56 : decode cX7_save 56 = .ok (.bastore, 1) := by decide +kernel
theorem dX7_save_57 : decode cX7_save 57 = .ok (.aload_n 0, 1) := by decide +kernel
theorem dX7_save_58 : decode cX7_save 58 = .ok (.getfield 7, 3) := by decide +kernel
theorem dX7_save_61 : decode cX7_save 61 = .ok (.iconst 1, 1) := by decide +kernel
theorem dX7_save_62 : decode cX7_save 62 = .ok (.iaload, 1) := by decide +kernel
theorem dX7_save_63 : decode cX7_save 63 = .ok (.ireturn, 1) := by decide +kernel
theorem dX7_restore_0 : decode cX7_restore 0 = .ok (.aload_n 0, 1) := by decide +kernel
theorem dX7_restore_1 : decode cX7_restore 1 = .ok (.iconst 0, 1) := by decide +kernel
theorem dX7_restore_2 : decode cX7_restore 2 = .ok (.putfield 32, 3) := by decide +kernel
theorem dX7_restore_5 : decode cX7_restore 5 = .ok (.iload_n 1, 1) := by decide +kernel
theorem dX7_restore_6 : decode cX7_restore 6 = .ok (.iconst 0, 1) := by decide +kernel
theorem dX7_restore_7 : decode cX7_restore 7 = .ok (.iconst 1, 1) := by decide +kernel
theorem dX7_restore_8 : decode cX7_restore 8 = .ok (.invokestatic 94, 3) := by decide +kernel
theorem dX7_restore_11 : decode cX7_restore 11 = .ok (.ifCond .ne 6, 3) := by decide +kernel
theorem dX7_restore_14 : decode cX7_restore 14 = .ok (.bipush (-2), 2) := by decide +kernel
theorem dX7_restore_16 : decode cX7_restore 16 = .ok (.ireturn, 1) := by decide +kernel
theorem dX7_restore_17 : decode cX7_restore 17 = .ok (.aload_n 0, 1) := by decide +kernel
theorem dX7_restore_18 : decode cX7_restore 18 = .ok (.getfield 22, 3) := by decide +kernel
theorem dX7_restore_21 : decode cX7_restore 21 = .ok (.iload_n 1, 1) := by decide +kernel
theorem dX7_restore_22 : decode cX7_restore 22 = .ok (.baload, 1) := by decide +kernel
theorem dX7_restore_23 : decode cX7_restore 23 = .ok (.ifCond .ne 6, 3) := by decide +kernel
theorem dX7_restore_26 : decode cX7_restore 26 = .ok (.bipush (-5), 2) := by decide +kernel
theorem dX7_restore_28 : decode cX7_restore 28 = .ok (.ireturn, 1) := by decide +kernel
theorem dX7_restore_29 : decode cX7_restore 29 = .ok (.aload_n 0, 1) := by decide +kernel
theorem dX7_restore_30 : decode cX7_restore 30 = .ok (.invokevirtual 102, 3) := by decide +kernel
theorem dX7_restore_33 : decode cX7_restore 33 = .ok (.iconst 0, 1) := by decide +kernel
theorem dX7_restore_34 : decode cX7_restore 34 = .ok (.istore_n 2, 1) := by decide +kernel
theorem dX7_restore_35 : decode cX7_restore 35 = .ok (.iload_n 2, 1) := by decide +kernel
theorem dX7_restore_36 : decode cX7_restore 36 = .ok (.sipush 267, 3) := by decide +kernel
theorem dX7_restore_39 : decode cX7_restore 39 = .ok (.if_icmp .ge 27, 3) := by decide +kernel
theorem dX7_restore_42 : decode cX7_restore 42 = .ok (.aload_n 0, 1) := by decide +kernel
theorem dX7_restore_43 : decode cX7_restore 43 = .ok (.getfield 7, 3) := by decide +kernel
theorem dX7_restore_46 : decode cX7_restore 46 = .ok (.iload_n 2, 1) := by decide +kernel
theorem dX7_restore_47 : decode cX7_restore 47 = .ok (.aload_n 0, 1) := by decide +kernel
theorem dX7_restore_48 : decode cX7_restore 48 = .ok (.getfield 19, 3) := by decide +kernel
theorem dX7_restore_51 : decode cX7_restore 51 = .ok (.sipush 267, 3) := by decide +kernel
theorem dX7_restore_54 : decode cX7_restore 54 = .ok (.iload_n 1, 1) := by decide +kernel
theorem dX7_restore_55 : decode cX7_restore 55 = .ok (.imul, 1) := by decide +kernel
theorem dX7_restore_56 : decode cX7_restore 56 = .ok (.iload_n 2, 1) := by decide +kernel
theorem dX7_restore_57 : decode cX7_restore 57 = .ok (.iadd, 1) := by decide +kernel
theorem dX7_restore_58 : decode cX7_restore 58 = .ok (.iaload, 1) := by decide +kernel
theorem dX7_restore_59 : decode cX7_restore 59 = .ok (.iastore, 1) := by decide +kernel
theorem dX7_restore_60 : decode cX7_restore 60 = .ok (.iinc 2 1, 3) := by decide +kernel
theorem dX7_restore_63 : decode cX7_restore 63 = .ok (.goto (-28), 3) := by decide +kernel
theorem dX7_restore_66 : decode cX7_restore 66 = .ok (.aload_n 0, 1) := by decide +kernel
theorem dX7_restore_67 : decode cX7_restore 67 = .ok (.getfield 7, 3) := by decide +kernel
theorem dX7_restore_70 : decode cX7_restore 70 = .ok (.iconst 1, 1) := by decide +kernel
theorem dX7_restore_71 : decode cX7_restore 71 = .ok (.iaload, 1) := by decide +kernel
theorem dX7_restore_72 : decode cX7_restore 72 = .ok (.ireturn, 1) := by decide +kernel
theorem dL_law_0 : decode cL_law 0 = .ok (.new 7, 3) := by decide +kernel
theorem dL_law_3 : decode cL_law 3 = .ok (.dup, 1) := by decide +kernel
theorem dL_law_4 : decode cL_law 4 = .ok (.invokespecial 9, 3) := by decide +kernel
theorem dL_law_7 : decode cL_law 7 = .ok (.astore_n 1, 1) := by decide +kernel
theorem dL_law_8 : decode cL_law 8 = .ok (.new 10, 3) := by decide +kernel
theorem dL_law_11 : decode cL_law 11 = .ok (.dup, 1) := by decide +kernel
theorem dL_law_12 : decode cL_law 12 = .ok (.invokespecial 12, 3) := by decide +kernel
theorem dL_law_15 : decode cL_law 15 = .ok (.astore_n 2, 1) := by decide +kernel
theorem dL_law_16 : decode cL_law 16 = .ok (.iconst 0, 1) := by decide +kernel
theorem dL_law_17 : decode cL_law 17 = .ok (.istore_n 3, 1) := by decide +kernel
theorem dL_law_18 : decode cL_law 18 = .ok (.iload_n 3, 1) := by decide +kernel
theorem dL_law_19 : decode cL_law 19 = .ok (.aload_n 0, 1) := by decide +kernel
theorem dL_law_20 : decode cL_law 20 = .ok (.arraylength, 1) := by decide +kernel
theorem dL_law_21 : decode cL_law 21 = .ok (.iconst 5, 1) := by decide +kernel
theorem dL_law_22 : decode cL_law 22 = .ok (.isub, 1) := by decide +kernel
theorem dL_law_23 : decode cL_law 23 = .ok (.if_icmp .gt 651, 3) := by decide +kernel
theorem dL_law_26 : decode cL_law 26 = .ok (.aload_n 0, 1) := by decide +kernel
theorem dL_law_27 : decode cL_law 27 = .ok (.iload_n 3, 1) := by decide +kernel
theorem dL_law_28 : decode cL_law 28 = .ok (.iaload, 1) := by decide +kernel
theorem dL_law_29 : decode cL_law 29 = .ok (.bipush 31, 2) := by decide +kernel
theorem dL_law_31 : decode cL_law 31 = .ok (.iand, 1) := by decide +kernel
theorem dL_law_32 : decode cL_law 32 = .ok (.tableswitch 636 0 19 #[96, 149, 182, 215, 238, 261, 294, 327, 360, 383, 396, 419, 462, 485, 538, 551, 564, 577, 590, 613], 96) := by decide +kernel
theorem dL_law_128 : decode cL_law 128 = .ok (.aload_n 1, 1) := by decide +kernel
theorem dL_law_129 : decode cL_law 129 = .ok (.aload_n 0, 1) := by decide +kernel
theorem dL_law_130 : decode cL_law 130 = .ok (.iload_n 3, 1) := by decide +kernel
theorem dL_law_131 : decode cL_law 131 = .ok (.iconst 1, 1) := by decide +kernel
theorem dL_law_132 : decode cL_law 132 = .ok (.iadd, 1) := by decide +kernel
theorem dL_law_133 : decode cL_law 133 = .ok (.iaload, 1) := by decide +kernel
theorem dL_law_134 : decode cL_law 134 = .ok (.aload_n 0, 1) := by decide +kernel
theorem dL_law_135 : decode cL_law 135 = .ok (.iload_n 3, 1) := by decide +kernel
theorem dL_law_136 : decode cL_law 136 = .ok (.iconst 2, 1) := by decide +kernel
theorem dL_law_137 : decode cL_law 137 = .ok (.iadd, 1) := by decide +kernel
theorem dL_law_138 : decode cL_law 138 = .ok (.iaload, 1) := by decide +kernel
theorem dL_law_139 : decode cL_law 139 = .ok (.aload_n 0, 1) := by decide +kernel
theorem dL_law_140 : decode cL_law 140 = .ok (.iload_n 3, 1) := by decide +kernel
theorem dL_law_141 : decode cL_law 141 = .ok (.iconst 3, 1) := by decide +kernel
theorem dL_law_142 : decode cL_law 142 = .ok (.iadd, 1) := by decide +kernel
theorem dL_law_143 : decode cL_law 143 = .ok (.iaload, 1) := by decide +kernel
theorem dL_law_144 : decode cL_law 144 = .ok (.aload_n 0, 1) := by decide +kernel
theorem dL_law_145 : decode cL_law 145 = .ok (.iload_n 3, 1) := by decide +kernel
theorem dL_law_146 : decode cL_law 146 = .ok (.iconst 4, 1) := by decide +kernel
theorem dL_law_147 : decode cL_law 147 = .ok (.iadd, 1) := by decide +kernel
theorem dL_law_148 : decode cL_law 148 = .ok (.iaload, 1) := by decide +kernel
theorem dL_law_149 : decode cL_law 149 = .ok (.invokevirtual 13, 3) := by decide +kernel
theorem dL_law_152 : decode cL_law 152 = .ok (.aload_n 2, 1) := by decide +kernel
theorem dL_law_153 : decode cL_law 153 = .ok (.aload_n 0, 1) := by decide +kernel
theorem dL_law_154 : decode cL_law 154 = .ok (.iload_n 3, 1) := by decide +kernel
theorem dL_law_155 : decode cL_law 155 = .ok (.iconst 1, 1) := by decide +kernel
theorem dL_law_156 : decode cL_law 156 = .ok (.iadd, 1) := by decide +kernel
theorem dL_law_157 : decode cL_law 157 = .ok (.iaload, 1) := by decide +kernel
theorem dL_law_158 : decode cL_law 158 = .ok (.aload_n 0, 1) := by decide +kernel
theorem dL_law_159 : decode cL_law 159 = .ok (.iload_n 3, 1) := by decide +kernel
theorem dL_law_160 : decode cL_law 160 = .ok (.iconst 2, 1) := by decide +kernel
theorem dL_law_161 : decode cL_law 161 = .ok (.iadd, 1) := by decide +kernel
theorem dL_law_162 : decode cL_law 162 = .ok (.iaload, 1) := by decide +kernel
theorem dL_law_163 : decode cL_law 163 = .ok (.aload_n 0, 1) := by decide +kernel
theorem dL_law_164 : decode cL_law 164 = .ok (.iload_n 3, 1) := by decide +kernel
theorem dL_law_165 : decode cL_law 165 = .ok (.iconst 3, 1) := by decide +kernel
theorem dL_law_166 : decode cL_law 166 = .ok (.iadd, 1) := by decide +kernel
theorem dL_law_167 : decode cL_law 167 = .ok (.iaload, 1) := by decide +kernel
theorem dL_law_168 : decode cL_law 168 = .ok (.aload_n 0, 1) := by decide +kernel
theorem dL_law_169 : decode cL_law 169 = .ok (.iload_n 3, 1) := by decide +kernel
theorem dL_law_170 : decode cL_law 170 = .ok (.iconst 4, 1) := by decide +kernel
theorem dL_law_171 : decode cL_law 171 = .ok (.iadd, 1) := by decide +kernel
theorem dL_law_172 : decode cL_law 172 = .ok (.iaload, 1) := by decide +kernel
theorem dL_law_173 : decode cL_law 173 = .ok (.invokevirtual 17, 3) := by decide +kernel
theorem dL_law_176 : decode cL_law 176 = .ok (.if_icmp .eq 492, 3) := by decide +kernel
theorem dL_law_179 : decode cL_law 179 = .ok (.iconst 0, 1) := by decide +kernel
theorem dL_law_180 : decode cL_law 180 = .ok (.ireturn, 1) := by decide +kernel
theorem dL_law_181 : decode cL_law 181 = .ok (.aload_n 1, 1) := by decide +kernel
theorem dL_law_182 : decode cL_law 182 = .ok (.aload_n 0, 1) := by decide +kernel
theorem dL_law_183 : decode cL_law 183 = .ok (.iload_n 3, 1) := by decide +kernel
theorem dL_law_184 : decode cL_law 184 = .ok (.iconst 1, 1) := by decide +kernel
theorem dL_law_185 : decode cL_law 185 = .ok (.iadd, 1) := by decide +kernel
theorem dL_law_186 : decode cL_law 186 = .ok (.iaload, 1) := by decide +kernel
theorem dL_law_187 : decode cL_law 187 = .ok (.aload_n 0, 1) := by decide +kernel
theorem dL_law_188 : decode cL_law 188 = .ok (.iload_n 3, 1) := by decide +kernel
theorem dL_law_189 : decode cL_law 189 = .ok (.iconst 2, 1) := by decide +kernel
theorem dL_law_190 : decode cL_law 190 = .ok (.iadd, 1) := by decide +kernel
theorem dL_law_191 : decode cL_law 191 = .ok (.iaload, 1) := by decide +kernel
theorem dL_law_192 : decode cL_law 192 = .ok (.invokevirtual 18, 3) := by decide +kernel
theorem dL_law_195 : decode cL_law 195 = .ok (.aload_n 2, 1) := by decide +kernel
theorem dL_law_196 : decode cL_law 196 = .ok (.aload_n 0, 1) := by decide +kernel
theorem dL_law_197 : decode cL_law 197 = .ok (.iload_n 3, 1) := by decide +kernel
theorem dL_law_198 : decode cL_law 198 = .ok (.iconst 1, 1) := by decide +kernel
theorem dL_law_199 : decode cL_law 199 = .ok (.iadd, 1) := by decide +kernel
theorem dL_law_200 : decode cL_law 200 = .ok (.iaload, 1) := by decide +kernel
theorem dL_law_201 : decode cL_law 201 = .ok (.aload_n 0, 1) := by decide +kernel
theorem dL_law_202 : decode cL_law 202 = .ok (.iload_n 3, 1) := by decide +kernel
theorem dL_law_203 : decode cL_law 203 = .ok (.iconst 2, 1) := by decide +kernel
theorem dL_law_204 : decode cL_law 204 = .ok (.iadd, 1) := by decide +kernel
theorem dL_law_205 : decode cL_law 205 = .ok (.iaload, 1) := by decide +kernel
theorem dL_law_206 : decode cL_law 206 = .ok (.invokevirtual 22, 3) := by decide +kernel
theorem dL_law_209 : decode cL_law 209 = .ok (.if_icmp .eq 459, 3) := by decide +kernel
theorem dL_law_212 : decode cL_law 212 = .ok (.iconst 0, 1) := by decide +kernel
theorem dL_law_213 : decode cL_law 213 = .ok (.ireturn, 1) := by decide +kernel
theorem dL_law_214 : decode cL_law 214 = .ok (.aload_n 1, 1) := by decide +kernel
theorem dL_law_215 : decode cL_law 215 = .ok (.aload_n 0, 1) := by decide +kernel
theorem dL_law_216 : decode cL_law 216 = .ok (.iload_n 3, 1) := by decide +kernel
theorem dL_law_217 : decode cL_law 217 = .ok (.iconst 1, 1) := by decide +kernel
theorem dL_law_218 : decode cL_law 218 = .ok (.iadd, 1) := by decide +kernel
theorem dL_law_219 : decode cL_law 219 = .ok (.iaload, 1) := by decide +kernel
theorem dL_law_220 : decode cL_law 220 = .ok (.aload_n 0, 1) := by decide +kernel
theorem dL_law_221 : decode cL_law 221 = .ok (.iload_n 3, 1) := by decide +kernel
theorem dL_law_222 : decode cL_law 222 = .ok (.iconst 2, 1) := by decide +kernel
theorem dL_law_223 : decode cL_law 223 = .ok (.iadd, 1) := by decide +kernel
theorem dL_law_224 : decode cL_law 224 = .ok (.iaload, 1) := by decide +kernel
theorem dL_law_225 : decode cL_law 225 = .ok (.invokevirtual 23, 3) := by decide +kernel
theorem dL_law_228 : decode cL_law 228 = .ok (.aload_n 2, 1) := by decide +kernel
theorem dL_law_229 : decode cL_law 229 = .ok (.aload_n 0, 1) := by decide +kernel
theorem dL_law_230 : decode cL_law 230 = .ok (.iload_n 3, 1) := by decide +kernel
theorem dL_law_231 : decode cL_law 231 = .ok (.iconst 1, 1) := by decide +kernel
theorem dL_law_232 : decode cL_law 232 = .ok (.iadd, 1) := by decide +kernel
theorem dL_law_233 : decode cL_law 233 = .ok (.iaload, 1) := by decide +kernel
theorem dL_law_234 : decode cL_law 234 = .ok (.aload_n 0, 1) := by decide +kernel
theorem dL_law_235 : decode cL_law 235 = .ok (.iload_n 3, 1) := by decide +kernel
theorem dL_law_236 : decode cL_law 236 = .ok (.iconst 2, 1) := by decide +kernel
theorem dL_law_237 : decode cL_law 237 = .ok (.iadd, 1) := by decide +kernel
theorem dL_law_238 : decode cL_law 238 = .ok (.iaload, 1) := by decide +kernel
theorem dL_law_239 : decode cL_law 239 = .ok (.invokevirtual 26, 3) := by decide +kernel
theorem dL_law_242 : decode cL_law 242 = .ok (.if_icmp .eq 426, 3) := by decide +kernel
theorem dL_law_245 : decode cL_law 245 = .ok (.iconst 0, 1) := by decide +kernel
theorem dL_law_246 : decode cL_law 246 = .ok (.ireturn, 1) := by decide +kernel
theorem dL_law_247 : decode cL_law 247 = .ok (.aload_n 1, 1) := by decide +kernel
theorem dL_law_248 : decode cL_law 248 = .ok (.aload_n 0, 1) := by decide +kernel
theorem dL_law_249 : decode cL_law 249 = .ok (.iload_n 3, 1) := by decide +kernel
theorem dL_law_250 : decode cL_law 250 = .ok (.iconst 1, 1) := by decide +kernel
theorem dL_law_251 : decode cL_law 251 = .ok (.iadd, 1) := by decide +kernel
theorem dL_law_252 : decode cL_law 252 = .ok (.iaload, 1) := by decide +kernel
theorem dL_law_253 : decode cL_law 253 = .ok (.invokevirtual 27, 3) := by decide +kernel
theorem dL_law_256 : decode cL_law 256 = .ok (.aload_n 2, 1) := by decide +kernel
theorem dL_law_257 : decode cL_law 257 = .ok (.aload_n 0, 1) := by decide +kernel
theorem dL_law_258 : decode cL_law 258 = .ok (.iload_n 3, 1) := by decide +kernel
theorem dL_law_259 : decode cL_law 259 = .ok (.iconst 1, 1) := by decide +kernel
theorem dL_law_260 : decode cL_law 260 = .ok (.iadd, 1) := by decide +kernel
theorem dL_law_261 : decode cL_law 261 = .ok (.iaload, 1) := by decide +kernel
theorem dL_law_262 : decode cL_law 262 = .ok (.invokevirtual 31, 3) := by decide +kernel
theorem dL_law_265 : decode cL_law 265 = .ok (.if_icmp .eq 403, 3) := by decide +kernel
theorem dL_law_268 : decode cL_law 268 = .ok (.iconst 0, 1) := by decide +kernel
theorem dL_law_269 : decode cL_law 269 = .ok (.ireturn, 1) := by decide +kernel
theorem dL_law_270 : decode cL_law 270 = .ok (.aload_n 1, 1) := by decide +kernel
theorem dL_law_271 : decode cL_law 271 = .ok (.aload_n 0, 1) := by decide +kernel
theorem dL_law_272 : decode cL_law 272 = .ok (.iload_n 3, 1) := by decide +kernel
theorem dL_law_273 : decode cL_law 273 = .ok (.iconst 1, 1) := by decide +kernel
theorem dL_law_274 : decode cL_law 274 = .ok (.iadd, 1) := by decide +kernel
theorem dL_law_275 : decode cL_law 275 = .ok (.iaload, 1) := by decide +kernel
theorem dL_law_276 : decode cL_law 276 = .ok (.invokevirtual 32, 3) := by decide +kernel
theorem dL_law_279 : decode cL_law 279 = .ok (.aload_n 2, 1) := by decide +kernel
theorem dL_law_280 : decode cL_law 280 = .ok (.aload_n 0, 1) := by decide +kernel
theorem dL_law_281 : decode cL_law 281 = .ok (.iload_n 3, 1) := by decide +kernel
theorem dL_law_282 : decode cL_law 282 = .ok (.iconst 1, 1) := by decide +kernel
theorem dL_law_283 : decode cL_law 283 = .ok (.iadd, 1) := by decide +kernel
theorem dL_law_284 : decode cL_law 284 = .ok (.iaload, 1) := by decide +kernel
theorem dL_law_285 : decode cL_law 285 = .ok (.invokevirtual 35, 3) := by decide +kernel
theorem dL_law_288 : decode cL_law 288 = .ok (.if_icmp .eq 380, 3) := by decide +kernel
theorem dL_law_291 : decode cL_law 291 = .ok (.iconst 0, 1) := by decide +kernel
theorem dL_law_292 : decode cL_law 292 = .ok (.ireturn, 1) := by decide +kernel
theorem dL_law_293 : decode cL_law 293 = .ok (.aload_n 1, 1) := by decide +kernel
theorem dL_law_294 : decode cL_law 294 = .ok (.aload_n 0, 1) := by decide +kernel
theorem dL_law_295 : decode cL_law 295 = .ok (.iload_n 3, 1) := by decide +kernel
theorem dL_law_296 : decode cL_law 296 = .ok (.iconst 1, 1) := by decide +kernel
theorem dL_law_297 : decode cL_law 297 = .ok (.iadd, 1) := by decide +kernel
theorem dL_law_298 : decode cL_law 298 = .ok (.iaload, 1) := by decide +kernel
theorem dL_law_299 : decode cL_law 299 = .ok (.aload_n 0, 1) := by decide +kernel
theorem dL_law_300 : decode cL_law 300 = .ok (.iload_n 3, 1) := by decide +kernel
theorem dL_law_301 : decode cL_law 301 = .ok (.iconst 2, 1) := by decide +kernel
theorem dL_law_302 : decode cL_law 302 = .ok (.iadd, 1) := by decide +kernel
theorem dL_law_303 : decode cL_law 303 = .ok (.iaload, 1) := by decide +kernel
theorem dL_law_304 : decode cL_law 304 = .ok (.invokevirtual 36, 3) := by decide +kernel
theorem dL_law_307 : decode cL_law 307 = .ok (.aload_n 2, 1) := by decide +kernel
theorem dL_law_308 : decode cL_law 308 = .ok (.aload_n 0, 1) := by decide +kernel
theorem dL_law_309 : decode cL_law 309 = .ok (.iload_n 3, 1) := by decide +kernel
theorem dL_law_310 : decode cL_law 310 = .ok (.iconst 1, 1) := by decide +kernel
theorem dL_law_311 : decode cL_law 311 = .ok (.iadd, 1) := by decide +kernel
theorem dL_law_312 : decode cL_law 312 = .ok (.iaload, 1) := by decide +kernel
theorem dL_law_313 : decode cL_law 313 = .ok (.aload_n 0, 1) := by decide +kernel
theorem dL_law_314 : decode cL_law 314 = .ok (.iload_n 3, 1) := by decide +kernel
theorem dL_law_315 : decode cL_law 315 = .ok (.iconst 2, 1) := by decide +kernel
theorem dL_law_316 : decode cL_law 316 = .ok (.iadd, 1) := by decide +kernel
theorem dL_law_317 : decode cL_law 317 = .ok (.iaload, 1) := by decide +kernel
theorem dL_law_318 : decode cL_law 318 = .ok (.invokevirtual 39, 3) := by decide +kernel
theorem dL_law_321 : decode cL_law 321 = .ok (.if_icmp .eq 347, 3) := by decide +kernel
theorem dL_law_324 : decode cL_law 324 = .ok (.iconst 0, 1) := by decide +kernel
theorem dL_law_325 : decode cL_law 325 = .ok (.ireturn, 1) := by decide +kernel
theorem dL_law_326 : decode cL_law 326 = .ok (.aload_n 1, 1) := by decide +kernel
theorem dL_law_327 : decode cL_law 327 = .ok (.aload_n 0, 1) := by decide +kernel
theorem dL_law_328 : decode cL_law 328 = .ok (.iload_n 3, 1) := by decide +kernel
theorem dL_law_329 : decode cL_law 329 = .ok (.iconst 1, 1) := by decide +kernel
theorem dL_law_330 : decode cL_law 330 = .ok (.iadd, 1) := by decide +kernel
theorem dL_law_331 : decode cL_law 331 = .ok (.iaload, 1) := by decide +kernel
theorem dL_law_332 : decode cL_law 332 = .ok (.aload_n 0, 1) := by decide +kernel
theorem dL_law_333 : decode cL_law 333 = .ok (.iload_n 3, 1) := by decide +kernel
theorem dL_law_334 : decode cL_law 334 = .ok (.iconst 2, 1) := by decide +kernel
theorem dL_law_335 : decode cL_law 335 = .ok (.iadd, 1) := by decide +kernel
theorem dL_law_336 : decode cL_law 336 = .ok (.iaload, 1) := by decide +kernel
theorem dL_law_337 : decode cL_law 337 = .ok (.invokevirtual 40, 3) := by decide +kernel
theorem dL_law_340 : decode cL_law 340 = .ok (.aload_n 2, 1) := by decide +kernel
theorem dL_law_341 : decode cL_law 341 = .ok (.aload_n 0, 1) := by decide +kernel
theorem dL_law_342 : decode cL_law 342 = .ok (.iload_n 3, 1) := by decide +kernel
theorem dL_law_343 : decode cL_law 343 = .ok (.iconst 1, 1) := by decide +kernel
theorem dL_law_344 : decode cL_law 344 = .ok (.iadd, 1) := by decide +kernel
theorem dL_law_345 : decode cL_law 345 = .ok (.iaload, 1) := by decide +kernel
theorem dL_law_346 : decode cL_law 346 = .ok (.aload_n 0, 1) := by decide +kernel
theorem dL_law_347 : decode cL_law 347 = .ok (.iload_n 3, 1) := by decide +kernel
theorem dL_law_348 : decode cL_law 348 = .ok (.iconst 2, 1) := by decide +kernel
theorem dL_law_349 : decode cL_law 349 = .ok (.iadd, 1) := by decide +kernel
theorem dL_law_350 : decode cL_law 350 = .ok (.iaload, 1) := by decide +kernel
theorem dL_law_351 : decode cL_law 351 = .ok (.invokevirtual 43, 3) := by decide +kernel
theorem dL_law_354 : decode cL_law 354 = .ok (.if_icmp .eq 314, 3) := by decide +kernel
theorem dL_law_357 : decode cL_law 357 = .ok (.iconst 0, 1) := by decide +kernel
theorem dL_law_358 : decode cL_law 358 = .ok (.ireturn, 1) := by decide +kernel
theorem dL_law_359 : decode cL_law 359 = .ok (.aload_n 1, 1) := by decide +kernel
theorem dL_law_360 : decode cL_law 360 = .ok (.aload_n 0, 1) := by decide +kernel
theorem dL_law_361 : decode cL_law 361 = .ok (.iload_n 3, 1) := by decide +kernel
theorem dL_law_362 : decode cL_law 362 = .ok (.iconst 1, 1) := by decide +kernel
theorem dL_law_363 : decode cL_law 363 = .ok (.iadd, 1) := by decide +kernel
theorem dL_law_364 : decode cL_law 364 = .ok (.iaload, 1) := by decide +kernel
theorem dL_law_365 : decode cL_law 365 = .ok (.aload_n 0, 1) := by decide +kernel
theorem dL_law_366 : decode cL_law 366 = .ok (.iload_n 3, 1) := by decide +kernel
theorem dL_law_367 : decode cL_law 367 = .ok (.iconst 2, 1) := by decide +kernel
theorem dL_law_368 : decode cL_law 368 = .ok (.iadd, 1) := by decide +kernel
theorem dL_law_369 : decode cL_law 369 = .ok (.iaload, 1) := by decide +kernel
theorem dL_law_370 : decode cL_law 370 = .ok (.invokevirtual 44, 3) := by decide +kernel
theorem dL_law_373 : decode cL_law 373 = .ok (.aload_n 2, 1) := by decide +kernel
theorem dL_law_374 : decode cL_law 374 = .ok (.aload_n 0, 1) := by decide +kernel
theorem dL_law_375 : decode cL_law 375 = .ok (.iload_n 3, 1) := by decide +kernel
theorem dL_law_376 : decode cL_law 376 = .ok (.iconst 1, 1) := by decide +kernel
theorem dL_law_377 : decode cL_law 377 = .ok (.iadd, 1) := by decide +kernel
theorem dL_law_378 : decode cL_law 378 = .ok (.iaload, 1) := by decide +kernel
theorem dL_law_379 : decode cL_law 379 = .ok (.aload_n 0, 1) := by decide +kernel
theorem dL_law_380 : decode cL_law 380 = .ok (.iload_n 3, 1) := by decide +kernel
theorem dL_law_381 : decode cL_law 381 = .ok (.iconst 2, 1) := by decide +kernel
theorem dL_law_382 : decode cL_law 382 = .ok (.iadd, 1) := by decide +kernel
theorem dL_law_383 : decode cL_law 383 = .ok (.iaload, 1) := by decide +kernel
theorem dL_law_384 : decode cL_law 384 = .ok (.invokevirtual 47, 3) := by decide +kernel
theorem dL_law_387 : decode cL_law 387 = .ok (.if_icmp .eq 281, 3) := by decide +kernel
theorem dL_law_390 : decode cL_law 390 = .ok (.iconst 0, 1) := by decide +kernel
theorem dL_law_391 : decode cL_law 391 = .ok (.ireturn, 1) := by decide +kernel
theorem dL_law_392 : decode cL_law 392 = .ok (.aload_n 1, 1) := by decide +kernel
theorem dL_law_393 : decode cL_law 393 = .ok (.aload_n 0, 1) := by decide +kernel
theorem dL_law_394 : decode cL_law 394 = .ok (.iload_n 3, 1) := by decide +kernel
theorem dL_law_395 : decode cL_law 395 = .ok (.iconst 1, 1) := by decide +kernel
theorem dL_law_396 : decode cL_law 396 = .ok (.iadd, 1) := by decide +kernel
theorem dL_law_397 : decode cL_law 397 = .ok (.iaload, 1) := by decide +kernel
theorem dL_law_398 : decode cL_law 398 = .ok (.invokevirtual 48, 3) := by decide +kernel
theorem dL_law_401 : decode cL_law 401 = .ok (.aload_n 2, 1) := by decide +kernel
theorem dL_law_402 : decode cL_law 402 = .ok (.aload_n 0, 1) := by decide +kernel
theorem dL_law_403 : decode cL_law 403 = .ok (.iload_n 3, 1) := by decide +kernel
theorem dL_law_404 : decode cL_law 404 = .ok (.iconst 1, 1) := by decide +kernel
theorem dL_law_405 : decode cL_law 405 = .ok (.iadd, 1) := by decide +kernel
theorem dL_law_406 : decode cL_law 406 = .ok (.iaload, 1) := by decide +kernel
theorem dL_law_407 : decode cL_law 407 = .ok (.invokevirtual 51, 3) := by decide +kernel
theorem dL_law_410 : decode cL_law 410 = .ok (.if_icmp .eq 258, 3) := by decide +kernel
theorem dL_law_413 : decode cL_law 413 = .ok (.iconst 0, 1) := by decide +kernel
theorem dL_law_414 : decode cL_law 414 = .ok (.ireturn, 1) := by decide +kernel
theorem dL_law_415 : decode cL_law 415 = .ok (.aload_n 1, 1) := by decide +kernel
theorem dL_law_416 : decode cL_law 416 = .ok (.invokevirtual 52, 3) := by decide +kernel
theorem dL_law_419 : decode cL_law 419 = .ok (.aload_n 2, 1) := by decide +kernel
theorem dL_law_420 : decode cL_law 420 = .ok (.invokevirtual 56, 3) := by decide +kernel
theorem dL_law_423 : decode cL_law 423 = .ok (.if_icmp .eq 245, 3) := by decide +kernel
theorem dL_law_426 : decode cL_law 426 = .ok (.iconst 0, 1) := by decide +kernel
theorem dL_law_427 : decode cL_law 427 = .ok (.ireturn, 1) := by decide +kernel
theorem dL_law_428 : decode cL_law 428 = .ok (.aload_n 1, 1) := by decide +kernel
theorem dL_law_429 : decode cL_law 429 = .ok (.aload_n 0, 1) := by decide +kernel
theorem dL_law_430 : decode cL_law 430 = .ok (.iload_n 3, 1) := by decide +kernel
theorem dL_law_431 : decode cL_law 431 = .ok (.iconst 1, 1) := by decide +kernel
theorem dL_law_432 : decode cL_law 432 = .ok (.iadd, 1) := by decide +kernel
theorem dL_law_433 : decode cL_law 433 = .ok (.iaload, 1) := by decide +kernel
theorem dL_law_434 : decode cL_law 434 = .ok (.invokevirtual 57, 3) := by decide +kernel
theorem dL_law_437 : decode cL_law 437 = .ok (.aload_n 2, 1) := by decide +kernel
theorem dL_law_438 : decode cL_law 438 = .ok (.aload_n 0, 1) := by decide +kernel
theorem dL_law_439 : decode cL_law 439 = .ok (.iload_n 3, 1) := by decide +kernel
theorem dL_law_440 : decode cL_law 440 = .ok (.iconst 1, 1) := by decide +kernel
theorem dL_law_441 : decode cL_law 441 = .ok (.iadd, 1) := by decide +kernel
theorem dL_law_442 : decode cL_law 442 = .ok (.iaload, 1) := by decide +kernel
theorem dL_law_443 : decode cL_law 443 = .ok (.invokevirtual 60, 3) := by decide +kernel
theorem dL_law_446 : decode cL_law 446 = .ok (.if_icmp .eq 222, 3) := by decide +kernel
theorem dL_law_449 : decode cL_law 449 = .ok (.iconst 0, 1) := by decide +kernel
theorem dL_law_450 : decode cL_law 450 = .ok (.ireturn, 1) := by decide +kernel
theorem dL_law_451 : decode cL_law 451 = .ok (.aload_n 1, 1) := by decide +kernel
theorem dL_law_452 : decode cL_law 452 = .ok (.aload_n 0, 1) := by decide +kernel
theorem dL_law_453 : decode cL_law 453 = .ok (.iload_n 3, 1) := by decide +kernel
theorem dL_law_454 : decode cL_law 454 = .ok (.iconst 1, 1) := by decide +kernel
theorem dL_law_455 : decode cL_law 455 = .ok (.iadd, 1) := by decide +kernel
theorem dL_law_456 : decode cL_law 456 = .ok (.iaload, 1) := by decide +kernel
theorem dL_law_457 : decode cL_law 457 = .ok (.aload_n 0, 1) := by decide +kernel
theorem dL_law_458 : decode cL_law 458 = .ok (.iload_n 3, 1) := by decide +kernel
theorem dL_law_459 : decode cL_law 459 = .ok (.iconst 2, 1) := by decide +kernel
theorem dL_law_460 : decode cL_law 460 = .ok (.iadd, 1) := by decide +kernel
theorem dL_law_461 : decode cL_law 461 = .ok (.iaload, 1) := by decide +kernel
theorem dL_law_462 : decode cL_law 462 = .ok (.aload_n 0, 1) := by decide +kernel
theorem dL_law_463 : decode cL_law 463 = .ok (.iload_n 3, 1) := by decide +kernel
theorem dL_law_464 : decode cL_law 464 = .ok (.iconst 3, 1) := by decide +kernel
theorem dL_law_465 : decode cL_law 465 = .ok (.iadd, 1) := by decide +kernel
theorem dL_law_466 : decode cL_law 466 = .ok (.iaload, 1) := by decide +kernel
theorem dL_law_467 : decode cL_law 467 = .ok (.invokevirtual 61, 3) := by decide +kernel
theorem dL_law_470 : decode cL_law 470 = .ok (.aload_n 2, 1) := by decide +kernel
theorem dL_law_471 : decode cL_law 471 = .ok (.aload_n 0, 1) := by decide +kernel
theorem dL_law_472 : decode cL_law 472 = .ok (.iload_n 3, 1) := by decide +kernel
theorem dL_law_473 : decode cL_law 473 = .ok (.iconst 1, 1) := by decide +kernel
theorem dL_law_474 : decode cL_law 474 = .ok (.iadd, 1) := by decide +kernel
theorem dL_law_475 : decode cL_law 475 = .ok (.iaload, 1) := by decide +kernel
theorem dL_law_476 : decode cL_law 476 = .ok (.aload_n 0, 1) := by decide +kernel
theorem dL_law_477 : decode cL_law 477 = .ok (.iload_n 3, 1) := by decide +kernel
theorem dL_law_478 : decode cL_law 478 = .ok (.iconst 2, 1) := by decide +kernel
theorem dL_law_479 : decode cL_law 479 = .ok (.iadd, 1) := by decide +kernel
theorem dL_law_480 : decode cL_law 480 = .ok (.iaload, 1) := by decide +kernel
theorem dL_law_481 : decode cL_law 481 = .ok (.aload_n 0, 1) := by decide +kernel
theorem dL_law_482 : decode cL_law 482 = .ok (.iload_n 3, 1) := by decide +kernel
theorem dL_law_483 : decode cL_law 483 = .ok (.iconst 3, 1) := by decide +kernel
theorem dL_law_484 : decode cL_law 484 = .ok (.iadd, 1) := by decide +kernel
theorem dL_law_485 : decode cL_law 485 = .ok (.iaload, 1) := by decide +kernel
theorem dL_law_486 : decode cL_law 486 = .ok (.invokevirtual 65, 3) := by decide +kernel
theorem dL_law_489 : decode cL_law 489 = .ok (.if_icmp .eq 179, 3) := by decide +kernel
theorem dL_law_492 : decode cL_law 492 = .ok (.iconst 0, 1) := by decide +kernel
theorem dL_law_493 : decode cL_law 493 = .ok (.ireturn, 1) := by decide +kernel
theorem dL_law_494 : decode cL_law 494 = .ok (.aload_n 1, 1) := by decide +kernel
theorem dL_law_495 : decode cL_law 495 = .ok (.aload_n 0, 1) := by decide +kernel
theorem dL_law_496 : decode cL_law 496 = .ok (.iload_n 3, 1) := by decide +kernel
theorem dL_law_497 : decode cL_law 497 = .ok (.iconst 1, 1) := by decide +kernel
theorem dL_law_498 : decode cL_law 498 = .ok (.iadd, 1) := by decide +kernel
theorem dL_law_499 : decode cL_law 499 = .ok (.iaload, 1) := by decide +kernel
theorem dL_law_500 : decode cL_law 500 = .ok (.invokevirtual 66, 3) := by decide +kernel
theorem dL_law_503 : decode cL_law 503 = .ok (.aload_n 2, 1) := by decide +kernel
theorem dL_law_504 : decode cL_law 504 = .ok (.aload_n 0, 1) := by decide +kernel
theorem dL_law_505 : decode cL_law 505 = .ok (.iload_n 3, 1) := by decide +kernel
theorem dL_law_506 : decode cL_law 506 = .ok (.iconst 1, 1) := by decide +kernel
theorem dL_law_507 : decode cL_law 507 = .ok (.iadd, 1) := by decide +kernel
theorem dL_law_508 : decode cL_law 508 = .ok (.iaload, 1) := by decide +kernel
theorem dL_law_509 : decode cL_law 509 = .ok (.invokevirtual 69, 3) := by decide +kernel
theorem dL_law_512 : decode cL_law 512 = .ok (.if_icmp .eq 156, 3) := by decide +kernel
theorem dL_law_515 : decode cL_law 515 = .ok (.iconst 0, 1) := by decide +kernel
theorem dL_law_516 : decode cL_law 516 = .ok (.ireturn, 1) := by decide +kernel
theorem dL_law_517 : decode cL_law 517 = .ok (.aload_n 1, 1) := by decide +kernel
theorem dL_law_518 : decode cL_law 518 = .ok (.aload_n 0, 1) := by decide +kernel
theorem dL_law_519 : decode cL_law 519 = .ok (.iload_n 3, 1) := by decide +kernel
theorem dL_law_520 : decode cL_law 520 = .ok (.iconst 1, 1) := by decide +kernel
theorem dL_law_521 : decode cL_law 521 = .ok (.iadd, 1) := by decide +kernel
theorem dL_law_522 : decode cL_law 522 = .ok (.iaload, 1) := by decide +kernel
theorem dL_law_523 : decode cL_law 523 = .ok (.i2l, 1) := by decide +kernel
theorem dL_law_524 : decode cL_law 524 = .ok (.bipush 32, 2) := by decide +kernel
theorem dL_law_526 : decode cL_law 526 = .ok (.lshl, 1) := by decide +kernel
theorem dL_law_527 : decode cL_law 527 = .ok (.aload_n 0, 1) := by decide +kernel
theorem dL_law_528 : decode cL_law 528 = .ok (.iload_n 3, 1) := by decide +kernel
theorem dL_law_529 : decode cL_law 529 = .ok (.iconst 2, 1) := by decide +kernel
theorem dL_law_530 : decode cL_law 530 = .ok (.iadd, 1) := by decide +kernel
theorem dL_law_531 : decode cL_law 531 = .ok (.iaload, 1) := by decide +kernel
theorem dL_law_532 : decode cL_law 532 = .ok (.i2l, 1) := by decide +kernel
theorem dL_law_533 : decode cL_law 533 = .ok (.ldc2_w 70, 3) := by decide +kernel
theorem dL_law_536 : decode cL_law 536 = .ok (.land, 1) := by decide +kernel
theorem dL_law_537 : decode cL_law 537 = .ok (.lor, 1) := by decide +kernel
theorem dL_law_538 : decode cL_law 538 = .ok (.invokevirtual 72, 3) := by decide +kernel
theorem dL_law_541 : decode cL_law 541 = .ok (.aload_n 2, 1) := by decide +kernel
theorem dL_law_542 : decode cL_law 542 = .ok (.aload_n 0, 1) := by decide +kernel
theorem dL_law_543 : decode cL_law 543 = .ok (.iload_n 3, 1) := by decide +kernel
theorem dL_law_544 : decode cL_law 544 = .ok (.iconst 1, 1) := by decide +kernel
theorem dL_law_545 : decode cL_law 545 = .ok (.iadd, 1) := by decide +kernel
theorem dL_law_546 : decode cL_law 546 = .ok (.iaload, 1) := by decide +kernel
theorem dL_law_547 : decode cL_law 547 = .ok (.i2l, 1) := by decide +kernel
theorem dL_law_548 : decode cL_law 548 = .ok (.bipush 32, 2) := by decide +kernel
theorem dL_law_550 : decode cL_law 550 = .ok (.lshl, 1) := by decide +kernel
theorem dL_law_551 : decode cL_law 551 = .ok (.aload_n 0, 1) := by decide +kernel
theorem dL_law_552 : decode cL_law 552 = .ok (.iload_n 3, 1) := by decide +kernel
theorem dL_law_553 : decode cL_law 553 = .ok (.iconst 2, 1) := by decide +kernel
theorem dL_law_554 : decode cL_law 554 = .ok (.iadd, 1) := by decide +kernel
theorem dL_law_555 : decode cL_law 555 = .ok (.iaload, 1) := by decide +kernel
theorem dL_law_556 : decode cL_law 556 = .ok (.i2l, 1) := by decide +kernel
theorem dL_law_557 : decode cL_law 557 = .ok (.ldc2_w 70, 3) := by decide +kernel
theorem dL_law_560 : decode cL_law 560 = .ok (.land, 1) := by decide +kernel
theorem dL_law_561 : decode cL_law 561 = .ok (.lor, 1) := by decide +kernel
theorem dL_law_562 : decode cL_law 562 = .ok (.invokevirtual 76, 3) := by decide +kernel
theorem dL_law_565 : decode cL_law 565 = .ok (.if_icmp .eq 103, 3) := by decide +kernel
theorem dL_law_568 : decode cL_law 568 = .ok (.iconst 0, 1) := by decide +kernel
theorem dL_law_569 : decode cL_law 569 = .ok (.ireturn, 1) := by decide +kernel
theorem dL_law_570 : decode cL_law 570 = .ok (.aload_n 1, 1) := by decide +kernel
theorem dL_law_571 : decode cL_law 571 = .ok (.invokevirtual 77, 3) := by decide +kernel
theorem dL_law_574 : decode cL_law 574 = .ok (.aload_n 2, 1) := by decide +kernel
theorem dL_law_575 : decode cL_law 575 = .ok (.invokevirtual 80, 3) := by decide +kernel
theorem dL_law_578 : decode cL_law 578 = .ok (.if_icmp .eq 90, 3) := by decide +kernel
theorem dL_law_581 : decode cL_law 581 = .ok (.iconst 0, 1) := by decide +kernel
theorem dL_law_582 : decode cL_law 582 = .ok (.ireturn, 1) := by decide +kernel
theorem dL_law_583 : decode cL_law 583 = .ok (.aload_n 1, 1) := by decide +kernel
theorem dL_law_584 : decode cL_law 584 = .ok (.invokevirtual 81, 3) := by decide +kernel
theorem dL_law_587 : decode cL_law 587 = .ok (.aload_n 2, 1) := by decide +kernel
theorem dL_law_588 : decode cL_law 588 = .ok (.invokevirtual 84, 3) := by decide +kernel
theorem dL_law_591 : decode cL_law 591 = .ok (.if_icmp .eq 77, 3) := by decide +kernel
theorem dL_law_594 : decode cL_law 594 = .ok (.iconst 0, 1) := by decide +kernel
theorem dL_law_595 : decode cL_law 595 = .ok (.ireturn, 1) := by decide +kernel
theorem dL_law_596 : decode cL_law 596 = .ok (.aload_n 1, 1) := by decide +kernel
theorem dL_law_597 : decode cL_law 597 = .ok (.invokevirtual 85, 3) := by decide +kernel
theorem dL_law_600 : decode cL_law 600 = .ok (.aload_n 2, 1) := by decide +kernel
theorem dL_law_601 : decode cL_law 601 = .ok (.invokevirtual 88, 3) := by decide +kernel
theorem dL_law_604 : decode cL_law 604 = .ok (.if_icmp .eq 64, 3) := by decide +kernel
theorem dL_law_607 : decode cL_law 607 = .ok (.iconst 0, 1) := by decide +kernel
theorem dL_law_608 : decode cL_law 608 = .ok (.ireturn, 1) := by decide +kernel
theorem dL_law_609 : decode cL_law 609 = .ok (.aload_n 1, 1) := by decide +kernel
theorem dL_law_610 : decode cL_law 610 = .ok (.invokevirtual 89, 3) := by decide +kernel
theorem dL_law_613 : decode cL_law 613 = .ok (.aload_n 2, 1) := by decide +kernel
theorem dL_law_614 : decode cL_law 614 = .ok (.invokevirtual 92, 3) := by decide +kernel
theorem dL_law_617 : decode cL_law 617 = .ok (.if_icmp .eq 51, 3) := by decide +kernel
theorem dL_law_620 : decode cL_law 620 = .ok (.iconst 0, 1) := by decide +kernel
theorem dL_law_621 : decode cL_law 621 = .ok (.ireturn, 1) := by decide +kernel
theorem dL_law_622 : decode cL_law 622 = .ok (.aload_n 1, 1) := by decide +kernel
theorem dL_law_623 : decode cL_law 623 = .ok (.aload_n 0, 1) := by decide +kernel
theorem dL_law_624 : decode cL_law 624 = .ok (.iload_n 3, 1) := by decide +kernel
theorem dL_law_625 : decode cL_law 625 = .ok (.iconst 1, 1) := by decide +kernel
theorem dL_law_626 : decode cL_law 626 = .ok (.iadd, 1) := by decide +kernel
theorem dL_law_627 : decode cL_law 627 = .ok (.iaload, 1) := by decide +kernel
theorem dL_law_628 : decode cL_law 628 = .ok (.invokevirtual 93, 3) := by decide +kernel
theorem dL_law_631 : decode cL_law 631 = .ok (.aload_n 2, 1) := by decide +kernel
theorem dL_law_632 : decode cL_law 632 = .ok (.aload_n 0, 1) := by decide +kernel
theorem dL_law_633 : decode cL_law 633 = .ok (.iload_n 3, 1) := by decide +kernel
theorem dL_law_634 : decode cL_law 634 = .ok (.iconst 1, 1) := by decide +kernel
theorem dL_law_635 : decode cL_law 635 = .ok (.iadd, 1) := by decide +kernel
theorem dL_law_636 : decode cL_law 636 = .ok (.iaload, 1) := by decide +kernel
theorem dL_law_637 : decode cL_law 637 = .ok (.invokevirtual 96, 3) := by decide +kernel
theorem dL_law_640 : decode cL_law 640 = .ok (.if_icmp .eq 28, 3) := by decide +kernel
theorem dL_law_643 : decode cL_law 643 = .ok (.iconst 0, 1) := by decide +kernel
theorem dL_law_644 : decode cL_law 644 = .ok (.ireturn, 1) := by decide +kernel
theorem dL_law_645 : decode cL_law 645 = .ok (.aload_n 1, 1) := by decide +kernel
theorem dL_law_646 : decode cL_law 646 = .ok (.aload_n 0, 1) := by decide +kernel
theorem dL_law_647 : decode cL_law 647 = .ok (.iload_n 3, 1) := by decide +kernel
theorem dL_law_648 : decode cL_law 648 = .ok (.iconst 1, 1) := by decide +kernel
theorem dL_law_649 : decode cL_law 649 = .ok (.iadd, 1) := by decide +kernel
theorem dL_law_650 : decode cL_law 650 = .ok (.iaload, 1) := by decide +kernel
theorem dL_law_651 : decode cL_law 651 = .ok (.invokevirtual 97, 3) := by decide +kernel
theorem dL_law_654 : decode cL_law 654 = .ok (.aload_n 2, 1) := by decide +kernel
theorem dL_law_655 : decode cL_law 655 = .ok (.aload_n 0, 1) := by decide +kernel
theorem dL_law_656 : decode cL_law 656 = .ok (.iload_n 3, 1) := by decide +kernel
theorem dL_law_657 : decode cL_law 657 = .ok (.iconst 1, 1) := by decide +kernel
theorem dL_law_658 : decode cL_law 658 = .ok (.iadd, 1) := by decide +kernel
theorem dL_law_659 : decode cL_law 659 = .ok (.iaload, 1) := by decide +kernel
theorem dL_law_660 : decode cL_law 660 = .ok (.invokevirtual 100, 3) := by decide +kernel
theorem dL_law_663 : decode cL_law 663 = .ok (.if_icmp .eq 5, 3) := by decide +kernel
theorem dL_law_666 : decode cL_law 666 = .ok (.iconst 0, 1) := by decide +kernel
theorem dL_law_667 : decode cL_law 667 = .ok (.ireturn, 1) := by decide +kernel
theorem dL_law_668 : decode cL_law 668 = .ok (.iinc 3 5, 3) := by decide +kernel
theorem dL_law_671 : decode cL_law 671 = .ok (.goto (-653), 3) := by decide +kernel
theorem dL_law_674 : decode cL_law 674 = .ok (.iconst 1, 1) := by decide +kernel
theorem dL_law_675 : decode cL_law 675 = .ok (.ireturn, 1) := by decide +kernel
