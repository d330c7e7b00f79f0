theorem dX0_init_0 : decode cX0_init 0 = .ok (.aload_n 0, 1) := by decide +kernel
theorem dX0_init_1 : decode cX0_init 1 = .ok (.invokespecial 3, 3) := by decide +kernel
theorem dX0_init_4 : decode cX0_init 4 = .ok (.aload_n 0, 1) := by decide +kernel
theorem dX0_init_5 : decode cX0_init 5 = .ok (.iconst 0, 1) := by decide +kernel
theorem dX0_init_6 : decode cX0_init 6 = .ok (.putfield 9, 3) := by decide +kernel
theorem dX0_init_9 : decode cX0_init 9 = .ok (.aload_n 0, 1) := by decide +kernel
theorem dX0_init_10 : decode cX0_init 10 = .ok (.iconst 0, 1) := by decide +kernel
theorem dX0_init_11 : decode cX0_init 11 = .ok (.putfield 15, 3) := by decide +kernel
theorem dX0_init_14 : decode cX0_init 14 = .ok (.aload_n 0, 1) := by decide +kernel
theorem dX0_init_15 : decode cX0_init 15 = .ok (.iconst 0, 1) := by decide +kernel
theorem dX0_init_16 : decode cX0_init 16 = .ok (.putfield 18, 3) := by decide +kernel
theorem dX0_init_19 : decode cX0_init 19 = .ok (.aload_n 0, 1) := by decide +kernel
theorem dX0_init_20 : decode cX0_init 20 = .ok (.bipush 30, 2) := by decide +kernel
theorem dX0_init_22 : decode cX0_init 22 = .ok (.anewarray 21, 3) := by decide +kernel
theorem dX0_init_25 : decode cX0_init 25 = .ok (.putfield 23, 3) := by decide +kernel
theorem dX0_init_28 : decode cX0_init 28 = .ok (.aload_n 0, 1) := by decide +kernel
theorem dX0_init_29 : decode cX0_init 29 = .ok (.iconst 5, 1) := by decide +kernel
theorem dX0_init_30 : decode cX0_init 30 = .ok (.anewarray 27, 3) := by decide +kernel
theorem dX0_init_33 : decode cX0_init 33 = .ok (.putfield 29, 3) := by decide +kernel
theorem dX0_init_36 : decode cX0_init 36 = .ok (.aload_n 0, 1) := by decide +kernel
theorem dX0_init_37 : decode cX0_init 37 = .ok (.bipush 8, 2) := by decide +kernel
theorem dX0_init_39 : decode cX0_init 39 = .ok (.anewarray 33, 3) := by decide +kernel
theorem dX0_init_42 : decode cX0_init 42 = .ok (.putfield 35, 3) := by decide +kernel
theorem dX0_init_45 : decode cX0_init 45 = .ok (.iconst 0, 1) := by decide +kernel
theorem dX0_init_46 : decode cX0_init 46 = .ok (.istore_n 1, 1) := by decide +kernel
theorem dX0_init_47 : decode cX0_init 47 = .ok (.iload_n 1, 1) := by decide +kernel
theorem dX0_init_48 : decode cX0_init 48 = .ok (.aload_n 0, 1) := by decide +kernel
theorem dX0_init_49 : decode cX0_init 49 = .ok (.getfield 23, 3) := by decide +kernel
theorem dX0_init_52 : decode cX0_init 52 = .ok (.arraylength, 1) := by decide +kernel
theorem dX0_init_53 : decode cX0_init 53 = .ok (.if_icmp .ge 22, 3) := by decide +kernel
theorem dX0_init_56 : decode cX0_init 56 = .ok (.aload_n 0, 1) := by decide +kernel
theorem dX0_init_57 : decode cX0_init 57 = .ok (.getfield 23, 3) := by decide +kernel
theorem dX0_init_60 : decode cX0_init 60 = .ok (.iload_n 1, 1) := by decide +kernel
theorem dX0_init_61 : decode cX0_init 61 = .ok (.new 21, 3) := by decide +kernel
theorem dX0_init_64 : decode cX0_init 64 = .ok (.dup, 1) := by decide +kernel
theorem dX0_init_65 : decode cX0_init 65 = .ok (.invokespecial 39, 3) := by decide +kernel
theorem dX0_init_68 : decode cX0_init 68 = .ok (.aastore, 1) := by decide +kernel
theorem dX0_init_69 : decode cX0_init 69 = .ok (.iinc 1 1, 3) := by decide +kernel
theorem dX0_init_72 : decode cX0_init 72 = .ok (.goto (-25), 3) := by decide +kernel
theorem dX0_init_75 : decode cX0_init 75 = .ok (.iconst 0, 1) := by decide +kernel
theorem dX0_init_76 : decode cX0_init 76 = .ok (.istore_n 1, 1) := by decide +kernel
theorem dX0_init_77 : decode cX0_init 77 = .ok (.iload_n 1, 1) := by decide +kernel
theorem dX0_init_78 : decode cX0_init 78 = .ok (.aload_n 0, 1) := by decide +kernel
theorem dX0_init_79 : decode cX0_init 79 = .ok (.getfield 29, 3) := by decide +kernel
theorem dX0_init_82 : decode cX0_init 82 = .ok (.arraylength, 1) := by decide +kernel
theorem dX0_init_83 : decode cX0_init 83 = .ok (.if_icmp .ge 22, 3) := by decide +kernel
theorem dX0_init_86 : decode cX0_init 86 = .ok (.aload_n 0, 1) := by decide +kernel
theorem dX0_init_87 : decode cX0_init 87 = .ok (.getfield 29, 3) := by decide +kernel
theorem dX0_init_90 : decode cX0_init 90 = .ok (.iload_n 1, 1) := by decide +kernel
theorem dX0_init_91 : decode cX0_init 91 = .ok (.new 27, 3) := by decide +kernel
theorem dX0_init_94 : decode cX0_init 94 = .ok (.dup, 1) := by decide +kernel
theorem dX0_init_95 : decode cX0_init 95 = .ok (.invokespecial 40, 3) := by decide +kernel
theorem dX0_init_98 : decode cX0_init 98 = .ok (.aastore, 1) := by decide +kernel
theorem dX0_init_99 : decode cX0_init 99 = .ok (.iinc 1 1, 3) := by decide +kernel
theorem dX0_init_102 : decode cX0_init 102 = .ok (.goto (-25), 3) := by decide +kernel
theorem dX0_init_105 : decode cX0_init 105 = .ok (.iconst 0, 1) := by decide +kernel
theorem dX0_init_106 : decode cX0_init 106 = .ok (.istore_n 1, 1) := by decide +kernel
theorem dX0_init_107 : decode cX0_init 107 = .ok (.iload_n 1, 1) := by decide +kernel
theorem dX0_init_108 : decode cX0_init 108 = .ok (.aload_n 0, 1) := by decide +kernel
theorem dX0_init_109 : decode cX0_init 109 = .ok (.getfield 35, 3) := by decide +kernel
theorem dX0_init_112 : decode cX0_init 112 = .ok (.arraylength, 1) := by decide +kernel
theorem dX0_init_113 : decode cX0_init 113 = .ok (.if_icmp .ge 22, 3) := by decide +kernel
theorem dX0_init_116 : decode cX0_init 116 = .ok (.aload_n 0, 1) := by decide +kernel
theorem dX0_init_117 : decode cX0_init 117 = .ok (.getfield 35, 3) := by decide +kernel
theorem dX0_init_120 : decode cX0_init 120 = .ok (.iload_n 1, 1) := by decide +kernel
theorem dX0_init_121 : decode cX0_init 121 = .ok (.new 33, 3) := by decide +kernel
theorem dX0_init_124 : decode cX0_init 124 = .ok (.dup, 1) := by decide +kernel
theorem dX0_init_125 : decode cX0_init 125 = .ok (.invokespecial 41, 3) := by decide +kernel
theorem dX0_init_128 : decode cX0_init 128 = .ok (.aastore, 1) := by decide +kernel
theorem dX0_init_129 : decode cX0_init 129 = .ok (.iinc 1 1, 3) := by decide +kernel
theorem dX0_init_132 : decode cX0_init 132 = .ok (.goto (-25), 3) := by decide +kernel
theorem dX0_init_135 : decode cX0_init 135 = .ok (.return_, 1) := by decide +kernel
theorem dX0_thingAt_0 : decode cX0_thingAt 0 = .ok (.iload_n 1, 1) := by decide +kernel
theorem dX0_thingAt_1 : decode cX0_thingAt 1 = .ok (.ifCond .lt 29, 3) := by decide +kernel
theorem dX0_thingAt_4 : decode cX0_thingAt 4 = .ok (.iload_n 1, 1) := by decide +kernel
theorem dX0_thingAt_5 : decode cX0_thingAt 5 = .ok (.aload_n 0, 1) := by decide +kernel
theorem dX0_thingAt_6 : decode cX0_thingAt 6 = .ok (.getfield 15, 3) := by decide +kernel
theorem dX0_thingAt_9 : decode cX0_thingAt 9 = .ok (.if_icmp .ge 21, 3) := by decide +kernel
theorem dX0_thingAt_12 : decode cX0_thingAt 12 = .ok (.iload_n 1, 1) := by decide +kernel
theorem dX0_thingAt_13 : decode cX0_thingAt 13 = .ok (.aload_n 0, 1) := by decide +kernel
theorem dX0_thingAt_14 : decode cX0_thingAt 14 = .ok (.getfield 23, 3) := by decide +kernel
theorem dX0_thingAt_17 : decode cX0_thingAt 17 = .ok (.arraylength, 1) := by decide +kernel
theorem dX0_thingAt_18 : decode cX0_thingAt 18 = .ok (.if_icmp .ge 12, 3) := by decide +kernel
theorem dX0_thingAt_21 : decode cX0_thingAt 21 = .ok (.aload_n 0, 1) := by decide +kernel
theorem dX0_thingAt_22 : decode cX0_thingAt 22 = .ok (.getfield 23, 3) := by decide +kernel
theorem dX0_thingAt_25 : decode cX0_thingAt 25 = .ok (.iload_n 1, 1) := by decide +kernel
theorem dX0_thingAt_26 : decode cX0_thingAt 26 = .ok (.aaload, 1) := by decide +kernel
theorem dX0_thingAt_27 : decode cX0_thingAt 27 = .ok (.goto 4, 3) := by decide +kernel
theorem dX0_thingAt_30 : decode cX0_thingAt 30 = .ok (.aconst_null, 1) := by decide +kernel
theorem dX0_thingAt_31 : decode cX0_thingAt 31 = .ok (.areturn, 1) := by decide +kernel
theorem dX0_fixerAt_0 : decode cX0_fixerAt 0 = .ok (.iload_n 1, 1) := by decide +kernel
theorem dX0_fixerAt_1 : decode cX0_fixerAt 1 = .ok (.ifCond .lt 29, 3) := by decide +kernel
theorem dX0_fixerAt_4 : decode cX0_fixerAt 4 = .ok (.iload_n 1, 1) := by decide +kernel
theorem dX0_fixerAt_5 : decode cX0_fixerAt 5 = .ok (.aload_n 0, 1) := by decide +kernel
theorem dX0_fixerAt_6 : decode cX0_fixerAt 6 = .ok (.getfield 18, 3) := by decide +kernel
theorem dX0_fixerAt_9 : decode cX0_fixerAt 9 = .ok (.if_icmp .ge 21, 3) := by decide +kernel
theorem dX0_fixerAt_12 : decode cX0_fixerAt 12 = .ok (.iload_n 1, 1) := by decide +kernel
theorem dX0_fixerAt_13 : decode cX0_fixerAt 13 = .ok (.aload_n 0, 1) := by decide +kernel
theorem dX0_fixerAt_14 : decode cX0_fixerAt 14 = .ok (.getfield 29, 3) := by decide +kernel
theorem dX0_fixerAt_17 : decode cX0_fixerAt 17 = .ok (.arraylength, 1) := by decide +kernel
theorem dX0_fixerAt_18 : decode cX0_fixerAt 18 = .ok (.if_icmp .ge 12, 3) := by decide +kernel
theorem dX0_fixerAt_21 : decode cX0_fixerAt 21 = .ok (.aload_n 0, 1) := by decide +kernel
theorem dX0_fixerAt_22 : decode cX0_fixerAt 22 = .ok (.getfield 29, 3) := by decide +kernel
theorem dX0_fixerAt_25 : decode cX0_fixerAt 25 = .ok (.iload_n 1, 1) := by decide +kernel
theorem dX0_fixerAt_26 : decode cX0_fixerAt 26 = .ok (.aaload, 1) := by decide +kernel
theorem dX0_fixerAt_27 : decode cX0_fixerAt 27 = .ok (.goto 4, 3) := by decide +kernel
theorem dX0_fixerAt_30 : decode cX0_fixerAt 30 = .ok (.aconst_null, 1) := by decide +kernel
theorem dX0_fixerAt_31 : decode cX0_fixerAt 31 = .ok (.areturn, 1) := by decide +kernel
theorem dX0_partAt_0 : decode cX0_partAt 0 = .ok (.iload_n 1, 1) := by decide +kernel
theorem dX0_partAt_1 : decode cX0_partAt 1 = .ok (.ifCond .lt 21, 3) := by decide +kernel
theorem dX0_partAt_4 : decode cX0_partAt 4 = .ok (.iload_n 1, 1) := by decide +kernel
theorem dX0_partAt_5 : decode cX0_partAt 5 = .ok (.aload_n 0, 1) := by decide +kernel
theorem dX0_partAt_6 : decode cX0_partAt 6 = .ok (.getfield 35, 3) := by decide +kernel
theorem dX0_partAt_9 : decode cX0_partAt 9 = .ok (.arraylength, 1) := by decide +kernel
theorem dX0_partAt_10 : decode cX0_partAt 10 = .ok (.if_icmp .ge 12, 3) := by decide +kernel
theorem dX0_partAt_13 : decode cX0_partAt 13 = .ok (.aload_n 0, 1) := by decide +kernel
theorem dX0_partAt_14 : decode cX0_partAt 14 = .ok (.getfield 35, 3) := by decide +kernel
theorem dX0_partAt_17 : decode cX0_partAt 17 = .ok (.iload_n 1, 1) := by decide +kernel
theorem dX0_partAt_18 : decode cX0_partAt 18 = .ok (.aaload, 1) := by decide +kernel
theorem dX0_partAt_19 : decode cX0_partAt 19 = .ok (.goto 4, 3) := by decide +kernel
theorem dX0_partAt_22 : decode cX0_partAt 22 = .ok (.aconst_null, 1) := by decide +kernel
theorem dX0_partAt_23 : decode cX0_partAt 23 = .ok (.areturn, 1) := by decide +kernel
theorem dX0_copyFrom_0 : decode cX0_copyFrom 0 = .ok (.aload_n 0, 1) := by decide +kernel
theorem dX0_copyFrom_1 : decode cX0_copyFrom 1 = .ok (.aload_n 1, 1) := by decide +kernel
theorem dX0_copyFrom_2 : decode cX0_copyFrom 2 = .ok (.getfield 9, 3) := by decide +kernel
theorem dX0_copyFrom_5 : decode cX0_copyFrom 5 = .ok (.putfield 9, 3) := by decide +kernel
theorem dX0_copyFrom_8 : decode cX0_copyFrom 8 = .ok (.aload_n 0, 1) := by decide +kernel
theorem dX0_copyFrom_9 : decode cX0_copyFrom 9 = .ok (.aload_n 1, 1) := by decide +kernel
theorem dX0_copyFrom_10 : decode cX0_copyFrom 10 = .ok (.getfield 15, 3) := by decide +kernel
theorem dX0_copyFrom_13 : decode cX0_copyFrom 13 = .ok (.putfield 15, 3) := by decide +kernel
theorem dX0_copyFrom_16 : decode cX0_copyFrom 16 = .ok (.aload_n 0, 1) := by decide +kernel
theorem dX0_copyFrom_17 : decode cX0_copyFrom 17 = .ok (.aload_n 1, 1) := by decide +kernel
theorem dX0_copyFrom_18 : decode cX0_copyFrom 18 = .ok (.getfield 18, 3) := by decide +kernel
theorem dX0_copyFrom_21 : decode cX0_copyFrom 21 = .ok (.putfield 18, 3) := by decide +kernel
theorem dX0_copyFrom_24 : decode cX0_copyFrom 24 = .ok (.iconst 0, 1) := by decide +kernel
theorem dX0_copyFrom_25 : decode cX0_copyFrom 25 = .ok (.istore_n 2, 1) := by decide +kernel
theorem dX0_copyFrom_26 : decode cX0_copyFrom 26 = .ok (.iload_n 2, 1) := by decide +kernel
theorem dX0_copyFrom_27 : decode cX0_copyFrom 27 = .ok (.bipush 30, 2) := by decide +kernel
theorem dX0_copyFrom_29 : decode cX0_copyFrom 29 = .ok (.if_icmp .ge 28, 3) := by decide +kernel
theorem dX0_copyFrom_32 : decode cX0_copyFrom 32 = .ok (.aload_n 0, 1) := by decide +kernel
theorem dX0_copyFrom_33 : decode cX0_copyFrom 33 = .ok (.iload_n 2, 1) := by decide +kernel
theorem dX0_copyFrom_34 : decode cX0_copyFrom 34 = .ok (.invokevirtual 42, 3) := by decide +kernel
theorem dX0_copyFrom_37 : decode cX0_copyFrom 37 = .ok (.astore_n 3, 1) := by decide +kernel
theorem dX0_copyFrom_38 : decode cX0_copyFrom 38 = .ok (.aload_n 3, 1) := by decide +kernel
theorem dX0_copyFrom_39 : decode cX0_copyFrom 39 = .ok (.ifnull 12, 3) := by decide +kernel
theorem dX0_copyFrom_42 : decode cX0_copyFrom 42 = .ok (.aload_n 3, 1) := by decide +kernel
theorem dX0_copyFrom_43 : decode cX0_copyFrom 43 = .ok (.aload_n 1, 1) := by decide +kernel
theorem dX0_copyFrom_44 : decode cX0_copyFrom 44 = .ok (.iload_n 2, 1) := by decide +kernel
theorem dX0_copyFrom_45 : decode cX0_copyFrom 45 = .ok (.invokevirtual 42, 3) := by decide +kernel
theorem dX0_copyFrom_48 : decode cX0_copyFrom 48 = .ok (.invokevirtual 46, 3) := by decide +kernel
theorem dX0_copyFrom_51 : decode cX0_copyFrom 51 = .ok (.iinc 2 1, 3) := by decide +kernel
theorem dX0_copyFrom_54 : decode cX0_copyFrom 54 = .ok (.goto (-28), 3) := by decide +kernel
theorem dX0_copyFrom_57 : decode cX0_copyFrom 57 = .ok (.iconst 0, 1) := by decide +kernel
theorem dX0_copyFrom_58 : decode cX0_copyFrom 58 = .ok (.istore_n 2, 1) := by decide +kernel
theorem dX0_copyFrom_59 : decode cX0_copyFrom 59 = .ok (.iload_n 2, 1) := by decide +kernel
theorem dX0_copyFrom_60 : decode cX0_copyFrom 60 = .ok (.iconst 5, 1) := by decide +kernel
theorem dX0_copyFrom_61 : decode cX0_copyFrom 61 = .ok (.if_icmp .ge 28, 3) := by decide +kernel
theorem dX0_copyFrom_64 : decode cX0_copyFrom 64 = .ok (.aload_n 0, 1) := by decide +kernel
theorem dX0_copyFrom_65 : decode cX0_copyFrom 65 = .ok (.iload_n 2, 1) := by decide +kernel
theorem dX0_copyFrom_66 : decode cX0_copyFrom 66 = .ok (.invokevirtual 50, 3) := by decide +kernel
theorem dX0_copyFrom_69 : decode cX0_copyFrom 69 = .ok (.astore_n 3, 1) := by decide +kernel
theorem dX0_copyFrom_70 : decode cX0_copyFrom 70 = .ok (.aload_n 3, 1) := by decide +kernel
theorem dX0_copyFrom_71 : decode cX0_copyFrom 71 = .ok (.ifnull 12, 3) := by decide +kernel
theorem dX0_copyFrom_74 : decode cX0_copyFrom 74 = .ok (.aload_n 3, 1) := by decide +kernel
theorem dX0_copyFrom_75 : decode cX0_copyFrom 75 = .ok (.aload_n 1, 1) := by decide +kernel
theorem dX0_copyFrom_76 : decode cX0_copyFrom 76 = .ok (.iload_n 2, 1) := by decide +kernel
theorem dX0_copyFrom_77 : decode cX0_copyFrom 77 = .ok (.invokevirtual 50, 3) := by decide +kernel
theorem dX0_copyFrom_80 : decode cX0_copyFrom 80 = .ok (.invokevirtual 54, 3) := by decide +kernel
theorem dX0_copyFrom_83 : decode cX0_copyFrom 83 = .ok (.iinc 2 1, 3) := by decide +kernel
theorem dX0_copyFrom_86 : decode cX0_copyFrom 86 = .ok (.goto (-27), 3) := by decide +kernel
theorem dX0_copyFrom_89 : decode cX0_copyFrom 89 = .ok (.iconst 0, 1) := by decide +kernel
theorem dX0_copyFrom_90 : decode cX0_copyFrom 90 = .ok (.istore_n 2, 1) := by decide +kernel
theorem dX0_copyFrom_91 : decode cX0_copyFrom 91 = .ok (.iload_n 2, 1) := by decide +kernel
theorem dX0_copyFrom_92 : decode cX0_copyFrom 92 = .ok (.bipush 8, 2) := by decide +kernel
theorem dX0_copyFrom_94 : decode cX0_copyFrom 94 = .ok (.if_icmp .ge 28, 3) := by decide +kernel
theorem dX0_copyFrom_97 : decode cX0_copyFrom 97 = .ok (.aload_n 0, 1) := by decide +kernel
theorem dX0_copyFrom_98 : decode cX0_copyFrom 98 = .ok (.iload_n 2, 1) := by decide +kernel
theorem dX0_copyFrom_99 : decode cX0_copyFrom 99 = .ok (.invokevirtual 57, 3) := by decide +kernel
theorem dX0_copyFrom_102 : decode cX0_copyFrom 102 = .ok (.astore_n 3, 1) := by decide +kernel
theorem dX0_copyFrom_103 : decode cX0_copyFrom 103 = .ok (.aload_n 3, 1) := by decide +kernel
theorem dX0_copyFrom_104 : decode cX0_copyFrom 104 = .ok (.ifnull 12, 3) := by decide +kernel
theorem dX0_copyFrom_107 : decode cX0_copyFrom 107 = .ok (.aload_n 3, 1) := by decide +kernel
theorem dX0_copyFrom_108 : decode cX0_copyFrom 108 = .ok (.aload_n 1, 1) := by decide +kernel
theorem dX0_copyFrom_109 : decode cX0_copyFrom 109 = .ok (.iload_n 2, 1) := by decide +kernel
theorem dX0_copyFrom_110 : decode cX0_copyFrom 110 = .ok (.invokevirtual 57, 3) := by decide +kernel
theorem dX0_copyFrom_113 : decode cX0_copyFrom 113 = .ok (.invokevirtual 61, 3) := by decide +kernel
theorem dX0_copyFrom_116 : decode cX0_copyFrom 116 = .ok (.iinc 2 1, 3) := by decide +kernel
theorem dX0_copyFrom_119 : decode cX0_copyFrom 119 = .ok (.goto (-28), 3) := by decide +kernel
theorem dX0_copyFrom_122 : decode cX0_copyFrom 122 = .ok (.return_, 1) := by decide +kernel
theorem dX0_addThing_0 : decode cX0_addThing 0 = .ok (.iload_n 1, 1) := by decide +kernel
theorem dX0_addThing_1 : decode cX0_addThing 1 = .ok (.ifCond .lt 9, 3) := by decide +kernel
theorem dX0_addThing_4 : decode cX0_addThing 4 = .ok (.iload_n 1, 1) := by decide +kernel
theorem dX0_addThing_5 : decode cX0_addThing 5 = .ok (.bipush 6, 2) := by decide +kernel
theorem dX0_addThing_7 : decode cX0_addThing 7 = .ok (.if_icmp .lt 5, 3) := by decide +kernel
theorem dX0_addThing_10 : decode cX0_addThing 10 = .ok (.iconst (-1), 1) := by decide +kernel
theorem dX0_addThing_11 : decode cX0_addThing 11 = .ok (.ireturn, 1) := by decide +kernel
theorem dX0_addThing_12 : decode cX0_addThing 12 = .ok (.iload_n 2, 1) := by decide +kernel
theorem dX0_addThing_13 : decode cX0_addThing 13 = .ok (.iload_n 1, 1) := by decide +kernel
theorem dX0_addThing_14 : decode cX0_addThing 14 = .ok (.invokestatic 64, 3) := by decide +kernel
theorem dX0_addThing_17 : decode cX0_addThing 17 = .ok (.iconst (-1), 1) := by decide +kernel
theorem dX0_addThing_18 : decode cX0_addThing 18 = .ok (.ixor, 1) := by decide +kernel
theorem dX0_addThing_19 : decode cX0_addThing 19 = .ok (.iand, 1) := by decide +kernel
theorem dX0_addThing_20 : decode cX0_addThing 20 = .ok (.ifCond .ne 14, 3) := by decide +kernel
theorem dX0_addThing_23 : decode cX0_addThing 23 = .ok (.iload_n 3, 1) := by decide +kernel
theorem dX0_addThing_24 : decode cX0_addThing 24 = .ok (.iconst 1, 1) := by decide +kernel
theorem dX0_addThing_25 : decode cX0_addThing 25 = .ok (.if_icmp .lt 9, 3) := by decide +kernel
theorem dX0_addThing_28 : decode cX0_addThing 28 = .ok (.iload_n 3, 1) := by decide +kernel
theorem dX0_addThing_29 : decode cX0_addThing 29 = .ok (.bipush 99, 2) := by decide +kernel
theorem dX0_addThing_31 : decode cX0_addThing 31 = .ok (.if_icmp .le 6, 3) := by decide +kernel
theorem dX0_addThing_34 : decode cX0_addThing 34 = .ok (.bipush (-2), 2) := by decide +kernel
theorem dX0_addThing_36 : decode cX0_addThing 36 = .ok (.ireturn, 1) := by decide +kernel
theorem dX0_addThing_37 : decode cX0_addThing 37 = .ok (.iload 4, 2) := by decide +kernel
theorem dX0_addThing_39 : decode cX0_addThing 39 = .ok (.ifCond .lt 10, 3) := by decide +kernel
theorem dX0_addThing_42 : decode cX0_addThing 42 = .ok (.iload 4, 2) := by decide +kernel
theorem dX0_addThing_44 : decode cX0_addThing 44 = .ok (.bipush 7, 2) := by decide +kernel
theorem dX0_addThing_46 : decode cX0_addThing 46 = .ok (.if_icmp .le 6, 3) := by decide +kernel
theorem dX0_addThing_49 : decode cX0_addThing 49 = .ok (.bipush (-2), 2) := by decide +kernel
theorem dX0_addThing_51 : decode cX0_addThing 51 = .ok (.ireturn, 1) := by decide +kernel
theorem dX0_addThing_52 : decode cX0_addThing 52 = .ok (.aload_n 0, 1) := by decide +kernel
theorem dX0_addThing_53 : decode cX0_addThing 53 = .ok (.getfield 15, 3) := by decide +kernel
theorem dX0_addThing_56 : decode cX0_addThing 56 = .ok (.bipush 30, 2) := by decide +kernel
theorem dX0_addThing_58 : decode cX0_addThing 58 = .ok (.if_icmp .lt 6, 3) := by decide +kernel
theorem dX0_addThing_61 : decode cX0_addThing 61 = .ok (.bipush (-4), 2) := by decide +kernel
theorem dX0_addThing_63 : decode cX0_addThing 63 = .ok (.ireturn, 1) := by decide +kernel
theorem dX0_addThing_64 : decode cX0_addThing 64 = .ok (.aload_n 0, 1) := by decide +kernel
theorem dX0_addThing_65 : decode cX0_addThing 65 = .ok (.getfield 15, 3) := by decide +kernel
theorem dX0_addThing_68 : decode cX0_addThing 68 = .ok (.istore 5, 2) := by decide +kernel
theorem dX0_addThing_70 : decode cX0_addThing 70 = .ok (.aload_n 0, 1) := by decide +kernel
theorem dX0_addThing_71 : decode cX0_addThing 71 = .ok (.dup, 1) := by decide +kernel
theorem dX0_addThing_72 : decode cX0_addThing 72 = .ok (.getfield 15, 3) := by decide +kernel
theorem dX0_addThing_75 : decode cX0_addThing 75 = .ok (.iconst 1, 1) := by decide +kernel
theorem dX0_addThing_76 : decode cX0_addThing 76 = .ok (.iadd, 1) := by decide +kernel
theorem dX0_addThing_77 : decode cX0_addThing 77 = .ok (.putfield 15, 3) := by decide +kernel
theorem dX0_addThing_80 : decode cX0_addThing 80 = .ok (.aload_n 0, 1) := by decide +kernel
theorem dX0_addThing_81 : decode cX0_addThing 81 = .ok (.iload 5, 2) := by decide +kernel
theorem dX0_addThing_83 : decode cX0_addThing 83 = .ok (.invokevirtual 42, 3) := by decide +kernel
theorem dX0_addThing_86 : decode cX0_addThing 86 = .ok (.astore 6, 2) := by decide +kernel
theorem dX0_addThing_88 : decode cX0_addThing 88 = .ok (.aload 6, 2) := by decide +kernel
theorem dX0_addThing_90 : decode cX0_addThing 90 = .ok (.ifnull 13, 3) := by decide +kernel
theorem dX0_addThing_93 : decode cX0_addThing 93 = .ok (.aload 6, 2) := by decide +kernel
theorem dX0_addThing_95 : decode cX0_addThing 95 = .ok (.iload_n 1, 1) := by decide +kernel
theorem dX0_addThing_96 : decode cX0_addThing 96 = .ok (.iload_n 2, 1) := by decide +kernel
theorem dX0_addThing_97 : decode cX0_addThing 97 = .ok (.iload_n 3, 1) := by decide +kernel
theorem dX0_addThing_98 : decode cX0_addThing 98 = .ok (.iload 4, 2) := by decide +kernel
theorem dX0_addThing_100 : decode cX0_addThing 100 = .ok (.invokevirtual 68, 3) := by decide +kernel
theorem dX0_addThing_103 : decode cX0_addThing 103 = .ok (.iload 5, 2) := by decide +kernel
theorem dX0_addThing_105 : decode cX0_addThing 105 = .ok (.ireturn, 1) := by decide +kernel
theorem dX0_addFixer_0 : decode cX0_addFixer 0 = .ok (.iload_n 1, 1) := by decide +kernel
theorem dX0_addFixer_1 : decode cX0_addFixer 1 = .ok (.iload_n 2, 1) := by decide +kernel
theorem dX0_addFixer_2 : decode cX0_addFixer 2 = .ok (.invokestatic 72, 3) := by decide +kernel
theorem dX0_addFixer_5 : decode cX0_addFixer 5 = .ok (.ifCond .ne 6, 3) := by decide +kernel
theorem dX0_addFixer_8 : decode cX0_addFixer 8 = .ok (.bipush (-2), 2) := by decide +kernel
theorem dX0_addFixer_10 : decode cX0_addFixer 10 = .ok (.ireturn, 1) := by decide +kernel
theorem dX0_addFixer_11 : decode cX0_addFixer 11 = .ok (.aload_n 0, 1) := by decide +kernel
theorem dX0_addFixer_12 : decode cX0_addFixer 12 = .ok (.getfield 18, 3) := by decide +kernel
theorem dX0_addFixer_15 : decode cX0_addFixer 15 = .ok (.iconst 5, 1) := by decide +kernel
theorem dX0_addFixer_16 : decode cX0_addFixer 16 = .ok (.if_icmp .lt 6, 3) := by decide +kernel
theorem dX0_addFixer_19 : decode cX0_addFixer 19 = .ok (.bipush (-4), 2) := by decide +kernel
theorem dX0_addFixer_21 : decode cX0_addFixer 21 = .ok (.ireturn, 1) := by decide +kernel
theorem dX0_addFixer_22 : decode cX0_addFixer 22 = .ok (.aload_n 0, 1) := by decide +kernel
theorem dX0_addFixer_23 : decode cX0_addFixer 23 = .ok (.getfield 18, 3) := by decide +kernel
theorem dX0_addFixer_26 : decode cX0_addFixer 26 = .ok (.istore_n 3, 1) := by decide +kernel
theorem dX0_addFixer_27 : decode cX0_addFixer 27 = .ok (.aload_n 0, 1) := by decide +kernel
theorem dX0_addFixer_28 : decode cX0_addFixer 28 = .ok (.dup, 1) := by decide +kernel
theorem dX0_addFixer_29 : decode cX0_addFixer 29 = .ok (.getfield 18, 3) := by decide +kernel
theorem dX0_addFixer_32 : decode cX0_addFixer 32 = .ok (.iconst 1, 1) := by decide +kernel
theorem dX0_addFixer_33 : decode cX0_addFixer 33 = .ok (.iadd, 1) := by decide +kernel
theorem dX0_addFixer_34 : decode cX0_addFixer 34 = .ok (.putfield 18, 3) := by decide +kernel
theorem dX0_addFixer_37 : decode cX0_addFixer 37 = .ok (.aload_n 0, 1) := by decide +kernel
theorem dX0_addFixer_38 : decode cX0_addFixer 38 = .ok (.iload_n 3, 1) := by decide +kernel
theorem dX0_addFixer_39 : decode cX0_addFixer 39 = .ok (.invokevirtual 50, 3) := by decide +kernel
theorem dX0_addFixer_42 : decode cX0_addFixer 42 = .ok (.astore 4, 2) := by decide +kernel
theorem dX0_addFixer_44 : decode cX0_addFixer 44 = .ok (.aload 4, 2) := by decide +kernel
theorem dX0_addFixer_46 : decode cX0_addFixer 46 = .ok (.ifnull 10, 3) := by decide +kernel
theorem dX0_addFixer_49 : decode cX0_addFixer 49 = .ok (.aload 4, 2) := by decide +kernel
theorem dX0_addFixer_51 : decode cX0_addFixer 51 = .ok (.iload_n 1, 1) := by decide +kernel
theorem dX0_addFixer_52 : decode cX0_addFixer 52 = .ok (.iload_n 2, 1) := by decide +kernel
theorem dX0_addFixer_53 : decode cX0_addFixer 53 = .ok (.invokevirtual 76, 3) := by decide +kernel
theorem dX0_addFixer_56 : decode cX0_addFixer 56 = .ok (.iload_n 3, 1) := by decide +kernel
theorem dX0_addFixer_57 : decode cX0_addFixer 57 = .ok (.ireturn, 1) := by decide +kernel
theorem dX0_fillDrawer_0 : decode cX0_fillDrawer 0 = .ok (.aload_n 0, 1) := by decide +kernel
theorem dX0_fillDrawer_1 : decode cX0_fillDrawer 1 = .ok (.iload_n 1, 1) := by decide +kernel
theorem dX0_fillDrawer_2 : decode cX0_fillDrawer 2 = .ok (.invokevirtual 57, 3) := by decide +kernel
theorem dX0_fillDrawer_5 : decode cX0_fillDrawer 5 = .ok (.astore_n 3, 1) := by decide +kernel
theorem dX0_fillDrawer_6 : decode cX0_fillDrawer 6 = .ok (.aload_n 3, 1) := by decide +kernel
theorem dX0_fillDrawer_7 : decode cX0_fillDrawer 7 = .ok (.ifnonnull 5, 3) := by decide +kernel
theorem dX0_fillDrawer_10 : decode cX0_fillDrawer 10 = .ok (.iconst (-1), 1) := by decide +kernel
theorem dX0_fillDrawer_11 : decode cX0_fillDrawer 11 = .ok (.ireturn, 1) := by decide +kernel
theorem dX0_fillDrawer_12 : decode cX0_fillDrawer 12 = .ok (.iload_n 2, 1) := by decide +kernel
theorem dX0_fillDrawer_13 : decode cX0_fillDrawer 13 = .ok (.ifCond .lt 9, 3) := by decide +kernel
theorem dX0_fillDrawer_16 : decode cX0_fillDrawer 16 = .ok (.iload_n 2, 1) := by decide +kernel
theorem dX0_fillDrawer_17 : decode cX0_fillDrawer 17 = .ok (.bipush 99, 2) := by decide +kernel
theorem dX0_fillDrawer_19 : decode cX0_fillDrawer 19 = .ok (.if_icmp .le 6, 3) := by decide +kernel
theorem dX0_fillDrawer_22 : decode cX0_fillDrawer 22 = .ok (.bipush (-2), 2) := by decide +kernel
theorem dX0_fillDrawer_24 : decode cX0_fillDrawer 24 = .ok (.ireturn, 1) := by decide +kernel
theorem dX0_fillDrawer_25 : decode cX0_fillDrawer 25 = .ok (.aload_n 3, 1) := by decide +kernel
theorem dX0_fillDrawer_26 : decode cX0_fillDrawer 26 = .ok (.getfield 79, 3) := by decide +kernel
theorem dX0_fillDrawer_29 : decode cX0_fillDrawer 29 = .ok (.istore 4, 2) := by decide +kernel
theorem dX0_fillDrawer_31 : decode cX0_fillDrawer 31 = .ok (.aload_n 3, 1) := by decide +kernel
theorem dX0_fillDrawer_32 : decode cX0_fillDrawer 32 = .ok (.iload_n 2, 1) := by decide +kernel
theorem dX0_fillDrawer_33 : decode cX0_fillDrawer 33 = .ok (.putfield 79, 3) := by decide +kernel
theorem dX0_fillDrawer_36 : decode cX0_fillDrawer 36 = .ok (.iload 4, 2) := by decide +kernel
theorem dX0_fillDrawer_38 : decode cX0_fillDrawer 38 = .ok (.ireturn, 1) := by decide +kernel
theorem dX0_giveWaitingUp_0 : decode cX0_giveWaitingUp 0 = .ok (.aload_n 0, 1) := by decide +kernel
theorem dX0_giveWaitingUp_1 : decode cX0_giveWaitingUp 1 = .ok (.iload_n 1, 1) := by decide +kernel
theorem dX0_giveWaitingUp_2 : decode cX0_giveWaitingUp 2 = .ok (.invokevirtual 42, 3) := by decide +kernel
theorem dX0_giveWaitingUp_5 : decode cX0_giveWaitingUp 5 = .ok (.astore_n 2, 1) := by decide +kernel
theorem dX0_giveWaitingUp_6 : decode cX0_giveWaitingUp 6 = .ok (.aload_n 2, 1) := by decide +kernel
theorem dX0_giveWaitingUp_7 : decode cX0_giveWaitingUp 7 = .ok (.ifnonnull 5, 3) := by decide +kernel
theorem dX0_giveWaitingUp_10 : decode cX0_giveWaitingUp 10 = .ok (.iconst (-1), 1) := by decide +kernel
theorem dX0_giveWaitingUp_11 : decode cX0_giveWaitingUp 11 = .ok (.ireturn, 1) := by decide +kernel
theorem dX0_giveWaitingUp_12 : decode cX0_giveWaitingUp 12 = .ok (.aload_n 2, 1) := by decide +kernel
theorem dX0_giveWaitingUp_13 : decode cX0_giveWaitingUp 13 = .ok (.getfield 82, 3) := by decide +kernel
theorem dX0_giveWaitingUp_16 : decode cX0_giveWaitingUp 16 = .ok (.ifCond .eq 6, 3) := by decide +kernel
theorem dX0_giveWaitingUp_19 : decode cX0_giveWaitingUp 19 = .ok (.bipush (-5), 2) := by decide +kernel
theorem dX0_giveWaitingUp_21 : decode cX0_giveWaitingUp 21 = .ok (.ireturn, 1) := by decide +kernel
theorem dX0_giveWaitingUp_22 : decode cX0_giveWaitingUp 22 = .ok (.aload_n 0, 1) := by decide +kernel
theorem dX0_giveWaitingUp_23 : decode cX0_giveWaitingUp 23 = .ok (.aload_n 2, 1) := by decide +kernel
theorem dX0_giveWaitingUp_24 : decode cX0_giveWaitingUp 24 = .ok (.invokevirtual 85, 3) := by decide +kernel
theorem dX0_giveWaitingUp_27 : decode cX0_giveWaitingUp 27 = .ok (.ireturn, 1) := by decide +kernel
theorem dX0_letPass_0 : decode cX0_letPass 0 = .ok (.iload_n 1, 1) := by decide +kernel
theorem dX0_letPass_1 : decode cX0_letPass 1 = .ok (.iconst 1, 1) := by decide +kernel
theorem dX0_letPass_2 : decode cX0_letPass 2 = .ok (.if_icmp .lt 9, 3) := by decide +kernel
theorem dX0_letPass_5 : decode cX0_letPass 5 = .ok (.iload_n 1, 1) := by decide +kernel
theorem dX0_letPass_6 : decode cX0_letPass 6 = .ok (.bipush 99, 2) := by decide +kernel
theorem dX0_letPass_8 : decode cX0_letPass 8 = .ok (.if_icmp .le 6, 3) := by decide +kernel
theorem dX0_letPass_11 : decode cX0_letPass 11 = .ok (.bipush (-2), 2) := by decide +kernel
theorem dX0_letPass_13 : decode cX0_letPass 13 = .ok (.ireturn, 1) := by decide +kernel
theorem dX0_letPass_14 : decode cX0_letPass 14 = .ok (.aload_n 0, 1) := by decide +kernel
theorem dX0_letPass_15 : decode cX0_letPass 15 = .ok (.getfield 9, 3) := by decide +kernel
theorem dX0_letPass_18 : decode cX0_letPass 18 = .ok (.iload_n 1, 1) := by decide +kernel
theorem dX0_letPass_19 : decode cX0_letPass 19 = .ok (.iadd, 1) := by decide +kernel
theorem dX0_letPass_20 : decode cX0_letPass 20 = .ok (.sipush 9999, 3) := by decide +kernel
theorem dX0_letPass_23 : decode cX0_letPass 23 = .ok (.if_icmp .le 6, 3) := by decide +kernel
theorem dX0_letPass_26 : decode cX0_letPass 26 = .ok (.bipush (-5), 2) := by decide +kernel
theorem dX0_letPass_28 : decode cX0_letPass 28 = .ok (.ireturn, 1) := by decide +kernel
theorem dX0_letPass_29 : decode cX0_letPass 29 = .ok (.aload_n 0, 1) := by decide +kernel
theorem dX0_letPass_30 : decode cX0_letPass 30 = .ok (.iload_n 1, 1) := by decide +kernel
theorem dX0_letPass_31 : decode cX0_letPass 31 = .ok (.invokevirtual 89, 3) := by decide +kernel
theorem dX0_letPass_34 : decode cX0_letPass 34 = .ok (.ireturn, 1) := by decide +kernel
theorem dX0_passMinutes_0 : decode cX0_passMinutes 0 = .ok (.aload_n 0, 1) := by decide +kernel
theorem dX0_passMinutes_1 : decode cX0_passMinutes 1 = .ok (.getfield 9, 3) := by decide +kernel
theorem dX0_passMinutes_4 : decode cX0_passMinutes 4 = .ok (.iload_n 1, 1) := by decide +kernel
theorem dX0_passMinutes_5 : decode cX0_passMinutes 5 = .ok (.iadd, 1) := by decide +kernel
theorem dX0_passMinutes_6 : decode cX0_passMinutes 6 = .ok (.istore_n 2, 1) := by decide +kernel
theorem dX0_passMinutes_7 : decode cX0_passMinutes 7 = .ok (.iconst 0, 1) := by decide +kernel
theorem dX0_passMinutes_8 : decode cX0_passMinutes 8 = .ok (.istore_n 3, 1) := by decide +kernel
theorem dX0_passMinutes_9 : decode cX0_passMinutes 9 = .ok (.iconst 0, 1) := by decide +kernel
theorem dX0_passMinutes_10 : decode cX0_passMinutes 10 = .ok (.istore 4, 2) := by decide +kernel
theorem dX0_passMinutes_12 : decode cX0_passMinutes 12 = .ok (.iload 4, 2) := by decide +kernel
theorem dX0_passMinutes_14 : decode cX0_passMinutes 14 = .ok (.iload_n 1, 1) := by decide +kernel
theorem dX0_passMinutes_15 : decode cX0_passMinutes 15 = .ok (.if_icmp .ge 23, 3) := by decide +kernel
theorem dX0_passMinutes_18 : decode cX0_passMinutes 18 = .ok (.aload_n 0, 1) := by decide +kernel
theorem dX0_passMinutes_19 : decode cX0_passMinutes 19 = .ok (.invokevirtual 92, 3) := by decide +kernel
theorem dX0_passMinutes_22 : decode cX0_passMinutes 22 = .ok (.ifCond .eq 16, 3) := by decide +kernel
theorem dX0_passMinutes_25 : decode cX0_passMinutes 25 = .ok (.iload_n 3, 1) := by decide +kernel
theorem dX0_passMinutes_26 : decode cX0_passMinutes 26 = .ok (.aload_n 0, 1) := by decide +kernel
theorem dX0_passMinutes_27 : decode cX0_passMinutes 27 = .ok (.invokevirtual 96, 3) := by decide +kernel
theorem dX0_passMinutes_30 : decode cX0_passMinutes 30 = .ok (.iadd, 1) := by decide +kernel
theorem dX0_passMinutes_31 : decode cX0_passMinutes 31 = .ok (.istore_n 3, 1) := by decide +kernel
theorem dX0_passMinutes_32 : decode cX0_passMinutes 32 = .ok (.iinc 4 1, 3) := by decide +kernel
theorem dX0_passMinutes_35 : decode cX0_passMinutes 35 = .ok (.goto (-23), 3) := by decide +kernel
theorem dX0_passMinutes_38 : decode cX0_passMinutes 38 = .ok (.aload_n 0, 1) := by decide +kernel
theorem dX0_passMinutes_39 : decode cX0_passMinutes 39 = .ok (.iload_n 2, 1) := by decide +kernel
theorem dX0_passMinutes_40 : decode cX0_passMinutes 40 = .ok (.putfield 9, 3) := by decide +kernel
theorem dX0_passMinutes_43 : decode cX0_passMinutes 43 = .ok (.iload_n 3, 1) := by decide +kernel
theorem dX0_passMinutes_44 : decode cX0_passMinutes 44 = .ok (.ireturn, 1) := by decide +kernel
theorem dX0_passMinute_0 : decode cX0_passMinute 0 = .ok (.iconst 0, 1) := by decide +kernel
theorem dX0_passMinute_1 : decode cX0_passMinute 1 = .ok (.istore_n 1, 1) := by decide +kernel
theorem dX0_passMinute_2 : decode cX0_passMinute 2 = .ok (.iload_n 1, 1) := by decide +kernel
theorem dX0_passMinute_3 : decode cX0_passMinute 3 = .ok (.aload_n 0, 1) := by decide +kernel
theorem dX0_passMinute_4 : decode cX0_passMinute 4 = .ok (.getfield 18, 3) := by decide +kernel
theorem dX0_passMinute_7 : decode cX0_passMinute 7 = .ok (.if_icmp .ge 14, 3) := by decide +kernel
theorem dX0_passMinute_10 : decode cX0_passMinute 10 = .ok (.aload_n 0, 1) := by decide +kernel
theorem dX0_passMinute_11 : decode cX0_passMinute 11 = .ok (.iload_n 1, 1) := by decide +kernel
theorem dX0_passMinute_12 : decode cX0_passMinute 12 = .ok (.invokevirtual 100, 3) := by decide +kernel
theorem dX0_passMinute_15 : decode cX0_passMinute 15 = .ok (.iinc 1 1, 3) := by decide +kernel
theorem dX0_passMinute_18 : decode cX0_passMinute 18 = .ok (.goto (-16), 3) := by decide +kernel
theorem dX0_passMinute_21 : decode cX0_passMinute 21 = .ok (.iconst 0, 1) := by decide +kernel
theorem dX0_passMinute_22 : decode cX0_passMinute 22 = .ok (.istore_n 1, 1) := by decide +kernel
theorem dX0_passMinute_23 : decode cX0_passMinute 23 = .ok (.iconst 0, 1) := by decide +kernel
theorem dX0_passMinute_24 : decode cX0_passMinute 24 = .ok (.istore_n 2, 1) := by decide +kernel
theorem dX0_passMinute_25 : decode cX0_passMinute 25 = .ok (.iload_n 2, 1) := by decide +kernel
theorem dX0_passMinute_26 : decode cX0_passMinute 26 = .ok (.aload_n 0, 1) := by decide +kernel
theorem dX0_passMinute_27 : decode cX0_passMinute 27 = .ok (.getfield 18, 3) := by decide +kernel
theorem dX0_passMinute_30 : decode cX0_passMinute 30 = .ok (.if_icmp .ge 17, 3) := by decide +kernel
theorem dX0_passMinute_33 : decode cX0_passMinute 33 = .ok (.iload_n 1, 1) := by decide +kernel
theorem dX0_passMinute_34 : decode cX0_passMinute 34 = .ok (.aload_n 0, 1) := by decide +kernel
theorem dX0_passMinute_35 : decode cX0_passMinute 35 = .ok (.iload_n 2, 1) := by decide +kernel
theorem dX0_passMinute_36 : decode cX0_passMinute 36 = .ok (.invokevirtual 104, 3) := by decide +kernel
theorem dX0_passMinute_39 : decode cX0_passMinute 39 = .ok (.iadd, 1) := by decide +kernel
theorem dX0_passMinute_40 : decode cX0_passMinute 40 = .ok (.istore_n 1, 1) := by decide +kernel
theorem dX0_passMinute_41 : decode cX0_passMinute 41 = .ok (.iinc 2 1, 3) := by decide +kernel
theorem dX0_passMinute_44 : decode cX0_passMinute 44 = .ok (.goto (-19), 3) := by decide +kernel
theorem dX0_passMinute_47 : decode cX0_passMinute 47 = .ok (.aload_n 0, 1) := by decide +kernel
theorem dX0_passMinute_48 : decode cX0_passMinute 48 = .ok (.invokevirtual 107, 3) := by decide +kernel
theorem dX0_passMinute_51 : decode cX0_passMinute 51 = .ok (.aload_n 0, 1) := by decide +kernel
theorem dX0_passMinute_52 : decode cX0_passMinute 52 = .ok (.dup, 1) := by decide +kernel
theorem dX0_passMinute_53 : decode cX0_passMinute 53 = .ok (.getfield 9, 3) := by decide +kernel
theorem dX0_passMinute_56 : decode cX0_passMinute 56 = .ok (.iconst 1, 1) := by decide +kernel
theorem dX0_passMinute_57 : decode cX0_passMinute 57 = .ok (.iadd, 1) := by decide +kernel
theorem dX0_passMinute_58 : decode cX0_passMinute 58 = .ok (.putfield 9, 3) := by decide +kernel
theorem dX0_passMinute_61 : decode cX0_passMinute 61 = .ok (.iload_n 1, 1) := by decide +kernel
theorem dX0_passMinute_62 : decode cX0_passMinute 62 = .ok (.ireturn, 1) := by decide +kernel
theorem dX0_takeThing_0 : decode cX0_takeThing 0 = .ok (.aload_n 0, 1) := by decide +kernel
theorem dX0_takeThing_1 : decode cX0_takeThing 1 = .ok (.iload_n 1, 1) := by decide +kernel
theorem dX0_takeThing_2 : decode cX0_takeThing 2 = .ok (.invokevirtual 50, 3) := by decide +kernel
theorem dX0_takeThing_5 : decode cX0_takeThing 5 = .ok (.astore_n 2, 1) := by decide +kernel
theorem dX0_takeThing_6 : decode cX0_takeThing 6 = .ok (.aload_n 2, 1) := by decide +kernel
theorem dX0_takeThing_7 : decode cX0_takeThing 7 = .ok (.ifnull 12, 3) := by decide +kernel
theorem dX0_takeThing_10 : decode cX0_takeThing 10 = .ok (.aload_n 2, 1) := by decide +kernel
theorem dX0_takeThing_11 : decode cX0_takeThing 11 = .ok (.getfield 110, 3) := by decide +kernel
theorem dX0_takeThing_14 : decode cX0_takeThing 14 = .ok (.bipush (-6), 2) := by decide +kernel
theorem dX0_takeThing_16 : decode cX0_takeThing 16 = .ok (.if_icmp .eq 4, 3) := by decide +kernel
theorem dX0_takeThing_19 : decode cX0_takeThing 19 = .ok (.return_, 1) := by decide +kernel
theorem dX0_takeThing_20 : decode cX0_takeThing 20 = .ok (.aload_n 0, 1) := by decide +kernel
theorem dX0_takeThing_21 : decode cX0_takeThing 21 = .ok (.aload_n 2, 1) := by decide +kernel
theorem dX0_takeThing_22 : decode cX0_takeThing 22 = .ok (.getfield 113, 3) := by decide +kernel
theorem dX0_takeThing_25 : decode cX0_takeThing 25 = .ok (.invokevirtual 116, 3) := by decide +kernel
theorem dX0_takeThing_28 : decode cX0_takeThing 28 = .ok (.istore_n 3, 1) := by decide +kernel
theorem dX0_takeThing_29 : decode cX0_takeThing 29 = .ok (.aload_n 0, 1) := by decide +kernel
theorem dX0_takeThing_30 : decode cX0_takeThing 30 = .ok (.iload_n 3, 1) := by decide +kernel
theorem dX0_takeThing_31 : decode cX0_takeThing 31 = .ok (.invokevirtual 42, 3) := by decide +kernel
theorem dX0_takeThing_34 : decode cX0_takeThing 34 = .ok (.astore 4, 2) := by decide +kernel
theorem dX0_takeThing_36 : decode cX0_takeThing 36 = .ok (.aload 4, 2) := by decide +kernel
theorem dX0_takeThing_38 : decode cX0_takeThing 38 = .ok (.ifnull 20, 3) := by decide +kernel
theorem dX0_takeThing_41 : decode cX0_takeThing 41 = .ok (.aload_n 2, 1) := by decide +kernel
theorem dX0_takeThing_42 : decode cX0_takeThing 42 = .ok (.iload_n 3, 1) := by decide +kernel
theorem dX0_takeThing_43 : decode cX0_takeThing 43 = .ok (.putfield 110, 3) := by decide +kernel
theorem dX0_takeThing_46 : decode cX0_takeThing 46 = .ok (.aload 4, 2) := by decide +kernel
theorem dX0_takeThing_48 : decode cX0_takeThing 48 = .ok (.iconst 1, 1) := by decide +kernel
theorem dX0_takeThing_49 : decode cX0_takeThing 49 = .ok (.putfield 82, 3) := by decide +kernel
theorem dX0_takeThing_52 : decode cX0_takeThing 52 = .ok (.aload 4, 2) := by decide +kernel
theorem dX0_takeThing_54 : decode cX0_takeThing 54 = .ok (.iload_n 1, 1) := by decide +kernel
theorem dX0_takeThing_55 : decode cX0_takeThing 55 = .ok (.putfield 119, 3) := by decide +kernel
theorem dX0_takeThing_58 : decode cX0_takeThing 58 = .ok (.return_, 1) := by decide +kernel
theorem dX0_workOf_0 : decode cX0_workOf 0 = .ok (.aload_n 0, 1) := by decide +kernel
theorem dX0_workOf_1 : decode cX0_workOf 1 = .ok (.iload_n 1, 1) := by decide +kernel
theorem dX0_workOf_2 : decode cX0_workOf 2 = .ok (.invokevirtual 50, 3) := by decide +kernel
theorem dX0_workOf_5 : decode cX0_workOf 5 = .ok (.astore_n 2, 1) := by decide +kernel
theorem dX0_workOf_6 : decode cX0_workOf 6 = .ok (.aload_n 2, 1) := by decide +kernel
theorem dX0_workOf_7 : decode cX0_workOf 7 = .ok (.ifnonnull 5, 3) := by decide +kernel
theorem dX0_workOf_10 : decode cX0_workOf 10 = .ok (.iconst 0, 1) := by decide +kernel
theorem dX0_workOf_11 : decode cX0_workOf 11 = .ok (.ireturn, 1) := by decide +kernel
theorem dX0_workOf_12 : decode cX0_workOf 12 = .ok (.aload_n 0, 1) := by decide +kernel
theorem dX0_workOf_13 : decode cX0_workOf 13 = .ok (.aload_n 2, 1) := by decide +kernel
theorem dX0_workOf_14 : decode cX0_workOf 14 = .ok (.getfield 110, 3) := by decide +kernel
theorem dX0_workOf_17 : decode cX0_workOf 17 = .ok (.invokevirtual 42, 3) := by decide +kernel
theorem dX0_workOf_20 : decode cX0_workOf 20 = .ok (.astore_n 3, 1) := by decide +kernel
theorem dX0_workOf_21 : decode cX0_workOf 21 = .ok (.aload_n 3, 1) := by decide +kernel
theorem dX0_workOf_22 : decode cX0_workOf 22 = .ok (.ifnonnull 5, 3) := by decide +kernel
theorem dX0_workOf_25 : decode cX0_workOf 25 = .ok (.iconst 0, 1) := by decide +kernel
theorem dX0_workOf_26 : decode cX0_workOf 26 = .ok (.ireturn, 1) := by decide +kernel
theorem dX0_workOf_27 : decode cX0_workOf 27 = .ok (.aload_n 2, 1) := by decide +kernel
theorem dX0_workOf_28 : decode cX0_workOf 28 = .ok (.dup, 1) := by decide +kernel
theorem dX0_workOf_29 : decode cX0_workOf 29 = .ok (.getfield 122, 3) := by decide +kernel
theorem dX0_workOf_32 : decode cX0_workOf 32 = .ok (.iconst 1, 1) := by decide +kernel
theorem dX0_workOf_33 : decode cX0_workOf 33 = .ok (.iadd, 1) := by decide +kernel
theorem dX0_workOf_34 : decode cX0_workOf 34 = .ok (.putfield 122, 3) := by decide +kernel
theorem dX0_workOf_37 : decode cX0_workOf 37 = .ok (.aload_n 3, 1) := by decide +kernel
theorem dX0_workOf_38 : decode cX0_workOf 38 = .ok (.getfield 125, 3) := by decide +kernel
theorem dX0_workOf_41 : decode cX0_workOf 41 = .ok (.ifCond .eq 11, 3) := by decide +kernel
theorem dX0_workOf_44 : decode cX0_workOf 44 = .ok (.aload_n 0, 1) := by decide +kernel
theorem dX0_workOf_45 : decode cX0_workOf 45 = .ok (.aload_n 3, 1) := by decide +kernel
theorem dX0_workOf_46 : decode cX0_workOf 46 = .ok (.invokevirtual 128, 3) := by decide +kernel
theorem dX0_workOf_49 : decode cX0_workOf 49 = .ok (.goto 15, 3) := by decide +kernel
theorem dX0_workOf_52 : decode cX0_workOf 52 = .ok (.aload_n 3, 1) := by decide +kernel
theorem dX0_workOf_53 : decode cX0_workOf 53 = .ok (.aload_n 0, 1) := by decide +kernel
theorem dX0_workOf_54 : decode cX0_workOf 54 = .ok (.getfield 9, 3) := by decide +kernel
theorem dX0_workOf_57 : decode cX0_workOf 57 = .ok (.aload_n 2, 1) := by decide +kernel
theorem dX0_workOf_58 : decode cX0_workOf 58 = .ok (.getfield 132, 3) := by decide +kernel
theorem dX0_workOf_61 : decode cX0_workOf 61 = .ok (.invokevirtual 135, 3) := by decide +kernel
theorem dX0_workOf_64 : decode cX0_workOf 64 = .ok (.istore 4, 2) := by decide +kernel
theorem dX0_workOf_66 : decode cX0_workOf 66 = .ok (.iload 4, 2) := by decide +kernel
theorem dX0_workOf_68 : decode cX0_workOf 68 = .ok (.ifCond .ne 27, 3) := by decide +kernel
theorem dX0_workOf_71 : decode cX0_workOf 71 = .ok (.aload_n 0, 1) := by decide +kernel
theorem dX0_workOf_72 : decode cX0_workOf 72 = .ok (.aload_n 3, 1) := by decide +kernel
theorem dX0_workOf_73 : decode cX0_workOf 73 = .ok (.invokevirtual 85, 3) := by decide +kernel
theorem dX0_workOf_76 : decode cX0_workOf 76 = .ok (.pop, 1) := by decide +kernel
theorem dX0_workOf_77 : decode cX0_workOf 77 = .ok (.aload_n 2, 1) := by decide +kernel
theorem dX0_workOf_78 : decode cX0_workOf 78 = .ok (.bipush (-6), 2) := by decide +kernel
theorem dX0_workOf_80 : decode cX0_workOf 80 = .ok (.putfield 110, 3) := by decide +kernel
theorem dX0_workOf_83 : decode cX0_workOf 83 = .ok (.aload_n 2, 1) := by decide +kernel
theorem dX0_workOf_84 : decode cX0_workOf 84 = .ok (.dup, 1) := by decide +kernel
theorem dX0_workOf_85 : decode cX0_workOf 85 = .ok (.getfield 138, 3) := by decide +kernel
theorem dX0_workOf_88 : decode cX0_workOf 88 = .ok (.iconst 1, 1) := by decide +kernel
theorem dX0_workOf_89 : decode cX0_workOf 89 = .ok (.iadd, 1) := by decide +kernel
theorem dX0_workOf_90 : decode cX0_workOf 90 = .ok (.putfield 138, 3) := by decide +kernel
theorem dX0_workOf_93 : decode cX0_workOf 93 = .ok (.iconst 0, 1) := by decide +kernel
theorem dX0_workOf_94 : decode cX0_workOf 94 = .ok (.ireturn, 1) := by decide +kernel
theorem dX0_workOf_95 : decode cX0_workOf 95 = .ok (.aload_n 3, 1) := by decide +kernel
theorem dX0_workOf_96 : decode cX0_workOf 96 = .ok (.getfield 125, 3) := by decide +kernel
theorem dX0_workOf_99 : decode cX0_workOf 99 = .ok (.ifCond .ne 10, 3) := by decide +kernel
theorem dX0_workOf_102 : decode cX0_workOf 102 = .ok (.aload_n 3, 1) := by decide +kernel
theorem dX0_workOf_103 : decode cX0_workOf 103 = .ok (.getfield 141, 3) := by decide +kernel
theorem dX0_workOf_106 : decode cX0_workOf 106 = .ok (.ifCond .eq 5, 3) := by decide +kernel
theorem dX0_workOf_109 : decode cX0_workOf 109 = .ok (.iconst 0, 1) := by decide +kernel
theorem dX0_workOf_110 : decode cX0_workOf 110 = .ok (.ireturn, 1) := by decide +kernel
theorem dX0_workOf_111 : decode cX0_workOf 111 = .ok (.aload_n 3, 1) := by decide +kernel
theorem dX0_workOf_112 : decode cX0_workOf 112 = .ok (.iconst 2, 1) := by decide +kernel
theorem dX0_workOf_113 : decode cX0_workOf 113 = .ok (.invokevirtual 144, 3) := by decide +kernel
theorem dX0_workOf_116 : decode cX0_workOf 116 = .ok (.aload_n 2, 1) := by decide +kernel
theorem dX0_workOf_117 : decode cX0_workOf 117 = .ok (.bipush (-6), 2) := by decide +kernel
theorem dX0_workOf_119 : decode cX0_workOf 119 = .ok (.putfield 110, 3) := by decide +kernel
theorem dX0_workOf_122 : decode cX0_workOf 122 = .ok (.aload_n 2, 1) := by decide +kernel
theorem dX0_workOf_123 : decode cX0_workOf 123 = .ok (.dup, 1) := by decide +kernel
theorem dX0_workOf_124 : decode cX0_workOf 124 = .ok (.getfield 147, 3) := by decide +kernel
theorem dX0_workOf_127 : decode cX0_workOf 127 = .ok (.iconst 1, 1) := by decide +kernel
theorem dX0_workOf_128 : decode cX0_workOf 128 = .ok (.iadd, 1) := by decide +kernel
theorem dX0_workOf_129 : decode cX0_workOf 129 = .ok (.putfield 147, 3) := by decide +kernel
theorem dX0_workOf_132 : decode cX0_workOf 132 = .ok (.iconst 1, 1) := by decide +kernel
theorem dX0_workOf_133 : decode cX0_workOf 133 = .ok (.ireturn, 1) := by decide +kernel
theorem dX0_exchangeLowest_0 : decode cX0_exchangeLowest 0 = .ok (.iconst 0, 1) := by decide +kernel
theorem dX0_exchangeLowest_1 : decode cX0_exchangeLowest 1 = .ok (.istore_n 2, 1) := by decide +kernel
theorem dX0_exchangeLowest_2 : decode cX0_exchangeLowest 2 = .ok (.iload_n 2, 1) := by decide +kernel
theorem dX0_exchangeLowest_3 : decode cX0_exchangeLowest 3 = .ok (.bipush 8, 2) := by decide +kernel
theorem dX0_exchangeLowest_5 : decode cX0_exchangeLowest 5 = .ok (.if_icmp .ge 65, 3) := by decide +kernel
theorem dX0_exchangeLowest_8 : decode cX0_exchangeLowest 8 = .ok (.aload_n 1, 1) := by decide +kernel
theorem dX0_exchangeLowest_9 : decode cX0_exchangeLowest 9 = .ok (.getfield 125, 3) := by decide +kernel
theorem dX0_exchangeLowest_12 : decode cX0_exchangeLowest 12 = .ok (.iload_n 2, 1) := by decide +kernel
theorem dX0_exchangeLowest_13 : decode cX0_exchangeLowest 13 = .ok (.invokestatic 150, 3) := by decide +kernel
theorem dX0_exchangeLowest_16 : decode cX0_exchangeLowest 16 = .ok (.ifCond .eq 48, 3) := by decide +kernel
theorem dX0_exchangeLowest_19 : decode cX0_exchangeLowest 19 = .ok (.aload_n 0, 1) := by decide +kernel
theorem dX0_exchangeLowest_20 : decode cX0_exchangeLowest 20 = .ok (.iload_n 2, 1) := by decide +kernel
theorem dX0_exchangeLowest_21 : decode cX0_exchangeLowest 21 = .ok (.invokevirtual 57, 3) := by decide +kernel
theorem dX0_exchangeLowest_24 : decode cX0_exchangeLowest 24 = .ok (.astore_n 3, 1) := by decide +kernel
theorem dX0_exchangeLowest_25 : decode cX0_exchangeLowest 25 = .ok (.aload_n 3, 1) := by decide +kernel
theorem dX0_exchangeLowest_26 : decode cX0_exchangeLowest 26 = .ok (.ifnull 10, 3) := by decide +kernel
theorem dX0_exchangeLowest_29 : decode cX0_exchangeLowest 29 = .ok (.aload_n 3, 1) := by decide +kernel
theorem dX0_exchangeLowest_30 : decode cX0_exchangeLowest 30 = .ok (.invokevirtual 153, 3) := by decide +kernel
theorem dX0_exchangeLowest_33 : decode cX0_exchangeLowest 33 = .ok (.ifCond .ne 5, 3) := by decide +kernel
theorem dX0_exchangeLowest_36 : decode cX0_exchangeLowest 36 = .ok (.iconst 0, 1) := by decide +kernel
theorem dX0_exchangeLowest_37 : decode cX0_exchangeLowest 37 = .ok (.ireturn, 1) := by decide +kernel
theorem dX0_exchangeLowest_38 : decode cX0_exchangeLowest 38 = .ok (.aload_n 1, 1) := by decide +kernel
theorem dX0_exchangeLowest_39 : decode cX0_exchangeLowest 39 = .ok (.dup, 1) := by decide +kernel
theorem dX0_exchangeLowest_40 : decode cX0_exchangeLowest 40 = .ok (.getfield 125, 3) := by decide +kernel
theorem dX0_exchangeLowest_43 : decode cX0_exchangeLowest 43 = .ok (.iconst 1, 1) := by decide +kernel
theorem dX0_exchangeLowest_44 : decode cX0_exchangeLowest 44 = .ok (.iload_n 2, 1) := by decide +kernel
theorem dX0_exchangeLowest_45 : decode cX0_exchangeLowest 45 = .ok (.ishl, 1) := by decide +kernel
theorem dX0_exchangeLowest_46 : decode cX0_exchangeLowest 46 = .ok (.iconst (-1), 1) := by decide +kernel
theorem dX0_exchangeLowest_47 : decode cX0_exchangeLowest 47 = .ok (.ixor, 1) := by decide +kernel
theorem dX0_exchangeLowest_48 : decode cX0_exchangeLowest 48 = .ok (.iand, 1) := by decide +kernel
theorem dX0_exchangeLowest_49 : decode cX0_exchangeLowest 49 = .ok (.putfield 125, 3) := by decide +kernel
theorem dX0_exchangeLowest_52 : decode cX0_exchangeLowest 52 = .ok (.aload_n 1, 1) := by decide +kernel
theorem dX0_exchangeLowest_53 : decode cX0_exchangeLowest 53 = .ok (.dup, 1) := by decide +kernel
theorem dX0_exchangeLowest_54 : decode cX0_exchangeLowest 54 = .ok (.getfield 156, 3) := by decide +kernel
theorem dX0_exchangeLowest_57 : decode cX0_exchangeLowest 57 = .ok (.iconst 1, 1) := by decide +kernel
theorem dX0_exchangeLowest_58 : decode cX0_exchangeLowest 58 = .ok (.iadd, 1) := by decide +kernel
theorem dX0_exchangeLowest_59 : decode cX0_exchangeLowest 59 = .ok (.putfield 156, 3) := by decide +kernel
theorem dX0_exchangeLowest_62 : decode cX0_exchangeLowest 62 = .ok (.iconst 1, 1) := by decide +kernel
theorem dX0_exchangeLowest_63 : decode cX0_exchangeLowest 63 = .ok (.ireturn, 1) := by decide +kernel
theorem dX0_exchangeLowest_64 : decode cX0_exchangeLowest 64 = .ok (.iinc 2 1, 3) := by decide +kernel
theorem dX0_exchangeLowest_67 : decode cX0_exchangeLowest 67 = .ok (.goto (-65), 3) := by decide +kernel
theorem dX0_exchangeLowest_70 : decode cX0_exchangeLowest 70 = .ok (.iconst 0, 1) := by decide +kernel
theorem dX0_exchangeLowest_71 : decode cX0_exchangeLowest 71 = .ok (.ireturn, 1) := by decide +kernel
theorem dX0_strip_0 : decode cX0_strip 0 = .ok (.iconst 0, 1) := by decide +kernel
theorem dX0_strip_1 : decode cX0_strip 1 = .ok (.istore_n 2, 1) := by decide +kernel
theorem dX0_strip_2 : decode cX0_strip 2 = .ok (.aload_n 1, 1) := by decide +kernel
theorem dX0_strip_3 : decode cX0_strip 3 = .ok (.getfield 159, 3) := by decide +kernel
theorem dX0_strip_6 : decode cX0_strip 6 = .ok (.invokestatic 64, 3) := by decide +kernel
theorem dX0_strip_9 : decode cX0_strip 9 = .ok (.aload_n 1, 1) := by decide +kernel
theorem dX0_strip_10 : decode cX0_strip 10 = .ok (.getfield 125, 3) := by decide +kernel
theorem dX0_strip_13 : decode cX0_strip 13 = .ok (.iconst (-1), 1) := by decide +kernel
theorem dX0_strip_14 : decode cX0_strip 14 = .ok (.ixor, 1) := by decide +kernel
theorem dX0_strip_15 : decode cX0_strip 15 = .ok (.iand, 1) := by decide +kernel
theorem dX0_strip_16 : decode cX0_strip 16 = .ok (.istore_n 3, 1) := by decide +kernel
theorem dX0_strip_17 : decode cX0_strip 17 = .ok (.iconst 0, 1) := by decide +kernel
theorem dX0_strip_18 : decode cX0_strip 18 = .ok (.istore 4, 2) := by decide +kernel
theorem dX0_strip_20 : decode cX0_strip 20 = .ok (.iload 4, 2) := by decide +kernel
theorem dX0_strip_22 : decode cX0_strip 22 = .ok (.bipush 8, 2) := by decide +kernel
theorem dX0_strip_24 : decode cX0_strip 24 = .ok (.if_icmp .ge 42, 3) := by decide +kernel
theorem dX0_strip_27 : decode cX0_strip 27 = .ok (.aload_n 0, 1) := by decide +kernel
theorem dX0_strip_28 : decode cX0_strip 28 = .ok (.iload 4, 2) := by decide +kernel
theorem dX0_strip_30 : decode cX0_strip 30 = .ok (.invokevirtual 57, 3) := by decide +kernel
theorem dX0_strip_33 : decode cX0_strip 33 = .ok (.astore 5, 2) := by decide +kernel
theorem dX0_strip_35 : decode cX0_strip 35 = .ok (.aload 5, 2) := by decide +kernel
theorem dX0_strip_37 : decode cX0_strip 37 = .ok (.ifnull 23, 3) := by decide +kernel
theorem dX0_strip_40 : decode cX0_strip 40 = .ok (.iload_n 3, 1) := by decide +kernel
theorem dX0_strip_41 : decode cX0_strip 41 = .ok (.iload 4, 2) := by decide +kernel
theorem dX0_strip_43 : decode cX0_strip 43 = .ok (.invokestatic 150, 3) := by decide +kernel
theorem dX0_strip_46 : decode cX0_strip 46 = .ok (.ifCond .eq 14, 3) := by decide +kernel
theorem dX0_strip_49 : decode cX0_strip 49 = .ok (.aload 5, 2) := by decide +kernel
theorem dX0_strip_51 : decode cX0_strip 51 = .ok (.invokevirtual 162, 3) := by decide +kernel
theorem dX0_strip_54 : decode cX0_strip 54 = .ok (.ifCond .eq 6, 3) := by decide +kernel
theorem dX0_strip_57 : decode cX0_strip 57 = .ok (.iinc 2 1, 3) := by decide +kernel
theorem dX0_strip_60 : decode cX0_strip 60 = .ok (.iinc 4 1, 3) := by decide +kernel
theorem dX0_strip_63 : decode cX0_strip 63 = .ok (.goto (-43), 3) := by decide +kernel
theorem dX0_strip_66 : decode cX0_strip 66 = .ok (.aload_n 1, 1) := by decide +kernel
theorem dX0_strip_67 : decode cX0_strip 67 = .ok (.iconst 3, 1) := by decide +kernel
theorem dX0_strip_68 : decode cX0_strip 68 = .ok (.invokevirtual 144, 3) := by decide +kernel
theorem dX0_strip_71 : decode cX0_strip 71 = .ok (.iload_n 2, 1) := by decide +kernel
theorem dX0_strip_72 : decode cX0_strip 72 = .ok (.ireturn, 1) := by decide +kernel
theorem dX0_losePatience_0 : decode cX0_losePatience 0 = .ok (.iconst 0, 1) := by decide +kernel
theorem dX0_losePatience_1 : decode cX0_losePatience 1 = .ok (.istore_n 1, 1) := by decide +kernel
theorem dX0_losePatience_2 : decode cX0_losePatience 2 = .ok (.iload_n 1, 1) := by decide +kernel
theorem dX0_losePatience_3 : decode cX0_losePatience 3 = .ok (.aload_n 0, 1) := by decide +kernel
theorem dX0_losePatience_4 : decode cX0_losePatience 4 = .ok (.getfield 15, 3) := by decide +kernel
theorem dX0_losePatience_7 : decode cX0_losePatience 7 = .ok (.if_icmp .ge 48, 3) := by decide +kernel
theorem dX0_losePatience_10 : decode cX0_losePatience 10 = .ok (.aload_n 0, 1) := by decide +kernel
theorem dX0_losePatience_11 : decode cX0_losePatience 11 = .ok (.iload_n 1, 1) := by decide +kernel
theorem dX0_losePatience_12 : decode cX0_losePatience 12 = .ok (.invokevirtual 42, 3) := by decide +kernel
theorem dX0_losePatience_15 : decode cX0_losePatience 15 = .ok (.astore_n 2, 1) := by decide +kernel
theorem dX0_losePatience_16 : decode cX0_losePatience 16 = .ok (.aload_n 2, 1) := by decide +kernel
theorem dX0_losePatience_17 : decode cX0_losePatience 17 = .ok (.ifnull 32, 3) := by decide +kernel
theorem dX0_losePatience_20 : decode cX0_losePatience 20 = .ok (.aload_n 2, 1) := by decide +kernel
theorem dX0_losePatience_21 : decode cX0_losePatience 21 = .ok (.getfield 82, 3) := by decide +kernel
theorem dX0_losePatience_24 : decode cX0_losePatience 24 = .ok (.ifCond .ne 25, 3) := by decide +kernel
theorem dX0_losePatience_27 : decode cX0_losePatience 27 = .ok (.aload_n 2, 1) := by decide +kernel
theorem dX0_losePatience_28 : decode cX0_losePatience 28 = .ok (.dup, 1) := by decide +kernel
theorem dX0_losePatience_29 : decode cX0_losePatience 29 = .ok (.getfield 165, 3) := by decide +kernel
theorem dX0_losePatience_32 : decode cX0_losePatience 32 = .ok (.iconst 1, 1) := by decide +kernel
theorem dX0_losePatience_33 : decode cX0_losePatience 33 = .ok (.isub, 1) := by decide +kernel
theorem dX0_losePatience_34 : decode cX0_losePatience 34 = .ok (.putfield 165, 3) := by decide +kernel
theorem dX0_losePatience_37 : decode cX0_losePatience 37 = .ok (.aload_n 2, 1) := by decide +kernel
theorem dX0_losePatience_38 : decode cX0_losePatience 38 = .ok (.getfield 165, 3) := by decide +kernel
theorem dX0_losePatience_41 : decode cX0_losePatience 41 = .ok (.ifCond .gt 8, 3) := by decide +kernel
theorem dX0_losePatience_44 : decode cX0_losePatience 44 = .ok (.aload_n 2, 1) := by decide +kernel
theorem dX0_losePatience_45 : decode cX0_losePatience 45 = .ok (.iconst 4, 1) := by decide +kernel
theorem dX0_losePatience_46 : decode cX0_losePatience 46 = .ok (.invokevirtual 144, 3) := by decide +kernel
theorem dX0_losePatience_49 : decode cX0_losePatience 49 = .ok (.iinc 1 1, 3) := by decide +kernel
theorem dX0_losePatience_52 : decode cX0_losePatience 52 = .ok (.goto (-50), 3) := by decide +kernel
theorem dX0_losePatience_55 : decode cX0_losePatience 55 = .ok (.return_, 1) := by decide +kernel
theorem dX0_hasThingHere_0 : decode cX0_hasThingHere 0 = .ok (.iconst 0, 1) := by decide +kernel
theorem dX0_hasThingHere_1 : decode cX0_hasThingHere 1 = .ok (.istore_n 1, 1) := by decide +kernel
theorem dX0_hasThingHere_2 : decode cX0_hasThingHere 2 = .ok (.iload_n 1, 1) := by decide +kernel
theorem dX0_hasThingHere_3 : decode cX0_hasThingHere 3 = .ok (.aload_n 0, 1) := by decide +kernel
theorem dX0_hasThingHere_4 : decode cX0_hasThingHere 4 = .ok (.getfield 15, 3) := by decide +kernel
theorem dX0_hasThingHere_7 : decode cX0_hasThingHere 7 = .ok (.if_icmp .ge 28, 3) := by decide +kernel
theorem dX0_hasThingHere_10 : decode cX0_hasThingHere 10 = .ok (.aload_n 0, 1) := by decide +kernel
theorem dX0_hasThingHere_11 : decode cX0_hasThingHere 11 = .ok (.iload_n 1, 1) := by decide +kernel
theorem dX0_hasThingHere_12 : decode cX0_hasThingHere 12 = .ok (.invokevirtual 42, 3) := by decide +kernel
theorem dX0_hasThingHere_15 : decode cX0_hasThingHere 15 = .ok (.astore_n 2, 1) := by decide +kernel
theorem dX0_hasThingHere_16 : decode cX0_hasThingHere 16 = .ok (.aload_n 2, 1) := by decide +kernel
theorem dX0_hasThingHere_17 : decode cX0_hasThingHere 17 = .ok (.ifnull 12, 3) := by decide +kernel
theorem dX0_hasThingHere_20 : decode cX0_hasThingHere 20 = .ok (.aload_n 2, 1) := by decide +kernel
theorem dX0_hasThingHere_21 : decode cX0_hasThingHere 21 = .ok (.invokevirtual 168, 3) := by decide +kernel
theorem dX0_hasThingHere_24 : decode cX0_hasThingHere 24 = .ok (.ifCond .eq 5, 3) := by decide +kernel
theorem dX0_hasThingHere_27 : decode cX0_hasThingHere 27 = .ok (.iconst 1, 1) := by decide +kernel
theorem dX0_hasThingHere_28 : decode cX0_hasThingHere 28 = .ok (.ireturn, 1) := by decide +kernel
theorem dX0_hasThingHere_29 : decode cX0_hasThingHere 29 = .ok (.iinc 1 1, 3) := by decide +kernel
theorem dX0_hasThingHere_32 : decode cX0_hasThingHere 32 = .ok (.goto (-30), 3) := by decide +kernel
theorem dX0_hasThingHere_35 : decode cX0_hasThingHere 35 = .ok (.iconst 0, 1) := by decide +kernel
theorem dX0_hasThingHere_36 : decode cX0_hasThingHere 36 = .ok (.ireturn, 1) := by decide +kernel
theorem dX0_nextOf_0 : decode cX0_nextOf 0 = .ok (.bipush (-6), 2) := by decide +kernel
theorem dX0_nextOf_2 : decode cX0_nextOf 2 = .ok (.istore_n 2, 1) := by decide +kernel
theorem dX0_nextOf_3 : decode cX0_nextOf 3 = .ok (.bipush 100, 2) := by decide +kernel
theorem dX0_nextOf_5 : decode cX0_nextOf 5 = .ok (.istore_n 3, 1) := by decide +kernel
theorem dX0_nextOf_6 : decode cX0_nextOf 6 = .ok (.iconst 0, 1) := by decide +kernel
theorem dX0_nextOf_7 : decode cX0_nextOf 7 = .ok (.istore 4, 2) := by decide +kernel
theorem dX0_nextOf_9 : decode cX0_nextOf 9 = .ok (.iload 4, 2) := by decide +kernel
theorem dX0_nextOf_11 : decode cX0_nextOf 11 = .ok (.aload_n 0, 1) := by decide +kernel
theorem dX0_nextOf_12 : decode cX0_nextOf 12 = .ok (.getfield 15, 3) := by decide +kernel
theorem dX0_nextOf_15 : decode cX0_nextOf 15 = .ok (.if_icmp .ge 60, 3) := by decide +kernel
theorem dX0_nextOf_18 : decode cX0_nextOf 18 = .ok (.aload_n 0, 1) := by decide +kernel
theorem dX0_nextOf_19 : decode cX0_nextOf 19 = .ok (.iload 4, 2) := by decide +kernel
theorem dX0_nextOf_21 : decode cX0_nextOf 21 = .ok (.invokevirtual 42, 3) := by decide +kernel
theorem dX0_nextOf_24 : decode cX0_nextOf 24 = .ok (.astore 5, 2) := by decide +kernel
theorem dX0_nextOf_26 : decode cX0_nextOf 26 = .ok (.aload 5, 2) := by decide +kernel
theorem dX0_nextOf_28 : decode cX0_nextOf 28 = .ok (.ifnull 41, 3) := by decide +kernel
theorem dX0_nextOf_31 : decode cX0_nextOf 31 = .ok (.aload 5, 2) := by decide +kernel
theorem dX0_nextOf_33 : decode cX0_nextOf 33 = .ok (.getfield 82, 3) := by decide +kernel
theorem dX0_nextOf_36 : decode cX0_nextOf 36 = .ok (.ifCond .ne 33, 3) := by decide +kernel
theorem dX0_nextOf_39 : decode cX0_nextOf 39 = .ok (.iload_n 1, 1) := by decide +kernel
theorem dX0_nextOf_40 : decode cX0_nextOf 40 = .ok (.aload 5, 2) := by decide +kernel
theorem dX0_nextOf_42 : decode cX0_nextOf 42 = .ok (.getfield 159, 3) := by decide +kernel
theorem dX0_nextOf_45 : decode cX0_nextOf 45 = .ok (.invokestatic 150, 3) := by decide +kernel
theorem dX0_nextOf_48 : decode cX0_nextOf 48 = .ok (.ifCond .eq 21, 3) := by decide +kernel
theorem dX0_nextOf_51 : decode cX0_nextOf 51 = .ok (.aload 5, 2) := by decide +kernel
theorem dX0_nextOf_53 : decode cX0_nextOf 53 = .ok (.getfield 165, 3) := by decide +kernel
theorem dX0_nextOf_56 : decode cX0_nextOf 56 = .ok (.iload_n 3, 1) := by decide +kernel
theorem dX0_nextOf_57 : decode cX0_nextOf 57 = .ok (.if_icmp .ge 12, 3) := by decide +kernel
theorem dX0_nextOf_60 : decode cX0_nextOf 60 = .ok (.aload 5, 2) := by decide +kernel
theorem dX0_nextOf_62 : decode cX0_nextOf 62 = .ok (.getfield 165, 3) := by decide +kernel
theorem dX0_nextOf_65 : decode cX0_nextOf 65 = .ok (.istore_n 3, 1) := by decide +kernel
theorem dX0_nextOf_66 : decode cX0_nextOf 66 = .ok (.iload 4, 2) := by decide +kernel
theorem dX0_nextOf_68 : decode cX0_nextOf 68 = .ok (.istore_n 2, 1) := by decide +kernel
theorem dX0_nextOf_69 : decode cX0_nextOf 69 = .ok (.iinc 4 1, 3) := by decide +kernel
theorem dX0_nextOf_72 : decode cX0_nextOf 72 = .ok (.goto (-63), 3) := by decide +kernel
theorem dX0_nextOf_75 : decode cX0_nextOf 75 = .ok (.iload_n 2, 1) := by decide +kernel
theorem dX0_nextOf_76 : decode cX0_nextOf 76 = .ok (.ireturn, 1) := by decide +kernel
theorem dX0_placeOf_0 : decode cX0_placeOf 0 = .ok (.aload_n 0, 1) := by decide +kernel
theorem dX0_placeOf_1 : decode cX0_placeOf 1 = .ok (.iload_n 1, 1) := by decide +kernel
theorem dX0_placeOf_2 : decode cX0_placeOf 2 = .ok (.invokevirtual 42, 3) := by decide +kernel
theorem dX0_placeOf_5 : decode cX0_placeOf 5 = .ok (.astore_n 2, 1) := by decide +kernel
theorem dX0_placeOf_6 : decode cX0_placeOf 6 = .ok (.aload_n 2, 1) := by decide +kernel
theorem dX0_placeOf_7 : decode cX0_placeOf 7 = .ok (.ifnull 10, 3) := by decide +kernel
theorem dX0_placeOf_10 : decode cX0_placeOf 10 = .ok (.aload_n 2, 1) := by decide +kernel
theorem dX0_placeOf_11 : decode cX0_placeOf 11 = .ok (.getfield 82, 3) := by decide +kernel
theorem dX0_placeOf_14 : decode cX0_placeOf 14 = .ok (.ifCond .eq 6, 3) := by decide +kernel
theorem dX0_placeOf_17 : decode cX0_placeOf 17 = .ok (.bipush (-6), 2) := by decide +kernel
theorem dX0_placeOf_19 : decode cX0_placeOf 19 = .ok (.ireturn, 1) := by decide +kernel
theorem dX0_placeOf_20 : decode cX0_placeOf 20 = .ok (.iconst 0, 1) := by decide +kernel
theorem dX0_placeOf_21 : decode cX0_placeOf 21 = .ok (.istore_n 3, 1) := by decide +kernel
theorem dX0_placeOf_22 : decode cX0_placeOf 22 = .ok (.iconst 0, 1) := by decide +kernel
theorem dX0_placeOf_23 : decode cX0_placeOf 23 = .ok (.istore 4, 2) := by decide +kernel
theorem dX0_placeOf_25 : decode cX0_placeOf 25 = .ok (.iload 4, 2) := by decide +kernel
theorem dX0_placeOf_27 : decode cX0_placeOf 27 = .ok (.aload_n 0, 1) := by decide +kernel
theorem dX0_placeOf_28 : decode cX0_placeOf 28 = .ok (.getfield 15, 3) := by decide +kernel
theorem dX0_placeOf_31 : decode cX0_placeOf 31 = .ok (.if_icmp .ge 66, 3) := by decide +kernel
theorem dX0_placeOf_34 : decode cX0_placeOf 34 = .ok (.aload_n 0, 1) := by decide +kernel
theorem dX0_placeOf_35 : decode cX0_placeOf 35 = .ok (.iload 4, 2) := by decide +kernel
theorem dX0_placeOf_37 : decode cX0_placeOf 37 = .ok (.invokevirtual 42, 3) := by decide +kernel
theorem dX0_placeOf_40 : decode cX0_placeOf 40 = .ok (.astore 5, 2) := by decide +kernel
theorem dX0_placeOf_42 : decode cX0_placeOf 42 = .ok (.aload 5, 2) := by decide +kernel
theorem dX0_placeOf_44 : decode cX0_placeOf 44 = .ok (.ifnull 47, 3) := by decide +kernel
theorem dX0_placeOf_47 : decode cX0_placeOf 47 = .ok (.aload 5, 2) := by decide +kernel
theorem dX0_placeOf_49 : decode cX0_placeOf 49 = .ok (.getfield 82, 3) := by decide +kernel
theorem dX0_placeOf_52 : decode cX0_placeOf 52 = .ok (.ifCond .eq 6, 3) := by decide +kernel
theorem dX0_placeOf_55 : decode cX0_placeOf 55 = .ok (.goto 36, 3) := by decide +kernel
theorem dX0_placeOf_58 : decode cX0_placeOf 58 = .ok (.aload 5, 2) := by decide +kernel
theorem dX0_placeOf_60 : decode cX0_placeOf 60 = .ok (.getfield 165, 3) := by decide +kernel
theorem dX0_placeOf_63 : decode cX0_placeOf 63 = .ok (.aload_n 2, 1) := by decide +kernel
theorem dX0_placeOf_64 : decode cX0_placeOf 64 = .ok (.getfield 165, 3) := by decide +kernel
theorem dX0_placeOf_67 : decode cX0_placeOf 67 = .ok (.if_icmp .lt 21, 3) := by decide +kernel
theorem dX0_placeOf_70 : decode cX0_placeOf 70 = .ok (.aload 5, 2) := by decide +kernel
theorem dX0_placeOf_72 : decode cX0_placeOf 72 = .ok (.getfield 165, 3) := by decide +kernel
theorem dX0_placeOf_75 : decode cX0_placeOf 75 = .ok (.aload_n 2, 1) := by decide +kernel
theorem dX0_placeOf_76 : decode cX0_placeOf 76 = .ok (.getfield 165, 3) := by decide +kernel
theorem dX0_placeOf_79 : decode cX0_placeOf 79 = .ok (.if_icmp .ne 12, 3) := by decide +kernel
theorem dX0_placeOf_82 : decode cX0_placeOf 82 = .ok (.iload 4, 2) := by decide +kernel
theorem dX0_placeOf_84 : decode cX0_placeOf 84 = .ok (.iload_n 1, 1) := by decide +kernel
theorem dX0_placeOf_85 : decode cX0_placeOf 85 = .ok (.if_icmp .ge 6, 3) := by decide +kernel
theorem dX0_placeOf_88 : decode cX0_placeOf 88 = .ok (.iinc 3 1, 3) := by decide +kernel
theorem dX0_placeOf_91 : decode cX0_placeOf 91 = .ok (.iinc 4 1, 3) := by decide +kernel
theorem dX0_placeOf_94 : decode cX0_placeOf 94 = .ok (.goto (-69), 3) := by decide +kernel
theorem dX0_placeOf_97 : decode cX0_placeOf 97 = .ok (.iload_n 3, 1) := by decide +kernel
theorem dX0_placeOf_98 : decode cX0_placeOf 98 = .ok (.ireturn, 1) := by decide +kernel
theorem dX0_thingsThatAre_0 : decode cX0_thingsThatAre 0 = .ok (.iconst 0, 1) := by decide +kernel
theorem dX0_thingsThatAre_1 : decode cX0_thingsThatAre 1 = .ok (.istore_n 2, 1) := by decide +kernel
theorem dX0_thingsThatAre_2 : decode cX0_thingsThatAre 2 = .ok (.iconst 0, 1) := by decide +kernel
theorem dX0_thingsThatAre_3 : decode cX0_thingsThatAre 3 = .ok (.istore_n 3, 1) := by decide +kernel
theorem dX0_thingsThatAre_4 : decode cX0_thingsThatAre 4 = .ok (.iload_n 3, 1) := by decide +kernel
theorem dX0_thingsThatAre_5 : decode cX0_thingsThatAre 5 = .ok (.aload_n 0, 1) := by decide +kernel
theorem dX0_thingsThatAre_6 : decode cX0_thingsThatAre 6 = .ok (.getfield 15, 3) := by decide +kernel
theorem dX0_thingsThatAre_9 : decode cX0_thingsThatAre 9 = .ok (.if_icmp .ge 33, 3) := by decide +kernel
theorem dX0_thingsThatAre_12 : decode cX0_thingsThatAre 12 = .ok (.aload_n 0, 1) := by decide +kernel
theorem dX0_thingsThatAre_13 : decode cX0_thingsThatAre 13 = .ok (.iload_n 3, 1) := by decide +kernel
theorem dX0_thingsThatAre_14 : decode cX0_thingsThatAre 14 = .ok (.invokevirtual 42, 3) := by decide +kernel
theorem dX0_thingsThatAre_17 : decode cX0_thingsThatAre 17 = .ok (.astore 4, 2) := by decide +kernel
theorem dX0_thingsThatAre_19 : decode cX0_thingsThatAre 19 = .ok (.aload 4, 2) := by decide +kernel
theorem dX0_thingsThatAre_21 : decode cX0_thingsThatAre 21 = .ok (.ifnull 15, 3) := by decide +kernel
theorem dX0_thingsThatAre_24 : decode cX0_thingsThatAre 24 = .ok (.aload 4, 2) := by decide +kernel
theorem dX0_thingsThatAre_26 : decode cX0_thingsThatAre 26 = .ok (.getfield 82, 3) := by decide +kernel
theorem dX0_thingsThatAre_29 : decode cX0_thingsThatAre 29 = .ok (.iload_n 1, 1) := by decide +kernel
theorem dX0_thingsThatAre_30 : decode cX0_thingsThatAre 30 = .ok (.if_icmp .ne 6, 3) := by decide +kernel
theorem dX0_thingsThatAre_33 : decode cX0_thingsThatAre 33 = .ok (.iinc 2 1, 3) := by decide +kernel
theorem dX0_thingsThatAre_36 : decode cX0_thingsThatAre 36 = .ok (.iinc 3 1, 3) := by decide +kernel
theorem dX0_thingsThatAre_39 : decode cX0_thingsThatAre 39 = .ok (.goto (-35), 3) := by decide +kernel
theorem dX0_thingsThatAre_42 : decode cX0_thingsThatAre 42 = .ok (.iload_n 2, 1) := by decide +kernel
theorem dX0_thingsThatAre_43 : decode cX0_thingsThatAre 43 = .ok (.ireturn, 1) := by decide +kernel
theorem dX0_brokenOnes_0 : decode cX0_brokenOnes 0 = .ok (.iconst 0, 1) := by decide +kernel
theorem dX0_brokenOnes_1 : decode cX0_brokenOnes 1 = .ok (.istore_n 2, 1) := by decide +kernel
theorem dX0_brokenOnes_2 : decode cX0_brokenOnes 2 = .ok (.iconst 0, 1) := by decide +kernel
theorem dX0_brokenOnes_3 : decode cX0_brokenOnes 3 = .ok (.istore_n 3, 1) := by decide +kernel
theorem dX0_brokenOnes_4 : decode cX0_brokenOnes 4 = .ok (.iload_n 3, 1) := by decide +kernel
theorem dX0_brokenOnes_5 : decode cX0_brokenOnes 5 = .ok (.aload_n 0, 1) := by decide +kernel
theorem dX0_brokenOnes_6 : decode cX0_brokenOnes 6 = .ok (.getfield 15, 3) := by decide +kernel
theorem dX0_brokenOnes_9 : decode cX0_brokenOnes 9 = .ok (.if_icmp .ge 44, 3) := by decide +kernel
theorem dX0_brokenOnes_12 : decode cX0_brokenOnes 12 = .ok (.aload_n 0, 1) := by decide +kernel
theorem dX0_brokenOnes_13 : decode cX0_brokenOnes 13 = .ok (.iload_n 3, 1) := by decide +kernel
theorem dX0_brokenOnes_14 : decode cX0_brokenOnes 14 = .ok (.invokevirtual 42, 3) := by decide +kernel
theorem dX0_brokenOnes_17 : decode cX0_brokenOnes 17 = .ok (.astore 4, 2) := by decide +kernel
theorem dX0_brokenOnes_19 : decode cX0_brokenOnes 19 = .ok (.aload 4, 2) := by decide +kernel
theorem dX0_brokenOnes_21 : decode cX0_brokenOnes 21 = .ok (.ifnull 26, 3) := by decide +kernel
theorem dX0_brokenOnes_24 : decode cX0_brokenOnes 24 = .ok (.aload 4, 2) := by decide +kernel
theorem dX0_brokenOnes_26 : decode cX0_brokenOnes 26 = .ok (.invokevirtual 168, 3) := by decide +kernel
theorem dX0_brokenOnes_29 : decode cX0_brokenOnes 29 = .ok (.ifCond .eq 18, 3) := by decide +kernel
theorem dX0_brokenOnes_32 : decode cX0_brokenOnes 32 = .ok (.aload 4, 2) := by decide +kernel
theorem dX0_brokenOnes_34 : decode cX0_brokenOnes 34 = .ok (.getfield 125, 3) := by decide +kernel
theorem dX0_brokenOnes_37 : decode cX0_brokenOnes 37 = .ok (.iload_n 1, 1) := by decide +kernel
theorem dX0_brokenOnes_38 : decode cX0_brokenOnes 38 = .ok (.invokestatic 150, 3) := by decide +kernel
theorem dX0_brokenOnes_41 : decode cX0_brokenOnes 41 = .ok (.ifCond .eq 6, 3) := by decide +kernel
theorem dX0_brokenOnes_44 : decode cX0_brokenOnes 44 = .ok (.iinc 2 1, 3) := by decide +kernel
theorem dX0_brokenOnes_47 : decode cX0_brokenOnes 47 = .ok (.iinc 3 1, 3) := by decide +kernel
theorem dX0_brokenOnes_50 : decode cX0_brokenOnes 50 = .ok (.goto (-46), 3) := by decide +kernel
theorem dX0_brokenOnes_53 : decode cX0_brokenOnes 53 = .ok (.iload_n 2, 1) := by decide +kernel
theorem dX0_brokenOnes_54 : decode cX0_brokenOnes 54 = .ok (.ireturn, 1) := by decide +kernel
theorem dX0_missingOnes_0 : decode cX0_missingOnes 0 = .ok (.aload_n 0, 1) := by decide +kernel
theorem dX0_missingOnes_1 : decode cX0_missingOnes 1 = .ok (.iload_n 1, 1) := by decide +kernel
theorem dX0_missingOnes_2 : decode cX0_missingOnes 2 = .ok (.invokevirtual 57, 3) := by decide +kernel
theorem dX0_missingOnes_5 : decode cX0_missingOnes 5 = .ok (.astore_n 2, 1) := by decide +kernel
theorem dX0_missingOnes_6 : decode cX0_missingOnes 6 = .ok (.aload_n 2, 1) := by decide +kernel
theorem dX0_missingOnes_7 : decode cX0_missingOnes 7 = .ok (.ifnonnull 7, 3) := by decide +kernel
theorem dX0_missingOnes_10 : decode cX0_missingOnes 10 = .ok (.iconst 0, 1) := by decide +kernel
theorem dX0_missingOnes_11 : decode cX0_missingOnes 11 = .ok (.goto 13, 3) := by decide +kernel
theorem dX0_missingOnes_14 : decode cX0_missingOnes 14 = .ok (.aload_n 0, 1) := by decide +kernel
theorem dX0_missingOnes_15 : decode cX0_missingOnes 15 = .ok (.iload_n 1, 1) := by decide +kernel
theorem dX0_missingOnes_16 : decode cX0_missingOnes 16 = .ok (.invokevirtual 171, 3) := by decide +kernel
theorem dX0_missingOnes_19 : decode cX0_missingOnes 19 = .ok (.aload_n 2, 1) := by decide +kernel
theorem dX0_missingOnes_20 : decode cX0_missingOnes 20 = .ok (.getfield 79, 3) := by decide +kernel
theorem dX0_missingOnes_23 : decode cX0_missingOnes 23 = .ok (.isub, 1) := by decide +kernel
theorem dX0_missingOnes_24 : decode cX0_missingOnes 24 = .ok (.ireturn, 1) := by decide +kernel
theorem dX1_init_0 : decode cX1_init 0 = .ok (.aload_n 0, 1) := by decide +kernel
theorem dX1_init_1 : decode cX1_init 1 = .ok (.invokespecial 3, 3) := by decide +kernel
theorem dX1_init_4 : decode cX1_init 4 = .ok (.aload_n 0, 1) := by decide +kernel
theorem dX1_init_5 : decode cX1_init 5 = .ok (.iconst 0, 1) := by decide +kernel
theorem dX1_init_6 : decode cX1_init 6 = .ok (.putfield 9, 3) := by decide +kernel
theorem dX1_init_9 : decode cX1_init 9 = .ok (.aload_n 0, 1) := by decide +kernel
theorem dX1_init_10 : decode cX1_init 10 = .ok (.iconst 0, 1) := by decide +kernel
theorem dX1_init_11 : decode cX1_init 11 = .ok (.putfield 15, 3) := by decide +kernel
theorem dX1_init_14 : decode cX1_init 14 = .ok (.aload_n 0, 1) := by decide +kernel
theorem dX1_init_15 : decode cX1_init 15 = .ok (.bipush (-6), 2) := by decide +kernel
theorem dX1_init_17 : decode cX1_init 17 = .ok (.putfield 18, 3) := by decide +kernel
theorem dX1_init_20 : decode cX1_init 20 = .ok (.aload_n 0, 1) := by decide +kernel
theorem dX1_init_21 : decode cX1_init 21 = .ok (.iconst 0, 1) := by decide +kernel
theorem dX1_init_22 : decode cX1_init 22 = .ok (.putfield 21, 3) := by decide +kernel
theorem dX1_init_25 : decode cX1_init 25 = .ok (.aload_n 0, 1) := by decide +kernel
theorem dX1_init_26 : decode cX1_init 26 = .ok (.iconst 0, 1) := by decide +kernel
theorem dX1_init_27 : decode cX1_init 27 = .ok (.putfield 24, 3) := by decide +kernel
theorem dX1_init_30 : decode cX1_init 30 = .ok (.aload_n 0, 1) := by decide +kernel
theorem dX1_init_31 : decode cX1_init 31 = .ok (.iconst 0, 1) := by decide +kernel
theorem dX1_init_32 : decode cX1_init 32 = .ok (.putfield 27, 3) := by decide +kernel
theorem dX1_init_35 : decode cX1_init 35 = .ok (.return_, 1) := by decide +kernel
theorem dX1_come_0 : decode cX1_come 0 = .ok (.aload_n 0, 1) := by decide +kernel
theorem dX1_come_1 : decode cX1_come 1 = .ok (.iload_n 1, 1) := by decide +kernel
theorem dX1_come_2 : decode cX1_come 2 = .ok (.putfield 9, 3) := by decide +kernel
theorem dX1_come_5 : decode cX1_come 5 = .ok (.aload_n 0, 1) := by decide +kernel
theorem dX1_come_6 : decode cX1_come 6 = .ok (.iload_n 2, 1) := by decide +kernel
theorem dX1_come_7 : decode cX1_come 7 = .ok (.putfield 15, 3) := by decide +kernel
theorem dX1_come_10 : decode cX1_come 10 = .ok (.aload_n 0, 1) := by decide +kernel
theorem dX1_come_11 : decode cX1_come 11 = .ok (.bipush (-6), 2) := by decide +kernel
theorem dX1_come_13 : decode cX1_come 13 = .ok (.putfield 18, 3) := by decide +kernel
theorem dX1_come_16 : decode cX1_come 16 = .ok (.aload_n 0, 1) := by decide +kernel
theorem dX1_come_17 : decode cX1_come 17 = .ok (.iconst 0, 1) := by decide +kernel
theorem dX1_come_18 : decode cX1_come 18 = .ok (.putfield 21, 3) := by decide +kernel
theorem dX1_come_21 : decode cX1_come 21 = .ok (.aload_n 0, 1) := by decide +kernel
theorem dX1_come_22 : decode cX1_come 22 = .ok (.iconst 0, 1) := by decide +kernel
theorem dX1_come_23 : decode cX1_come 23 = .ok (.putfield 24, 3) := by decide +kernel
theorem dX1_come_26 : decode cX1_come 26 = .ok (.aload_n 0, 1) := by decide +kernel
theorem dX1_come_27 : decode cX1_come 27 = .ok (.iconst 0, 1) := by decide +kernel
theorem dX1_come_28 : decode cX1_come 28 = .ok (.putfield 27, 3) := by decide +kernel
theorem dX1_come_31 : decode cX1_come 31 = .ok (.return_, 1) := by decide +kernel
theorem dX1_copyFrom_0 : decode cX1_copyFrom 0 = .ok (.aload_n 1, 1) := by decide +kernel
theorem dX1_copyFrom_1 : decode cX1_copyFrom 1 = .ok (.ifnonnull 4, 3) := by decide +kernel
theorem dX1_copyFrom_4 : decode cX1_copyFrom 4 = .ok (.return_, 1) := by decide +kernel
theorem dX1_copyFrom_5 : decode cX1_copyFrom 5 = .ok (.aload_n 0, 1) := by decide +kernel
theorem dX1_copyFrom_6 : decode cX1_copyFrom 6 = .ok (.aload_n 1, 1) := by decide +kernel
theorem dX1_copyFrom_7 : decode cX1_copyFrom 7 = .ok (.getfield 9, 3) := by decide +kernel
theorem dX1_copyFrom_10 : decode cX1_copyFrom 10 = .ok (.putfield 9, 3) := by decide +kernel
theorem dX1_copyFrom_13 : decode cX1_copyFrom 13 = .ok (.aload_n 0, 1) := by decide +kernel
theorem dX1_copyFrom_14 : decode cX1_copyFrom 14 = .ok (.aload_n 1, 1) := by decide +kernel
theorem dX1_copyFrom_15 : decode cX1_copyFrom 15 = .ok (.getfield 15, 3) := by decide +kernel
theorem dX1_copyFrom_18 : decode cX1_copyFrom 18 = .ok (.putfield 15, 3) := by decide +kernel
theorem dX1_copyFrom_21 : decode cX1_copyFrom 21 = .ok (.aload_n 0, 1) := by decide +kernel
theorem dX1_copyFrom_22 : decode cX1_copyFrom 22 = .ok (.aload_n 1, 1) := by decide +kernel
theorem dX1_copyFrom_23 : decode cX1_copyFrom 23 = .ok (.getfield 18, 3) := by decide +kernel
theorem dX1_copyFrom_26 : decode cX1_copyFrom 26 = .ok (.putfield 18, 3) := by decide +kernel
theorem dX1_copyFrom_29 : decode cX1_copyFrom 29 = .ok (.aload_n 0, 1) := by decide +kernel
theorem dX1_copyFrom_30 : decode cX1_copyFrom 30 = .ok (.aload_n 1, 1) := by decide +kernel
theorem dX1_copyFrom_31 : decode cX1_copyFrom 31 = .ok (.getfield 21, 3) := by decide +kernel
theorem dX1_copyFrom_34 : decode cX1_copyFrom 34 = .ok (.putfield 21, 3) := by decide +kernel
theorem dX1_copyFrom_37 : decode cX1_copyFrom 37 = .ok (.aload_n 0, 1) := by decide +kernel
theorem dX1_copyFrom_38 : decode cX1_copyFrom 38 = .ok (.aload_n 1, 1) := by decide +kernel
theorem dX1_copyFrom_39 : decode cX1_copyFrom 39 = .ok (.getfield 24, 3) := by decide +kernel
theorem dX1_copyFrom_42 : decode cX1_copyFrom 42 = .ok (.putfield 24, 3) := by decide +kernel
theorem dX1_copyFrom_45 : decode cX1_copyFrom 45 = .ok (.aload_n 0, 1) := by decide +kernel
theorem dX1_copyFrom_46 : decode cX1_copyFrom 46 = .ok (.aload_n 1, 1) := by decide +kernel
theorem dX1_copyFrom_47 : decode cX1_copyFrom 47 = .ok (.getfield 27, 3) := by decide +kernel
theorem dX1_copyFrom_50 : decode cX1_copyFrom 50 = .ok (.putfield 27, 3) := by decide +kernel
theorem dX1_copyFrom_53 : decode cX1_copyFrom 53 = .ok (.return_, 1) := by decide +kernel
theorem dX2_init_0 : decode cX2_init 0 = .ok (.aload_n 0, 1) := by decide +kernel
theorem dX2_init_1 : decode cX2_init 1 = .ok (.invokespecial 3, 3) := by decide +kernel
theorem dX2_init_4 : decode cX2_init 4 = .ok (.aload_n 0, 1) := by decide +kernel
theorem dX2_init_5 : decode cX2_init 5 = .ok (.iconst 0, 1) := by decide +kernel
theorem dX2_init_6 : decode cX2_init 6 = .ok (.putfield 9, 3) := by decide +kernel
theorem dX2_init_9 : decode cX2_init 9 = .ok (.aload_n 0, 1) := by decide +kernel
theorem dX2_init_10 : decode cX2_init 10 = .ok (.iconst 0, 1) := by decide +kernel
theorem dX2_init_11 : decode cX2_init 11 = .ok (.putfield 15, 3) := by decide +kernel
theorem dX2_init_14 : decode cX2_init 14 = .ok (.aload_n 0, 1) := by decide +kernel
theorem dX2_init_15 : decode cX2_init 15 = .ok (.iconst 0, 1) := by decide +kernel
theorem dX2_init_16 : decode cX2_init 16 = .ok (.putfield 18, 3) := by decide +kernel
theorem dX2_init_19 : decode cX2_init 19 = .ok (.aload_n 0, 1) := by decide +kernel
theorem dX2_init_20 : decode cX2_init 20 = .ok (.iconst 0, 1) := by decide +kernel
theorem dX2_init_21 : decode cX2_init 21 = .ok (.putfield 21, 3) := by decide +kernel
theorem dX2_init_24 : decode cX2_init 24 = .ok (.aload_n 0, 1) := by decide +kernel
theorem dX2_init_25 : decode cX2_init 25 = .ok (.iconst 0, 1) := by decide +kernel
theorem dX2_init_26 : decode cX2_init 26 = .ok (.putfield 24, 3) := by decide +kernel
theorem dX2_init_29 : decode cX2_init 29 = .ok (.aload_n 0, 1) := by decide +kernel
theorem dX2_init_30 : decode cX2_init 30 = .ok (.iconst 0, 1) := by decide +kernel
theorem dX2_init_31 : decode cX2_init 31 = .ok (.putfield 27, 3) := by decide +kernel
theorem dX2_init_34 : decode cX2_init 34 = .ok (.aload_n 0, 1) := by decide +kernel
theorem dX2_init_35 : decode cX2_init 35 = .ok (.iconst 0, 1) := by decide +kernel
theorem dX2_init_36 : decode cX2_init 36 = .ok (.putfield 30, 3) := by decide +kernel
theorem dX2_init_39 : decode cX2_init 39 = .ok (.aload_n 0, 1) := by decide +kernel
theorem dX2_init_40 : decode cX2_init 40 = .ok (.bipush 80, 2) := by decide +kernel
theorem dX2_init_42 : decode cX2_init 42 = .ok (.newarray .char, 2) := by decide +kernel
theorem dX2_init_44 : decode cX2_init 44 = .ok (.putfield 33, 3) := by decide +kernel
theorem dX2_init_47 : decode cX2_init 47 = .ok (.return_, 1) := by decide +kernel
theorem dX2_append_0 : decode cX2_append 0 = .ok (.aload_n 0, 1) := by decide +kernel
theorem dX2_append_1 : decode cX2_append 1 = .ok (.getfield 9, 3) := by decide +kernel
theorem dX2_append_4 : decode cX2_append 4 = .ok (.ifCond .lt 36, 3) := by decide +kernel
theorem dX2_append_7 : decode cX2_append 7 = .ok (.aload_n 0, 1) := by decide +kernel
theorem dX2_append_8 : decode cX2_append 8 = .ok (.getfield 9, 3) := by decide +kernel
theorem dX2_append_11 : decode cX2_append 11 = .ok (.aload_n 0, 1) := by decide +kernel
theorem dX2_append_12 : decode cX2_append 12 = .ok (.getfield 33, 3) := by decide +kernel
theorem dX2_append_15 : decode cX2_append 15 = .ok (.arraylength, 1) := by decide +kernel
theorem dX2_append_16 : decode cX2_append 16 = .ok (.if_icmp .ge 24, 3) := by decide +kernel
theorem dX2_append_19 : decode cX2_append 19 = .ok (.aload_n 0, 1) := by decide +kernel
theorem dX2_append_20 : decode cX2_append 20 = .ok (.getfield 33, 3) := by decide +kernel
theorem dX2_append_23 : decode cX2_append 23 = .ok (.aload_n 0, 1) := by decide +kernel
theorem dX2_append_24 : decode cX2_append 24 = .ok (.getfield 9, 3) := by decide +kernel
theorem dX2_append_27 : decode cX2_append 27 = .ok (.iload_n 1, 1) := by decide +kernel
theorem dX2_append_28 : decode cX2_append 28 = .ok (.i2c, 1) := by decide +kernel
theorem dX2_append_29 : decode cX2_append 29 = .ok (.castore, 1) := by decide +kernel
theorem dX2_append_30 : decode cX2_append 30 = .ok (.aload_n 0, 1) := by decide +kernel
theorem dX2_append_31 : decode cX2_append 31 = .ok (.dup, 1) := by decide +kernel
theorem dX2_append_32 : decode cX2_append 32 = .ok (.getfield 9, 3) := by decide +kernel
theorem dX2_append_35 : decode cX2_append 35 = .ok (.iconst 1, 1) := by decide +kernel
theorem dX2_append_36 : decode cX2_append 36 = .ok (.iadd, 1) := by decide +kernel
theorem dX2_append_37 : decode cX2_append 37 = .ok (.putfield 9, 3) := by decide +kernel
theorem dX2_append_40 : decode cX2_append 40 = .ok (.return_, 1) := by decide +kernel
theorem dX2_sign_0 : decode cX2_sign 0 = .ok (.aload_n 0, 1) := by decide +kernel
theorem dX2_sign_1 : decode cX2_sign 1 = .ok (.getfield 15, 3) := by decide +kernel
theorem dX2_sign_4 : decode cX2_sign 4 = .ok (.ifCond .lt 38, 3) := by decide +kernel
theorem dX2_sign_7 : decode cX2_sign 7 = .ok (.aload_n 0, 1) := by decide +kernel
theorem dX2_sign_8 : decode cX2_sign 8 = .ok (.getfield 15, 3) := by decide +kernel
theorem dX2_sign_11 : decode cX2_sign 11 = .ok (.aload_n 0, 1) := by decide +kernel
theorem dX2_sign_12 : decode cX2_sign 12 = .ok (.getfield 9, 3) := by decide +kernel
theorem dX2_sign_15 : decode cX2_sign 15 = .ok (.if_icmp .ge 27, 3) := by decide +kernel
theorem dX2_sign_18 : decode cX2_sign 18 = .ok (.aload_n 0, 1) := by decide +kernel
theorem dX2_sign_19 : decode cX2_sign 19 = .ok (.getfield 15, 3) := by decide +kernel
theorem dX2_sign_22 : decode cX2_sign 22 = .ok (.aload_n 0, 1) := by decide +kernel
theorem dX2_sign_23 : decode cX2_sign 23 = .ok (.getfield 33, 3) := by decide +kernel
theorem dX2_sign_26 : decode cX2_sign 26 = .ok (.arraylength, 1) := by decide +kernel
theorem dX2_sign_27 : decode cX2_sign 27 = .ok (.if_icmp .ge 15, 3) := by decide +kernel
theorem dX2_sign_30 : decode cX2_sign 30 = .ok (.aload_n 0, 1) := by decide +kernel
theorem dX2_sign_31 : decode cX2_sign 31 = .ok (.getfield 33, 3) := by decide +kernel
theorem dX2_sign_34 : decode cX2_sign 34 = .ok (.aload_n 0, 1) := by decide +kernel
theorem dX2_sign_35 : decode cX2_sign 35 = .ok (.getfield 15, 3) := by decide +kernel
theorem dX2_sign_38 : decode cX2_sign 38 = .ok (.caload, 1) := by decide +kernel
theorem dX2_sign_39 : decode cX2_sign 39 = .ok (.goto 4, 3) := by decide +kernel
theorem dX2_sign_42 : decode cX2_sign 42 = .ok (.iconst 0, 1) := by decide +kernel
theorem dX2_sign_43 : decode cX2_sign 43 = .ok (.ireturn, 1) := by decide +kernel
theorem dX2_begin_0 : decode cX2_begin 0 = .ok (.aload_n 0, 1) := by decide +kernel
theorem dX2_begin_1 : decode cX2_begin 1 = .ok (.iconst 0, 1) := by decide +kernel
theorem dX2_begin_2 : decode cX2_begin 2 = .ok (.putfield 15, 3) := by decide +kernel
theorem dX2_begin_5 : decode cX2_begin 5 = .ok (.return_, 1) := by decide +kernel
theorem dX2_isAtEnd_0 : decode cX2_isAtEnd 0 = .ok (.aload_n 0, 1) := by decide +kernel
theorem dX2_isAtEnd_1 : decode cX2_isAtEnd 1 = .ok (.getfield 15, 3) := by decide +kernel
theorem dX2_isAtEnd_4 : decode cX2_isAtEnd 4 = .ok (.aload_n 0, 1) := by decide +kernel
theorem dX2_isAtEnd_5 : decode cX2_isAtEnd 5 = .ok (.getfield 9, 3) := by decide +kernel
theorem dX2_isAtEnd_8 : decode cX2_isAtEnd 8 = .ok (.if_icmp .lt 7, 3) := by decide +kernel
theorem dX2_isAtEnd_11 : decode cX2_isAtEnd 11 = .ok (.iconst 1, 1) := by decide +kernel
theorem dX2_isAtEnd_12 : decode cX2_isAtEnd 12 = .ok (.goto 4, 3) := by decide +kernel
theorem dX2_isAtEnd_15 : decode cX2_isAtEnd 15 = .ok (.iconst 0, 1) := by decide +kernel
theorem dX2_isAtEnd_16 : decode cX2_isAtEnd 16 = .ok (.ireturn, 1) := by decide +kernel
theorem dX2_readOrder_0 : decode cX2_readOrder 0 = .ok (.aload_n 0, 1) := by decide +kernel
theorem dX2_readOrder_1 : decode cX2_readOrder 1 = .ok (.aload_n 0, 1) := by decide +kernel
theorem dX2_readOrder_2 : decode cX2_readOrder 2 = .ok (.invokevirtual 37, 3) := by decide +kernel
theorem dX2_readOrder_5 : decode cX2_readOrder 5 = .ok (.putfield 18, 3) := by decide +kernel
theorem dX2_readOrder_8 : decode cX2_readOrder 8 = .ok (.aload_n 0, 1) := by decide +kernel
theorem dX2_readOrder_9 : decode cX2_readOrder 9 = .ok (.iconst 0, 1) := by decide +kernel
theorem dX2_readOrder_10 : decode cX2_readOrder 10 = .ok (.putfield 21, 3) := by decide +kernel
theorem dX2_readOrder_13 : decode cX2_readOrder 13 = .ok (.aload_n 0, 1) := by decide +kernel
theorem dX2_readOrder_14 : decode cX2_readOrder 14 = .ok (.iconst 0, 1) := by decide +kernel
theorem dX2_readOrder_15 : decode cX2_readOrder 15 = .ok (.putfield 24, 3) := by decide +kernel
theorem dX2_readOrder_18 : decode cX2_readOrder 18 = .ok (.aload_n 0, 1) := by decide +kernel
theorem dX2_readOrder_19 : decode cX2_readOrder 19 = .ok (.iconst 0, 1) := by decide +kernel
theorem dX2_readOrder_20 : decode cX2_readOrder 20 = .ok (.putfield 27, 3) := by decide +kernel
theorem dX2_readOrder_23 : decode cX2_readOrder 23 = .ok (.aload_n 0, 1) := by decide +kernel
theorem dX2_readOrder_24 : decode cX2_readOrder 24 = .ok (.iconst 0, 1) := by decide +kernel
theorem dX2_readOrder_25 : decode cX2_readOrder 25 = .ok (.putfield 30, 3) := by decide +kernel
theorem dX2_readOrder_28 : decode cX2_readOrder 28 = .ok (.aload_n 0, 1) := by decide +kernel
theorem dX2_readOrder_29 : decode cX2_readOrder 29 = .ok (.getfield 18, 3) := by decide +kernel
theorem dX2_readOrder_32 : decode cX2_readOrder 32 = .ok (.lookupswitch 169 #[(43, 44), (100, 107), (102, 66), (116, 147)], 44) := by decide +kernel
theorem dX2_readOrder_76 : decode cX2_readOrder 76 = .ok (.aload_n 0, 1) := by decide +kernel
theorem dX2_readOrder_77 : decode cX2_readOrder 77 = .ok (.bipush 43, 2) := by decide +kernel
theorem dX2_readOrder_79 : decode cX2_readOrder 79 = .ok (.invokevirtual 41, 3) := by decide +kernel
theorem dX2_readOrder_82 : decode cX2_readOrder 82 = .ok (.ifCond .eq 14, 3) := by decide +kernel
theorem dX2_readOrder_85 : decode cX2_readOrder 85 = .ok (.aload_n 0, 1) := by decide +kernel
theorem dX2_readOrder_86 : decode cX2_readOrder 86 = .ok (.invokevirtual 45, 3) := by decide +kernel
theorem dX2_readOrder_89 : decode cX2_readOrder 89 = .ok (.ifCond .eq 7, 3) := by decide +kernel
theorem dX2_readOrder_92 : decode cX2_readOrder 92 = .ok (.iconst 1, 1) := by decide +kernel
theorem dX2_readOrder_93 : decode cX2_readOrder 93 = .ok (.goto 4, 3) := by decide +kernel
theorem dX2_readOrder_96 : decode cX2_readOrder 96 = .ok (.iconst 0, 1) := by decide +kernel
theorem dX2_readOrder_97 : decode cX2_readOrder 97 = .ok (.ireturn, 1) := by decide +kernel
theorem dX2_readOrder_98 : decode cX2_readOrder 98 = .ok (.aload_n 0, 1) := by decide +kernel
theorem dX2_readOrder_99 : decode cX2_readOrder 99 = .ok (.bipush 102, 2) := by decide +kernel
theorem dX2_readOrder_101 : decode cX2_readOrder 101 = .ok (.invokevirtual 41, 3) := by decide +kernel
theorem dX2_readOrder_104 : decode cX2_readOrder 104 = .ok (.ifCond .eq 33, 3) := by decide +kernel
theorem dX2_readOrder_107 : decode cX2_readOrder 107 = .ok (.aload_n 0, 1) := by decide +kernel
theorem dX2_readOrder_108 : decode cX2_readOrder 108 = .ok (.iconst 5, 1) := by decide +kernel
theorem dX2_readOrder_109 : decode cX2_readOrder 109 = .ok (.invokevirtual 49, 3) := by decide +kernel
theorem dX2_readOrder_112 : decode cX2_readOrder 112 = .ok (.ifCond .eq 25, 3) := by decide +kernel
theorem dX2_readOrder_115 : decode cX2_readOrder 115 = .ok (.aload_n 0, 1) := by decide +kernel
theorem dX2_readOrder_116 : decode cX2_readOrder 116 = .ok (.bipush 94, 2) := by decide +kernel
theorem dX2_readOrder_118 : decode cX2_readOrder 118 = .ok (.invokevirtual 41, 3) := by decide +kernel
theorem dX2_readOrder_121 : decode cX2_readOrder 121 = .ok (.ifCond .eq 16, 3) := by decide +kernel
theorem dX2_readOrder_124 : decode cX2_readOrder 124 = .ok (.aload_n 0, 1) := by decide +kernel
theorem dX2_readOrder_125 : decode cX2_readOrder 125 = .ok (.bipush 9, 2) := by decide +kernel
theorem dX2_readOrder_127 : decode cX2_readOrder 127 = .ok (.invokevirtual 52, 3) := by decide +kernel
theorem dX2_readOrder_130 : decode cX2_readOrder 130 = .ok (.ifCond .eq 7, 3) := by decide +kernel
theorem dX2_readOrder_133 : decode cX2_readOrder 133 = .ok (.iconst 1, 1) := by decide +kernel
theorem dX2_readOrder_134 : decode cX2_readOrder 134 = .ok (.goto 4, 3) := by decide +kernel
theorem dX2_readOrder_137 : decode cX2_readOrder 137 = .ok (.iconst 0, 1) := by decide +kernel
theorem dX2_readOrder_138 : decode cX2_readOrder 138 = .ok (.ireturn, 1) := by decide +kernel
theorem dX2_readOrder_139 : decode cX2_readOrder 139 = .ok (.aload_n 0, 1) := by decide +kernel
theorem dX2_readOrder_140 : decode cX2_readOrder 140 = .ok (.bipush 100, 2) := by decide +kernel
theorem dX2_readOrder_142 : decode cX2_readOrder 142 = .ok (.invokevirtual 41, 3) := by decide +kernel
theorem dX2_readOrder_145 : decode cX2_readOrder 145 = .ok (.ifCond .eq 32, 3) := by decide +kernel
theorem dX2_readOrder_148 : decode cX2_readOrder 148 = .ok (.aload_n 0, 1) := by decide +kernel
theorem dX2_readOrder_149 : decode cX2_readOrder 149 = .ok (.bipush 7, 2) := by decide +kernel
theorem dX2_readOrder_151 : decode cX2_readOrder 151 = .ok (.invokevirtual 55, 3) := by decide +kernel
theorem dX2_readOrder_154 : decode cX2_readOrder 154 = .ok (.ifCond .eq 23, 3) := by decide +kernel
theorem dX2_readOrder_157 : decode cX2_readOrder 157 = .ok (.aload_n 0, 1) := by decide +kernel
theorem dX2_readOrder_158 : decode cX2_readOrder 158 = .ok (.bipush 61, 2) := by decide +kernel
theorem dX2_readOrder_160 : decode cX2_readOrder 160 = .ok (.invokevirtual 41, 3) := by decide +kernel
theorem dX2_readOrder_163 : decode cX2_readOrder 163 = .ok (.ifCond .eq 14, 3) := by decide +kernel
theorem dX2_readOrder_166 : decode cX2_readOrder 166 = .ok (.aload_n 0, 1) := by decide +kernel
theorem dX2_readOrder_167 : decode cX2_readOrder 167 = .ok (.invokevirtual 58, 3) := by decide +kernel
theorem dX2_readOrder_170 : decode cX2_readOrder 170 = .ok (.ifCond .eq 7, 3) := by decide +kernel
theorem dX2_readOrder_173 : decode cX2_readOrder 173 = .ok (.iconst 1, 1) := by decide +kernel
theorem dX2_readOrder_174 : decode cX2_readOrder 174 = .ok (.goto 4, 3) := by decide +kernel
theorem dX2_readOrder_177 : decode cX2_readOrder 177 = .ok (.iconst 0, 1) := by decide +kernel
theorem dX2_readOrder_178 : decode cX2_readOrder 178 = .ok (.ireturn, 1) := by decide +kernel
theorem dX2_readOrder_179 : decode cX2_readOrder 179 = .ok (.aload_n 0, 1) := by decide +kernel
theorem dX2_readOrder_180 : decode cX2_readOrder 180 = .ok (.bipush 116, 2) := by decide +kernel
theorem dX2_readOrder_182 : decode cX2_readOrder 182 = .ok (.invokevirtual 41, 3) := by decide +kernel
theorem dX2_readOrder_185 : decode cX2_readOrder 185 = .ok (.ifCond .eq 14, 3) := by decide +kernel
theorem dX2_readOrder_188 : decode cX2_readOrder 188 = .ok (.aload_n 0, 1) := by decide +kernel
theorem dX2_readOrder_189 : decode cX2_readOrder 189 = .ok (.invokevirtual 58, 3) := by decide +kernel
theorem dX2_readOrder_192 : decode cX2_readOrder 192 = .ok (.ifCond .eq 7, 3) := by decide +kernel
theorem dX2_readOrder_195 : decode cX2_readOrder 195 = .ok (.iconst 1, 1) := by decide +kernel
theorem dX2_readOrder_196 : decode cX2_readOrder 196 = .ok (.goto 4, 3) := by decide +kernel
theorem dX2_readOrder_199 : decode cX2_readOrder 199 = .ok (.iconst 0, 1) := by decide +kernel
theorem dX2_readOrder_200 : decode cX2_readOrder 200 = .ok (.ireturn, 1) := by decide +kernel
theorem dX2_readOrder_201 : decode cX2_readOrder 201 = .ok (.iconst 0, 1) := by decide +kernel
theorem dX2_readOrder_202 : decode cX2_readOrder 202 = .ok (.ireturn, 1) := by decide +kernel
theorem dX2_readSign_0 : decode cX2_readSign 0 = .ok (.aload_n 0, 1) := by decide +kernel
theorem dX2_readSign_1 : decode cX2_readSign 1 = .ok (.invokevirtual 37, 3) := by decide +kernel
theorem dX2_readSign_4 : decode cX2_readSign 4 = .ok (.iload_n 1, 1) := by decide +kernel
theorem dX2_readSign_5 : decode cX2_readSign 5 = .ok (.if_icmp .eq 5, 3) := by decide +kernel
theorem dX2_readSign_8 : decode cX2_readSign 8 = .ok (.iconst 0, 1) := by decide +kernel
theorem dX2_readSign_9 : decode cX2_readSign 9 = .ok (.ireturn, 1) := by decide +kernel
theorem dX2_readSign_10 : decode cX2_readSign 10 = .ok (.aload_n 0, 1) := by decide +kernel
theorem dX2_readSign_11 : decode cX2_readSign 11 = .ok (.dup, 1) := by decide +kernel
theorem dX2_readSign_12 : decode cX2_readSign 12 = .ok (.getfield 15, 3) := by decide +kernel
theorem dX2_readSign_15 : decode cX2_readSign 15 = .ok (.iconst 1, 1) := by decide +kernel
theorem dX2_readSign_16 : decode cX2_readSign 16 = .ok (.iadd, 1) := by decide +kernel
theorem dX2_readSign_17 : decode cX2_readSign 17 = .ok (.putfield 15, 3) := by decide +kernel
theorem dX2_readSign_20 : decode cX2_readSign 20 = .ok (.iconst 1, 1) := by decide +kernel
theorem dX2_readSign_21 : decode cX2_readSign 21 = .ok (.ireturn, 1) := by decide +kernel
theorem dX2_readThing_0 : decode cX2_readThing 0 = .ok (.aload_n 0, 1) := by decide +kernel
theorem dX2_readThing_1 : decode cX2_readThing 1 = .ok (.iconst 5, 1) := by decide +kernel
theorem dX2_readThing_2 : decode cX2_readThing 2 = .ok (.invokevirtual 55, 3) := by decide +kernel
theorem dX2_readThing_5 : decode cX2_readThing 5 = .ok (.ifCond .ne 5, 3) := by decide +kernel
theorem dX2_readThing_8 : decode cX2_readThing 8 = .ok (.iconst 0, 1) := by decide +kernel
theorem dX2_readThing_9 : decode cX2_readThing 9 = .ok (.ireturn, 1) := by decide +kernel
theorem dX2_readThing_10 : decode cX2_readThing 10 = .ok (.aload_n 0, 1) := by decide +kernel
theorem dX2_readThing_11 : decode cX2_readThing 11 = .ok (.bipush 58, 2) := by decide +kernel
theorem dX2_readThing_13 : decode cX2_readThing 13 = .ok (.invokevirtual 41, 3) := by decide +kernel
theorem dX2_readThing_16 : decode cX2_readThing 16 = .ok (.ifCond .eq 14, 3) := by decide +kernel
theorem dX2_readThing_19 : decode cX2_readThing 19 = .ok (.aload_n 0, 1) := by decide +kernel
theorem dX2_readThing_20 : decode cX2_readThing 20 = .ok (.bipush 7, 2) := by decide +kernel
theorem dX2_readThing_22 : decode cX2_readThing 22 = .ok (.invokevirtual 49, 3) := by decide +kernel
theorem dX2_readThing_25 : decode cX2_readThing 25 = .ok (.ifCond .ne 5, 3) := by decide +kernel
theorem dX2_readThing_28 : decode cX2_readThing 28 = .ok (.iconst 0, 1) := by decide +kernel
theorem dX2_readThing_29 : decode cX2_readThing 29 = .ok (.ireturn, 1) := by decide +kernel
theorem dX2_readThing_30 : decode cX2_readThing 30 = .ok (.aload_n 0, 1) := by decide +kernel
theorem dX2_readThing_31 : decode cX2_readThing 31 = .ok (.bipush 33, 2) := by decide +kernel
theorem dX2_readThing_33 : decode cX2_readThing 33 = .ok (.invokevirtual 41, 3) := by decide +kernel
theorem dX2_readThing_36 : decode cX2_readThing 36 = .ok (.ifCond .eq 10, 3) := by decide +kernel
theorem dX2_readThing_39 : decode cX2_readThing 39 = .ok (.aload_n 0, 1) := by decide +kernel
theorem dX2_readThing_40 : decode cX2_readThing 40 = .ok (.invokevirtual 58, 3) := by decide +kernel
theorem dX2_readThing_43 : decode cX2_readThing 43 = .ok (.ifCond .ne 5, 3) := by decide +kernel
theorem dX2_readThing_46 : decode cX2_readThing 46 = .ok (.iconst 0, 1) := by decide +kernel
theorem dX2_readThing_47 : decode cX2_readThing 47 = .ok (.ireturn, 1) := by decide +kernel
theorem dX2_readThing_48 : decode cX2_readThing 48 = .ok (.aload_n 0, 1) := by decide +kernel
theorem dX2_readThing_49 : decode cX2_readThing 49 = .ok (.bipush 63, 2) := by decide +kernel
theorem dX2_readThing_51 : decode cX2_readThing 51 = .ok (.invokevirtual 41, 3) := by decide +kernel
theorem dX2_readThing_54 : decode cX2_readThing 54 = .ok (.ifCond .eq 12, 3) := by decide +kernel
theorem dX2_readThing_57 : decode cX2_readThing 57 = .ok (.aload_n 0, 1) := by decide +kernel
theorem dX2_readThing_58 : decode cX2_readThing 58 = .ok (.bipush 7, 2) := by decide +kernel
theorem dX2_readThing_60 : decode cX2_readThing 60 = .ok (.invokevirtual 52, 3) := by decide +kernel
theorem dX2_readThing_63 : decode cX2_readThing 63 = .ok (.ifCond .eq 7, 3) := by decide +kernel
theorem dX2_readThing_66 : decode cX2_readThing 66 = .ok (.iconst 1, 1) := by decide +kernel
theorem dX2_readThing_67 : decode cX2_readThing 67 = .ok (.goto 4, 3) := by decide +kernel
theorem dX2_readThing_70 : decode cX2_readThing 70 = .ok (.iconst 0, 1) := by decide +kernel
theorem dX2_readThing_71 : decode cX2_readThing 71 = .ok (.ireturn, 1) := by decide +kernel
theorem dX2_readDigit_0 : decode cX2_readDigit 0 = .ok (.aload_n 0, 1) := by decide +kernel
theorem dX2_readDigit_1 : decode cX2_readDigit 1 = .ok (.iload_n 1, 1) := by decide +kernel
theorem dX2_readDigit_2 : decode cX2_readDigit 2 = .ok (.invokevirtual 61, 3) := by decide +kernel
theorem dX2_readDigit_5 : decode cX2_readDigit 5 = .ok (.istore_n 2, 1) := by decide +kernel
theorem dX2_readDigit_6 : decode cX2_readDigit 6 = .ok (.iload_n 2, 1) := by decide +kernel
theorem dX2_readDigit_7 : decode cX2_readDigit 7 = .ok (.ifCond .ge 5, 3) := by decide +kernel
theorem dX2_readDigit_10 : decode cX2_readDigit 10 = .ok (.iconst 0, 1) := by decide +kernel
theorem dX2_readDigit_11 : decode cX2_readDigit 11 = .ok (.ireturn, 1) := by decide +kernel
theorem dX2_readDigit_12 : decode cX2_readDigit 12 = .ok (.aload_n 0, 1) := by decide +kernel
theorem dX2_readDigit_13 : decode cX2_readDigit 13 = .ok (.iload_n 2, 1) := by decide +kernel
theorem dX2_readDigit_14 : decode cX2_readDigit 14 = .ok (.putfield 21, 3) := by decide +kernel
theorem dX2_readDigit_17 : decode cX2_readDigit 17 = .ok (.iconst 1, 1) := by decide +kernel
theorem dX2_readDigit_18 : decode cX2_readDigit 18 = .ok (.ireturn, 1) := by decide +kernel
theorem dX2_readLast_0 : decode cX2_readLast 0 = .ok (.aload_n 0, 1) := by decide +kernel
theorem dX2_readLast_1 : decode cX2_readLast 1 = .ok (.iload_n 1, 1) := by decide +kernel
theorem dX2_readLast_2 : decode cX2_readLast 2 = .ok (.invokevirtual 61, 3) := by decide +kernel
theorem dX2_readLast_5 : decode cX2_readLast 5 = .ok (.istore_n 2, 1) := by decide +kernel
theorem dX2_readLast_6 : decode cX2_readLast 6 = .ok (.iload_n 2, 1) := by decide +kernel
theorem dX2_readLast_7 : decode cX2_readLast 7 = .ok (.ifCond .ge 5, 3) := by decide +kernel
theorem dX2_readLast_10 : decode cX2_readLast 10 = .ok (.iconst 0, 1) := by decide +kernel
theorem dX2_readLast_11 : decode cX2_readLast 11 = .ok (.ireturn, 1) := by decide +kernel
theorem dX2_readLast_12 : decode cX2_readLast 12 = .ok (.aload_n 0, 1) := by decide +kernel
theorem dX2_readLast_13 : decode cX2_readLast 13 = .ok (.iload_n 2, 1) := by decide +kernel
theorem dX2_readLast_14 : decode cX2_readLast 14 = .ok (.putfield 30, 3) := by decide +kernel
theorem dX2_readLast_17 : decode cX2_readLast 17 = .ok (.iconst 1, 1) := by decide +kernel
theorem dX2_readLast_18 : decode cX2_readLast 18 = .ok (.ireturn, 1) := by decide +kernel
theorem dX2_readSet_0 : decode cX2_readSet 0 = .ok (.iconst 0, 1) := by decide +kernel
theorem dX2_readSet_1 : decode cX2_readSet 1 = .ok (.istore_n 2, 1) := by decide +kernel
theorem dX2_readSet_2 : decode cX2_readSet 2 = .ok (.iload_n 2, 1) := by decide +kernel
theorem dX2_readSet_3 : decode cX2_readSet 3 = .ok (.bipush 80, 2) := by decide +kernel
theorem dX2_readSet_5 : decode cX2_readSet 5 = .ok (.if_icmp .ge 34, 3) := by decide +kernel
theorem dX2_readSet_8 : decode cX2_readSet 8 = .ok (.aload_n 0, 1) := by decide +kernel
theorem dX2_readSet_9 : decode cX2_readSet 9 = .ok (.iload_n 1, 1) := by decide +kernel
theorem dX2_readSet_10 : decode cX2_readSet 10 = .ok (.invokevirtual 61, 3) := by decide +kernel
theorem dX2_readSet_13 : decode cX2_readSet 13 = .ok (.istore_n 3, 1) := by decide +kernel
theorem dX2_readSet_14 : decode cX2_readSet 14 = .ok (.iload_n 3, 1) := by decide +kernel
theorem dX2_readSet_15 : decode cX2_readSet 15 = .ok (.ifCond .ge 6, 3) := by decide +kernel
theorem dX2_readSet_18 : decode cX2_readSet 18 = .ok (.goto 21, 3) := by decide +kernel
theorem dX2_readSet_21 : decode cX2_readSet 21 = .ok (.aload_n 0, 1) := by decide +kernel
theorem dX2_readSet_22 : decode cX2_readSet 22 = .ok (.dup, 1) := by decide +kernel
theorem dX2_readSet_23 : decode cX2_readSet 23 = .ok (.getfield 24, 3) := by decide +kernel
theorem dX2_readSet_26 : decode cX2_readSet 26 = .ok (.iconst 1, 1) := by decide +kernel
theorem dX2_readSet_27 : decode cX2_readSet 27 = .ok (.iload_n 3, 1) := by decide +kernel
theorem dX2_readSet_28 : decode cX2_readSet 28 = .ok (.ishl, 1) := by decide +kernel
theorem dX2_readSet_29 : decode cX2_readSet 29 = .ok (.ior, 1) := by decide +kernel
theorem dX2_readSet_30 : decode cX2_readSet 30 = .ok (.putfield 24, 3) := by decide +kernel
theorem dX2_readSet_33 : decode cX2_readSet 33 = .ok (.iinc 2 1, 3) := by decide +kernel
theorem dX2_readSet_36 : decode cX2_readSet 36 = .ok (.goto (-34), 3) := by decide +kernel
theorem dX2_readSet_39 : decode cX2_readSet 39 = .ok (.aload_n 0, 1) := by decide +kernel
theorem dX2_readSet_40 : decode cX2_readSet 40 = .ok (.getfield 24, 3) := by decide +kernel
theorem dX2_readSet_43 : decode cX2_readSet 43 = .ok (.ifCond .eq 7, 3) := by decide +kernel
theorem dX2_readSet_46 : decode cX2_readSet 46 = .ok (.iconst 1, 1) := by decide +kernel
theorem dX2_readSet_47 : decode cX2_readSet 47 = .ok (.goto 4, 3) := by decide +kernel
theorem dX2_readSet_50 : decode cX2_readSet 50 = .ok (.iconst 0, 1) := by decide +kernel
theorem dX2_readSet_51 : decode cX2_readSet 51 = .ok (.ireturn, 1) := by decide +kernel
theorem dX2_readNumber_0 : decode cX2_readNumber 0 = .ok (.aload_n 0, 1) := by decide +kernel
theorem dX2_readNumber_1 : decode cX2_readNumber 1 = .ok (.bipush 9, 2) := by decide +kernel
theorem dX2_readNumber_3 : decode cX2_readNumber 3 = .ok (.invokevirtual 61, 3) := by decide +kernel
theorem dX2_readNumber_6 : decode cX2_readNumber 6 = .ok (.istore_n 1, 1) := by decide +kernel
theorem dX2_readNumber_7 : decode cX2_readNumber 7 = .ok (.iload_n 1, 1) := by decide +kernel
theorem dX2_readNumber_8 : decode cX2_readNumber 8 = .ok (.ifCond .ge 5, 3) := by decide +kernel
theorem dX2_readNumber_11 : decode cX2_readNumber 11 = .ok (.iconst 0, 1) := by decide +kernel
theorem dX2_readNumber_12 : decode cX2_readNumber 12 = .ok (.ireturn, 1) := by decide +kernel
theorem dX2_readNumber_13 : decode cX2_readNumber 13 = .ok (.iload_n 1, 1) := by decide +kernel
theorem dX2_readNumber_14 : decode cX2_readNumber 14 = .ok (.ifCond .ne 7, 3) := by decide +kernel
theorem dX2_readNumber_17 : decode cX2_readNumber 17 = .ok (.iconst (-1), 1) := by decide +kernel
theorem dX2_readNumber_18 : decode cX2_readNumber 18 = .ok (.goto 9, 3) := by decide +kernel
theorem dX2_readNumber_21 : decode cX2_readNumber 21 = .ok (.aload_n 0, 1) := by decide +kernel
theorem dX2_readNumber_22 : decode cX2_readNumber 22 = .ok (.bipush 9, 2) := by decide +kernel
theorem dX2_readNumber_24 : decode cX2_readNumber 24 = .ok (.invokevirtual 61, 3) := by decide +kernel
theorem dX2_readNumber_27 : decode cX2_readNumber 27 = .ok (.istore_n 2, 1) := by decide +kernel
theorem dX2_readNumber_28 : decode cX2_readNumber 28 = .ok (.aload_n 0, 1) := by decide +kernel
theorem dX2_readNumber_29 : decode cX2_readNumber 29 = .ok (.iload_n 2, 1) := by decide +kernel
theorem dX2_readNumber_30 : decode cX2_readNumber 30 = .ok (.ifCond .ge 7, 3) := by decide +kernel
theorem dX2_readNumber_33 : decode cX2_readNumber 33 = .ok (.iload_n 1, 1) := by decide +kernel
theorem dX2_readNumber_34 : decode cX2_readNumber 34 = .ok (.goto 9, 3) := by decide +kernel
theorem dX2_readNumber_37 : decode cX2_readNumber 37 = .ok (.bipush 10, 2) := by decide +kernel
theorem dX2_readNumber_39 : decode cX2_readNumber 39 = .ok (.iload_n 1, 1) := by decide +kernel
theorem dX2_readNumber_40 : decode cX2_readNumber 40 = .ok (.imul, 1) := by decide +kernel
theorem dX2_readNumber_41 : decode cX2_readNumber 41 = .ok (.iload_n 2, 1) := by decide +kernel
theorem dX2_readNumber_42 : decode cX2_readNumber 42 = .ok (.iadd, 1) := by decide +kernel
theorem dX2_readNumber_43 : decode cX2_readNumber 43 = .ok (.putfield 27, 3) := by decide +kernel
theorem dX2_readNumber_46 : decode cX2_readNumber 46 = .ok (.iconst 1, 1) := by decide +kernel
theorem dX2_readNumber_47 : decode cX2_readNumber 47 = .ok (.ireturn, 1) := by decide +kernel
theorem dX2_digitAtMost_0 : decode cX2_digitAtMost 0 = .ok (.aload_n 0, 1) := by decide +kernel
theorem dX2_digitAtMost_1 : decode cX2_digitAtMost 1 = .ok (.invokevirtual 37, 3) := by decide +kernel
theorem dX2_digitAtMost_4 : decode cX2_digitAtMost 4 = .ok (.bipush 48, 2) := by decide +kernel
theorem dX2_digitAtMost_6 : decode cX2_digitAtMost 6 = .ok (.isub, 1) := by decide +kernel
theorem dX2_digitAtMost_7 : decode cX2_digitAtMost 7 = .ok (.istore_n 2, 1) := by decide +kernel
theorem dX2_digitAtMost_8 : decode cX2_digitAtMost 8 = .ok (.iload_n 2, 1) := by decide +kernel
theorem dX2_digitAtMost_9 : decode cX2_digitAtMost 9 = .ok (.ifCond .lt 8, 3) := by decide +kernel
theorem dX2_digitAtMost_12 : decode cX2_digitAtMost 12 = .ok (.iload_n 2, 1) := by decide +kernel
theorem dX2_digitAtMost_13 : decode cX2_digitAtMost 13 = .ok (.iload_n 1, 1) := by decide +kernel
theorem dX2_digitAtMost_14 : decode cX2_digitAtMost 14 = .ok (.if_icmp .le 5, 3) := by decide +kernel
theorem dX2_digitAtMost_17 : decode cX2_digitAtMost 17 = .ok (.iconst (-1), 1) := by decide +kernel
theorem dX2_digitAtMost_18 : decode cX2_digitAtMost 18 = .ok (.ireturn, 1) := by decide +kernel
theorem dX2_digitAtMost_19 : decode cX2_digitAtMost 19 = .ok (.aload_n 0, 1) := by decide +kernel
theorem dX2_digitAtMost_20 : decode cX2_digitAtMost 20 = .ok (.dup, 1) := by decide +kernel
theorem dX2_digitAtMost_21 : decode cX2_digitAtMost 21 = .ok (.getfield 15, 3) := by decide +kernel
theorem dX2_digitAtMost_24 : decode cX2_digitAtMost 24 = .ok (.iconst 1, 1) := by decide +kernel
theorem dX2_digitAtMost_25 : decode cX2_digitAtMost 25 = .ok (.iadd, 1) := by decide +kernel
theorem dX2_digitAtMost_26 : decode cX2_digitAtMost 26 = .ok (.putfield 15, 3) := by decide +kernel
theorem dX2_digitAtMost_29 : decode cX2_digitAtMost 29 = .ok (.iload_n 2, 1) := by decide +kernel
theorem dX2_digitAtMost_30 : decode cX2_digitAtMost 30 = .ok (.ireturn, 1) := by decide +kernel
theorem dX3_init_0 : decode cX3_init 0 = .ok (.aload_n 0, 1) := by decide +kernel
theorem dX3_init_1 : decode cX3_init 1 = .ok (.invokespecial 3, 3) := by decide +kernel
theorem dX3_init_4 : decode cX3_init 4 = .ok (.aload_n 0, 1) := by decide +kernel
theorem dX3_init_5 : decode cX3_init 5 = .ok (.iconst 1, 1) := by decide +kernel
theorem dX3_init_6 : decode cX3_init 6 = .ok (.putfield 9, 3) := by decide +kernel
theorem dX3_init_9 : decode cX3_init 9 = .ok (.aload_n 0, 1) := by decide +kernel
theorem dX3_init_10 : decode cX3_init 10 = .ok (.iconst 0, 1) := by decide +kernel
theorem dX3_init_11 : decode cX3_init 11 = .ok (.putfield 15, 3) := by decide +kernel
theorem dX3_init_14 : decode cX3_init 14 = .ok (.aload_n 0, 1) := by decide +kernel
theorem dX3_init_15 : decode cX3_init 15 = .ok (.iconst 0, 1) := by decide +kernel
theorem dX3_init_16 : decode cX3_init 16 = .ok (.putfield 18, 3) := by decide +kernel
theorem dX3_init_19 : decode cX3_init 19 = .ok (.return_, 1) := by decide +kernel
theorem dX3_copyFrom_0 : decode cX3_copyFrom 0 = .ok (.aload_n 1, 1) := by decide +kernel
theorem dX3_copyFrom_1 : decode cX3_copyFrom 1 = .ok (.ifnonnull 4, 3) := by decide +kernel
theorem dX3_copyFrom_4 : decode cX3_copyFrom 4 = .ok (.return_, 1) := by decide +kernel
theorem dX3_copyFrom_5 : decode cX3_copyFrom 5 = .ok (.aload_n 0, 1) := by decide +kernel
theorem dX3_copyFrom_6 : decode cX3_copyFrom 6 = .ok (.aload_n 1, 1) := by decide +kernel
theorem dX3_copyFrom_7 : decode cX3_copyFrom 7 = .ok (.getfield 9, 3) := by decide +kernel
theorem dX3_copyFrom_10 : decode cX3_copyFrom 10 = .ok (.putfield 9, 3) := by decide +kernel
theorem dX3_copyFrom_13 : decode cX3_copyFrom 13 = .ok (.aload_n 0, 1) := by decide +kernel
theorem dX3_copyFrom_14 : decode cX3_copyFrom 14 = .ok (.aload_n 1, 1) := by decide +kernel
theorem dX3_copyFrom_15 : decode cX3_copyFrom 15 = .ok (.getfield 15, 3) := by decide +kernel
theorem dX3_copyFrom_18 : decode cX3_copyFrom 18 = .ok (.putfield 15, 3) := by decide +kernel
theorem dX3_copyFrom_21 : decode cX3_copyFrom 21 = .ok (.aload_n 0, 1) := by decide +kernel
theorem dX3_copyFrom_22 : decode cX3_copyFrom 22 = .ok (.aload_n 1, 1) := by decide +kernel
theorem dX3_copyFrom_23 : decode cX3_copyFrom 23 = .ok (.getfield 18, 3) := by decide +kernel
theorem dX3_copyFrom_26 : decode cX3_copyFrom 26 = .ok (.putfield 18, 3) := by decide +kernel
theorem dX3_copyFrom_29 : decode cX3_copyFrom 29 = .ok (.return_, 1) := by decide +kernel
theorem dX3_takeIn_0 : decode cX3_takeIn 0 = .ok (.aload_n 0, 1) := by decide +kernel
theorem dX3_takeIn_1 : decode cX3_takeIn 1 = .ok (.dup, 1) := by decide +kernel
theorem dX3_takeIn_2 : decode cX3_takeIn 2 = .ok (.getfield 18, 3) := by decide +kernel
theorem dX3_takeIn_5 : decode cX3_takeIn 5 = .ok (.iconst 1, 1) := by decide +kernel
theorem dX3_takeIn_6 : decode cX3_takeIn 6 = .ok (.iadd, 1) := by decide +kernel
theorem dX3_takeIn_7 : decode cX3_takeIn 7 = .ok (.putfield 18, 3) := by decide +kernel
theorem dX3_takeIn_10 : decode cX3_takeIn 10 = .ok (.aload_n 0, 1) := by decide +kernel
theorem dX3_takeIn_11 : decode cX3_takeIn 11 = .ok (.getfield 9, 3) := by decide +kernel
theorem dX3_takeIn_14 : decode cX3_takeIn 14 = .ok (.bipush 99, 2) := by decide +kernel
theorem dX3_takeIn_16 : decode cX3_takeIn 16 = .ok (.if_icmp .lt 5, 3) := by decide +kernel
theorem dX3_takeIn_19 : decode cX3_takeIn 19 = .ok (.iconst 0, 1) := by decide +kernel
theorem dX3_takeIn_20 : decode cX3_takeIn 20 = .ok (.ireturn, 1) := by decide +kernel
theorem dX3_takeIn_21 : decode cX3_takeIn 21 = .ok (.aload_n 0, 1) := by decide +kernel
theorem dX3_takeIn_22 : decode cX3_takeIn 22 = .ok (.dup, 1) := by decide +kernel
theorem dX3_takeIn_23 : decode cX3_takeIn 23 = .ok (.getfield 9, 3) := by decide +kernel
theorem dX3_takeIn_26 : decode cX3_takeIn 26 = .ok (.iconst 1, 1) := by decide +kernel
theorem dX3_takeIn_27 : decode cX3_takeIn 27 = .ok (.iadd, 1) := by decide +kernel
theorem dX3_takeIn_28 : decode cX3_takeIn 28 = .ok (.putfield 9, 3) := by decide +kernel
theorem dX3_takeIn_31 : decode cX3_takeIn 31 = .ok (.iconst 1, 1) := by decide +kernel
theorem dX3_takeIn_32 : decode cX3_takeIn 32 = .ok (.ireturn, 1) := by decide +kernel
theorem dX3_handOut_0 : decode cX3_handOut 0 = .ok (.aload_n 0, 1) := by decide +kernel
theorem dX3_handOut_1 : decode cX3_handOut 1 = .ok (.getfield 9, 3) := by decide +kernel
theorem dX3_handOut_4 : decode cX3_handOut 4 = .ok (.ifCond .gt 5, 3) := by decide +kernel
theorem dX3_handOut_7 : decode cX3_handOut 7 = .ok (.iconst 0, 1) := by decide +kernel
theorem dX3_handOut_8 : decode cX3_handOut 8 = .ok (.ireturn, 1) := by decide +kernel
theorem dX3_handOut_9 : decode cX3_handOut 9 = .ok (.aload_n 0, 1) := by decide +kernel
theorem dX3_handOut_10 : decode cX3_handOut 10 = .ok (.dup, 1) := by decide +kernel
theorem dX3_handOut_11 : decode cX3_handOut 11 = .ok (.getfield 9, 3) := by decide +kernel
theorem dX3_handOut_14 : decode cX3_handOut 14 = .ok (.iconst 1, 1) := by decide +kernel
theorem dX3_handOut_15 : decode cX3_handOut 15 = .ok (.isub, 1) := by decide +kernel
theorem dX3_handOut_16 : decode cX3_handOut 16 = .ok (.putfield 9, 3) := by decide +kernel
theorem dX3_handOut_19 : decode cX3_handOut 19 = .ok (.aload_n 0, 1) := by decide +kernel
theorem dX3_handOut_20 : decode cX3_handOut 20 = .ok (.dup, 1) := by decide +kernel
theorem dX3_handOut_21 : decode cX3_handOut 21 = .ok (.getfield 15, 3) := by decide +kernel
theorem dX3_handOut_24 : decode cX3_handOut 24 = .ok (.iconst 1, 1) := by decide +kernel
theorem dX3_handOut_25 : decode cX3_handOut 25 = .ok (.iadd, 1) := by decide +kernel
theorem dX3_handOut_26 : decode cX3_handOut 26 = .ok (.putfield 15, 3) := by decide +kernel
theorem dX3_handOut_29 : decode cX3_handOut 29 = .ok (.iconst 1, 1) := by decide +kernel
theorem dX3_handOut_30 : decode cX3_handOut 30 = .ok (.ireturn, 1) := by decide +kernel
theorem dX4_init_0 : decode cX4_init 0 = .ok (.aload_n 0, 1) := by decide +kernel
theorem dX4_init_1 : decode cX4_init 1 = .ok (.invokespecial 3, 3) := by decide +kernel
theorem dX4_init_4 : decode cX4_init 4 = .ok (.aload_n 0, 1) := by decide +kernel
theorem dX4_init_5 : decode cX4_init 5 = .ok (.iconst 0, 1) := by decide +kernel
theorem dX4_init_6 : decode cX4_init 6 = .ok (.putfield 9, 3) := by decide +kernel
theorem dX4_init_9 : decode cX4_init 9 = .ok (.aload_n 0, 1) := by decide +kernel
theorem dX4_init_10 : decode cX4_init 10 = .ok (.iconst 0, 1) := by decide +kernel
theorem dX4_init_11 : decode cX4_init 11 = .ok (.putfield 15, 3) := by decide +kernel
theorem dX4_init_14 : decode cX4_init 14 = .ok (.aload_n 0, 1) := by decide +kernel
theorem dX4_init_15 : decode cX4_init 15 = .ok (.bipush 7, 2) := by decide +kernel
theorem dX4_init_17 : decode cX4_init 17 = .ok (.anewarray 18, 3) := by decide +kernel
theorem dX4_init_20 : decode cX4_init 20 = .ok (.putfield 20, 3) := by decide +kernel
theorem dX4_init_23 : decode cX4_init 23 = .ok (.iconst 0, 1) := by decide +kernel
theorem dX4_init_24 : decode cX4_init 24 = .ok (.istore_n 1, 1) := by decide +kernel
theorem dX4_init_25 : decode cX4_init 25 = .ok (.iload_n 1, 1) := by decide +kernel
theorem dX4_init_26 : decode cX4_init 26 = .ok (.aload_n 0, 1) := by decide +kernel
theorem dX4_init_27 : decode cX4_init 27 = .ok (.getfield 20, 3) := by decide +kernel
theorem dX4_init_30 : decode cX4_init 30 = .ok (.arraylength, 1) := by decide +kernel
theorem dX4_init_31 : decode cX4_init 31 = .ok (.if_icmp .ge 22, 3) := by decide +kernel
theorem dX4_init_34 : decode cX4_init 34 = .ok (.aload_n 0, 1) := by decide +kernel
theorem dX4_init_35 : decode cX4_init 35 = .ok (.getfield 20, 3) := by decide +kernel
theorem dX4_init_38 : decode cX4_init 38 = .ok (.iload_n 1, 1) := by decide +kernel
theorem dX4_init_39 : decode cX4_init 39 = .ok (.new 18, 3) := by decide +kernel
theorem dX4_init_42 : decode cX4_init 42 = .ok (.dup, 1) := by decide +kernel
theorem dX4_init_43 : decode cX4_init 43 = .ok (.invokespecial 24, 3) := by decide +kernel
theorem dX4_init_46 : decode cX4_init 46 = .ok (.aastore, 1) := by decide +kernel
theorem dX4_init_47 : decode cX4_init 47 = .ok (.iinc 1 1, 3) := by decide +kernel
theorem dX4_init_50 : decode cX4_init 50 = .ok (.goto (-25), 3) := by decide +kernel
theorem dX4_init_53 : decode cX4_init 53 = .ok (.return_, 1) := by decide +kernel
theorem dX4_note_0 : decode cX4_note 0 = .ok (.aload_n 0, 1) := by decide +kernel
theorem dX4_note_1 : decode cX4_note 1 = .ok (.invokevirtual 25, 3) := by decide +kernel
theorem dX4_note_4 : decode cX4_note 4 = .ok (.astore_n 2, 1) := by decide +kernel
theorem dX4_note_5 : decode cX4_note 5 = .ok (.aload_n 2, 1) := by decide +kernel
theorem dX4_note_6 : decode cX4_note 6 = .ok (.ifnull 8, 3) := by decide +kernel
theorem dX4_note_9 : decode cX4_note 9 = .ok (.aload_n 2, 1) := by decide +kernel
theorem dX4_note_10 : decode cX4_note 10 = .ok (.aload_n 1, 1) := by decide +kernel
theorem dX4_note_11 : decode cX4_note 11 = .ok (.invokevirtual 29, 3) := by decide +kernel
theorem dX4_note_14 : decode cX4_note 14 = .ok (.return_, 1) := by decide +kernel
theorem dX4_keep_0 : decode cX4_keep 0 = .ok (.aload_n 0, 1) := by decide +kernel
theorem dX4_keep_1 : decode cX4_keep 1 = .ok (.aload_n 0, 1) := by decide +kernel
theorem dX4_keep_2 : decode cX4_keep 2 = .ok (.getfield 15, 3) := by decide +kernel
theorem dX4_keep_5 : decode cX4_keep 5 = .ok (.iconst 1, 1) := by decide +kernel
theorem dX4_keep_6 : decode cX4_keep 6 = .ok (.iadd, 1) := by decide +kernel
theorem dX4_keep_7 : decode cX4_keep 7 = .ok (.bipush 7, 2) := by decide +kernel
theorem dX4_keep_9 : decode cX4_keep 9 = .ok (.irem, 1) := by decide +kernel
theorem dX4_keep_10 : decode cX4_keep 10 = .ok (.putfield 15, 3) := by decide +kernel
theorem dX4_keep_13 : decode cX4_keep 13 = .ok (.aload_n 0, 1) := by decide +kernel
theorem dX4_keep_14 : decode cX4_keep 14 = .ok (.aload_n 0, 1) := by decide +kernel
theorem dX4_keep_15 : decode cX4_keep 15 = .ok (.getfield 9, 3) := by decide +kernel
theorem dX4_keep_18 : decode cX4_keep 18 = .ok (.iconst 1, 1) := by decide +kernel
theorem dX4_keep_19 : decode cX4_keep 19 = .ok (.iadd, 1) := by decide +kernel
theorem dX4_keep_20 : decode cX4_keep 20 = .ok (.bipush 6, 2) := by decide +kernel
theorem dX4_keep_22 : decode cX4_keep 22 = .ok (.invokestatic 33, 3) := by decide +kernel
theorem dX4_keep_25 : decode cX4_keep 25 = .ok (.putfield 9, 3) := by decide +kernel
theorem dX4_keep_28 : decode cX4_keep 28 = .ok (.return_, 1) := by decide +kernel
theorem dX4_takeBack_0 : decode cX4_takeBack 0 = .ok (.aload_n 0, 1) := by decide +kernel
theorem dX4_takeBack_1 : decode cX4_takeBack 1 = .ok (.aload_n 0, 1) := by decide +kernel
theorem dX4_takeBack_2 : decode cX4_takeBack 2 = .ok (.getfield 15, 3) := by decide +kernel
theorem dX4_takeBack_5 : decode cX4_takeBack 5 = .ok (.bipush 6, 2) := by decide +kernel
theorem dX4_takeBack_7 : decode cX4_takeBack 7 = .ok (.iadd, 1) := by decide +kernel
theorem dX4_takeBack_8 : decode cX4_takeBack 8 = .ok (.bipush 7, 2) := by decide +kernel
theorem dX4_takeBack_10 : decode cX4_takeBack 10 = .ok (.irem, 1) := by decide +kernel
theorem dX4_takeBack_11 : decode cX4_takeBack 11 = .ok (.putfield 15, 3) := by decide +kernel
theorem dX4_takeBack_14 : decode cX4_takeBack 14 = .ok (.aload_n 0, 1) := by decide +kernel
theorem dX4_takeBack_15 : decode cX4_takeBack 15 = .ok (.dup, 1) := by decide +kernel
theorem dX4_takeBack_16 : decode cX4_takeBack 16 = .ok (.getfield 9, 3) := by decide +kernel
theorem dX4_takeBack_19 : decode cX4_takeBack 19 = .ok (.iconst 1, 1) := by decide +kernel
theorem dX4_takeBack_20 : decode cX4_takeBack 20 = .ok (.isub, 1) := by decide +kernel
theorem dX4_takeBack_21 : decode cX4_takeBack 21 = .ok (.putfield 9, 3) := by decide +kernel
theorem dX4_takeBack_24 : decode cX4_takeBack 24 = .ok (.aload_n 0, 1) := by decide +kernel
theorem dX4_takeBack_25 : decode cX4_takeBack 25 = .ok (.invokevirtual 25, 3) := by decide +kernel
theorem dX4_takeBack_28 : decode cX4_takeBack 28 = .ok (.astore_n 2, 1) := by decide +kernel
theorem dX4_takeBack_29 : decode cX4_takeBack 29 = .ok (.aload_n 2, 1) := by decide +kernel
theorem dX4_takeBack_30 : decode cX4_takeBack 30 = .ok (.ifnull 8, 3) := by decide +kernel
theorem dX4_takeBack_33 : decode cX4_takeBack 33 = .ok (.aload_n 1, 1) := by decide +kernel
theorem dX4_takeBack_34 : decode cX4_takeBack 34 = .ok (.aload_n 2, 1) := by decide +kernel
theorem dX4_takeBack_35 : decode cX4_takeBack 35 = .ok (.invokevirtual 29, 3) := by decide +kernel
theorem dX4_takeBack_38 : decode cX4_takeBack 38 = .ok (.return_, 1) := by decide +kernel
theorem dX4_nextPlace_0 : decode cX4_nextPlace 0 = .ok (.aload_n 0, 1) := by decide +kernel
theorem dX4_nextPlace_1 : decode cX4_nextPlace 1 = .ok (.getfield 15, 3) := by decide +kernel
theorem dX4_nextPlace_4 : decode cX4_nextPlace 4 = .ok (.ifCond .lt 27, 3) := by decide +kernel
theorem dX4_nextPlace_7 : decode cX4_nextPlace 7 = .ok (.aload_n 0, 1) := by decide +kernel
theorem dX4_nextPlace_8 : decode cX4_nextPlace 8 = .ok (.getfield 15, 3) := by decide +kernel
theorem dX4_nextPlace_11 : decode cX4_nextPlace 11 = .ok (.aload_n 0, 1) := by decide +kernel
theorem dX4_nextPlace_12 : decode cX4_nextPlace 12 = .ok (.getfield 20, 3) := by decide +kernel
theorem dX4_nextPlace_15 : decode cX4_nextPlace 15 = .ok (.arraylength, 1) := by decide +kernel
theorem dX4_nextPlace_16 : decode cX4_nextPlace 16 = .ok (.if_icmp .ge 15, 3) := by decide +kernel
theorem dX4_nextPlace_19 : decode cX4_nextPlace 19 = .ok (.aload_n 0, 1) := by decide +kernel
theorem dX4_nextPlace_20 : decode cX4_nextPlace 20 = .ok (.getfield 20, 3) := by decide +kernel
theorem dX4_nextPlace_23 : decode cX4_nextPlace 23 = .ok (.aload_n 0, 1) := by decide +kernel
theorem dX4_nextPlace_24 : decode cX4_nextPlace 24 = .ok (.getfield 15, 3) := by decide +kernel
theorem dX4_nextPlace_27 : decode cX4_nextPlace 27 = .ok (.aaload, 1) := by decide +kernel
theorem dX4_nextPlace_28 : decode cX4_nextPlace 28 = .ok (.goto 4, 3) := by decide +kernel
theorem dX4_nextPlace_31 : decode cX4_nextPlace 31 = .ok (.aconst_null, 1) := by decide +kernel
theorem dX4_nextPlace_32 : decode cX4_nextPlace 32 = .ok (.areturn, 1) := by decide +kernel
theorem dX5_init_0 : decode cX5_init 0 = .ok (.aload_n 0, 1) := by decide +kernel
theorem dX5_init_1 : decode cX5_init 1 = .ok (.invokespecial 3, 3) := by decide +kernel
theorem dX5_init_4 : decode cX5_init 4 = .ok (.aload_n 0, 1) := by decide +kernel
theorem dX5_init_5 : decode cX5_init 5 = .ok (.iconst 0, 1) := by decide +kernel
theorem dX5_init_6 : decode cX5_init 6 = .ok (.putfield 9, 3) := by decide +kernel
theorem dX5_init_9 : decode cX5_init 9 = .ok (.aload_n 0, 1) := by decide +kernel
theorem dX5_init_10 : decode cX5_init 10 = .ok (.iconst 0, 1) := by decide +kernel
theorem dX5_init_11 : decode cX5_init 11 = .ok (.putfield 15, 3) := by decide +kernel
theorem dX5_init_14 : decode cX5_init 14 = .ok (.aload_n 0, 1) := by decide +kernel
theorem dX5_init_15 : decode cX5_init 15 = .ok (.iconst 0, 1) := by decide +kernel
theorem dX5_init_16 : decode cX5_init 16 = .ok (.putfield 18, 3) := by decide +kernel
theorem dX5_init_19 : decode cX5_init 19 = .ok (.aload_n 0, 1) := by decide +kernel
theorem dX5_init_20 : decode cX5_init 20 = .ok (.iconst 0, 1) := by decide +kernel
theorem dX5_init_21 : decode cX5_init 21 = .ok (.putfield 21, 3) := by decide +kernel
theorem dX5_init_24 : decode cX5_init 24 = .ok (.aload_n 0, 1) := by decide +kernel
theorem dX5_init_25 : decode cX5_init 25 = .ok (.iconst 0, 1) := by decide +kernel
theorem dX5_init_26 : decode cX5_init 26 = .ok (.putfield 24, 3) := by decide +kernel
theorem dX5_init_29 : decode cX5_init 29 = .ok (.aload_n 0, 1) := by decide +kernel
theorem dX5_init_30 : decode cX5_init 30 = .ok (.bipush (-6), 2) := by decide +kernel
theorem dX5_init_32 : decode cX5_init 32 = .ok (.putfield 27, 3) := by decide +kernel
theorem dX5_init_35 : decode cX5_init 35 = .ok (.aload_n 0, 1) := by decide +kernel
theorem dX5_init_36 : decode cX5_init 36 = .ok (.iconst 0, 1) := by decide +kernel
theorem dX5_init_37 : decode cX5_init 37 = .ok (.putfield 30, 3) := by decide +kernel
theorem dX5_init_40 : decode cX5_init 40 = .ok (.aload_n 0, 1) := by decide +kernel
theorem dX5_init_41 : decode cX5_init 41 = .ok (.iconst 0, 1) := by decide +kernel
theorem dX5_init_42 : decode cX5_init 42 = .ok (.putfield 33, 3) := by decide +kernel
theorem dX5_init_45 : decode cX5_init 45 = .ok (.return_, 1) := by decide +kernel
theorem dX5_come_0 : decode cX5_come 0 = .ok (.aload_n 0, 1) := by decide +kernel
theorem dX5_come_1 : decode cX5_come 1 = .ok (.iload_n 1, 1) := by decide +kernel
theorem dX5_come_2 : decode cX5_come 2 = .ok (.putfield 9, 3) := by decide +kernel
theorem dX5_come_5 : decode cX5_come 5 = .ok (.aload_n 0, 1) := by decide +kernel
theorem dX5_come_6 : decode cX5_come 6 = .ok (.iload_n 2, 1) := by decide +kernel
theorem dX5_come_7 : decode cX5_come 7 = .ok (.putfield 15, 3) := by decide +kernel
theorem dX5_come_10 : decode cX5_come 10 = .ok (.aload_n 0, 1) := by decide +kernel
theorem dX5_come_11 : decode cX5_come 11 = .ok (.iload_n 3, 1) := by decide +kernel
theorem dX5_come_12 : decode cX5_come 12 = .ok (.putfield 18, 3) := by decide +kernel
theorem dX5_come_15 : decode cX5_come 15 = .ok (.aload_n 0, 1) := by decide +kernel
theorem dX5_come_16 : decode cX5_come 16 = .ok (.iload 4, 2) := by decide +kernel
theorem dX5_come_18 : decode cX5_come 18 = .ok (.putfield 21, 3) := by decide +kernel
theorem dX5_come_21 : decode cX5_come 21 = .ok (.aload_n 0, 1) := by decide +kernel
theorem dX5_come_22 : decode cX5_come 22 = .ok (.iconst 0, 1) := by decide +kernel
theorem dX5_come_23 : decode cX5_come 23 = .ok (.putfield 24, 3) := by decide +kernel
theorem dX5_come_26 : decode cX5_come 26 = .ok (.aload_n 0, 1) := by decide +kernel
theorem dX5_come_27 : decode cX5_come 27 = .ok (.bipush (-6), 2) := by decide +kernel
theorem dX5_come_29 : decode cX5_come 29 = .ok (.putfield 27, 3) := by decide +kernel
theorem dX5_come_32 : decode cX5_come 32 = .ok (.aload_n 0, 1) := by decide +kernel
theorem dX5_come_33 : decode cX5_come 33 = .ok (.iconst 0, 1) := by decide +kernel
theorem dX5_come_34 : decode cX5_come 34 = .ok (.putfield 30, 3) := by decide +kernel
theorem dX5_come_37 : decode cX5_come 37 = .ok (.aload_n 0, 1) := by decide +kernel
theorem dX5_come_38 : decode cX5_come 38 = .ok (.iconst 0, 1) := by decide +kernel
theorem dX5_come_39 : decode cX5_come 39 = .ok (.putfield 33, 3) := by decide +kernel
theorem dX5_come_42 : decode cX5_come 42 = .ok (.return_, 1) := by decide +kernel
theorem dX5_copyFrom_0 : decode cX5_copyFrom 0 = .ok (.aload_n 1, 1) := by decide +kernel
theorem dX5_copyFrom_1 : decode cX5_copyFrom 1 = .ok (.ifnonnull 4, 3) := by decide +kernel
theorem dX5_copyFrom_4 : decode cX5_copyFrom 4 = .ok (.return_, 1) := by decide +kernel
theorem dX5_copyFrom_5 : decode cX5_copyFrom 5 = .ok (.aload_n 0, 1) := by decide +kernel
theorem dX5_copyFrom_6 : decode cX5_copyFrom 6 = .ok (.aload_n 1, 1) := by decide +kernel
theorem dX5_copyFrom_7 : decode cX5_copyFrom 7 = .ok (.getfield 9, 3) := by decide +kernel
theorem dX5_copyFrom_10 : decode cX5_copyFrom 10 = .ok (.putfield 9, 3) := by decide +kernel
theorem dX5_copyFrom_13 : decode cX5_copyFrom 13 = .ok (.aload_n 0, 1) := by decide +kernel
theorem dX5_copyFrom_14 : decode cX5_copyFrom 14 = .ok (.aload_n 1, 1) := by decide +kernel
theorem dX5_copyFrom_15 : decode cX5_copyFrom 15 = .ok (.getfield 15, 3) := by decide +kernel
theorem dX5_copyFrom_18 : decode cX5_copyFrom 18 = .ok (.putfield 15, 3) := by decide +kernel
theorem dX5_copyFrom_21 : decode cX5_copyFrom 21 = .ok (.aload_n 0, 1) := by decide +kernel
theorem dX5_copyFrom_22 : decode cX5_copyFrom 22 = .ok (.aload_n 1, 1) := by decide +kernel
theorem dX5_copyFrom_23 : decode cX5_copyFrom 23 = .ok (.getfield 18, 3) := by decide +kernel
theorem dX5_copyFrom_26 : decode cX5_copyFrom 26 = .ok (.putfield 18, 3) := by decide +kernel
theorem dX5_copyFrom_29 : decode cX5_copyFrom 29 = .ok (.aload_n 0, 1) := by decide +kernel
theorem dX5_copyFrom_30 : decode cX5_copyFrom 30 = .ok (.aload_n 1, 1) := by decide +kernel
theorem dX5_copyFrom_31 : decode cX5_copyFrom 31 = .ok (.getfield 21, 3) := by decide +kernel
theorem dX5_copyFrom_34 : decode cX5_copyFrom 34 = .ok (.putfield 21, 3) := by decide +kernel
theorem dX5_copyFrom_37 : decode cX5_copyFrom 37 = .ok (.aload_n 0, 1) := by decide +kernel
theorem dX5_copyFrom_38 : decode cX5_copyFrom 38 = .ok (.aload_n 1, 1) := by decide +kernel
theorem dX5_copyFrom_39 : decode cX5_copyFrom 39 = .ok (.getfield 24, 3) := by decide +kernel
theorem dX5_copyFrom_42 : decode cX5_copyFrom 42 = .ok (.putfield 24, 3) := by decide +kernel
theorem dX5_copyFrom_45 : decode cX5_copyFrom 45 = .ok (.aload_n 0, 1) := by decide +kernel
theorem dX5_copyFrom_46 : decode cX5_copyFrom 46 = .ok (.aload_n 1, 1) := by decide +kernel
theorem dX5_copyFrom_47 : decode cX5_copyFrom 47 = .ok (.getfield 27, 3) := by decide +kernel
theorem dX5_copyFrom_50 : decode cX5_copyFrom 50 = .ok (.putfield 27, 3) := by decide +kernel
theorem dX5_copyFrom_53 : decode cX5_copyFrom 53 = .ok (.aload_n 0, 1) := by decide +kernel
theorem dX5_copyFrom_54 : decode cX5_copyFrom 54 = .ok (.aload_n 1, 1) := by decide +kernel
theorem dX5_copyFrom_55 : decode cX5_copyFrom 55 = .ok (.getfield 30, 3) := by decide +kernel
theorem dX5_copyFrom_58 : decode cX5_copyFrom 58 = .ok (.putfield 30, 3) := by decide +kernel
theorem dX5_copyFrom_61 : decode cX5_copyFrom 61 = .ok (.aload_n 0, 1) := by decide +kernel
theorem dX5_copyFrom_62 : decode cX5_copyFrom 62 = .ok (.aload_n 1, 1) := by decide +kernel
theorem dX5_copyFrom_63 : decode cX5_copyFrom 63 = .ok (.getfield 33, 3) := by decide +kernel
theorem dX5_copyFrom_66 : decode cX5_copyFrom 66 = .ok (.putfield 33, 3) := by decide +kernel
theorem dX5_copyFrom_69 : decode cX5_copyFrom 69 = .ok (.return_, 1) := by decide +kernel
theorem dX5_isHere_0 : decode cX5_isHere 0 = .ok (.aload_n 0, 1) := by decide +kernel
theorem dX5_isHere_1 : decode cX5_isHere 1 = .ok (.getfield 24, 3) := by decide +kernel
theorem dX5_isHere_4 : decode cX5_isHere 4 = .ok (.ifCond .eq 11, 3) := by decide +kernel
theorem dX5_isHere_7 : decode cX5_isHere 7 = .ok (.aload_n 0, 1) := by decide +kernel
theorem dX5_isHere_8 : decode cX5_isHere 8 = .ok (.getfield 24, 3) := by decide +kernel
theorem dX5_isHere_11 : decode cX5_isHere 11 = .ok (.iconst 1, 1) := by decide +kernel
theorem dX5_isHere_12 : decode cX5_isHere 12 = .ok (.if_icmp .ne 7, 3) := by decide +kernel
theorem dX5_isHere_15 : decode cX5_isHere 15 = .ok (.iconst 1, 1) := by decide +kernel
theorem dX5_isHere_16 : decode cX5_isHere 16 = .ok (.goto 4, 3) := by decide +kernel
theorem dX5_isHere_19 : decode cX5_isHere 19 = .ok (.iconst 0, 1) := by decide +kernel
theorem dX5_isHere_20 : decode cX5_isHere 20 = .ok (.ireturn, 1) := by decide +kernel
theorem dX5_end_0 : decode cX5_end 0 = .ok (.aload_n 0, 1) := by decide +kernel
theorem dX5_end_1 : decode cX5_end 1 = .ok (.iload_n 1, 1) := by decide +kernel
theorem dX5_end_2 : decode cX5_end 2 = .ok (.putfield 24, 3) := by decide +kernel
theorem dX5_end_5 : decode cX5_end 5 = .ok (.aload_n 0, 1) := by decide +kernel
theorem dX5_end_6 : decode cX5_end 6 = .ok (.bipush (-6), 2) := by decide +kernel
theorem dX5_end_8 : decode cX5_end 8 = .ok (.putfield 27, 3) := by decide +kernel
theorem dX5_end_11 : decode cX5_end 11 = .ok (.return_, 1) := by decide +kernel
theorem dX5_tryTest_0 : decode cX5_tryTest 0 = .ok (.aload_n 0, 1) := by decide +kernel
theorem dX5_tryTest_1 : decode cX5_tryTest 1 = .ok (.getfield 21, 3) := by decide +kernel
theorem dX5_tryTest_4 : decode cX5_tryTest 4 = .ok (.ifCond .ne 5, 3) := by decide +kernel
theorem dX5_tryTest_7 : decode cX5_tryTest 7 = .ok (.iconst 1, 1) := by decide +kernel
theorem dX5_tryTest_8 : decode cX5_tryTest 8 = .ok (.ireturn, 1) := by decide +kernel
theorem dX5_tryTest_9 : decode cX5_tryTest 9 = .ok (.iload_n 1, 1) := by decide +kernel
theorem dX5_tryTest_10 : decode cX5_tryTest 10 = .ok (.iload_n 2, 1) := by decide +kernel
theorem dX5_tryTest_11 : decode cX5_tryTest 11 = .ok (.iadd, 1) := by decide +kernel
theorem dX5_tryTest_12 : decode cX5_tryTest 12 = .ok (.aload_n 0, 1) := by decide +kernel
theorem dX5_tryTest_13 : decode cX5_tryTest 13 = .ok (.getfield 9, 3) := by decide +kernel
theorem dX5_tryTest_16 : decode cX5_tryTest 16 = .ok (.iadd, 1) := by decide +kernel
theorem dX5_tryTest_17 : decode cX5_tryTest 17 = .ok (.iconst 3, 1) := by decide +kernel
theorem dX5_tryTest_18 : decode cX5_tryTest 18 = .ok (.irem, 1) := by decide +kernel
theorem dX5_tryTest_19 : decode cX5_tryTest 19 = .ok (.ifCond .eq 20, 3) := by decide +kernel
theorem dX5_tryTest_22 : decode cX5_tryTest 22 = .ok (.aload_n 0, 1) := by decide +kernel
theorem dX5_tryTest_23 : decode cX5_tryTest 23 = .ok (.dup, 1) := by decide +kernel
theorem dX5_tryTest_24 : decode cX5_tryTest 24 = .ok (.getfield 21, 3) := by decide +kernel
theorem dX5_tryTest_27 : decode cX5_tryTest 27 = .ok (.aload_n 0, 1) := by decide +kernel
theorem dX5_tryTest_28 : decode cX5_tryTest 28 = .ok (.getfield 21, 3) := by decide +kernel
theorem dX5_tryTest_31 : decode cX5_tryTest 31 = .ok (.iconst 1, 1) := by decide +kernel
theorem dX5_tryTest_32 : decode cX5_tryTest 32 = .ok (.isub, 1) := by decide +kernel
theorem dX5_tryTest_33 : decode cX5_tryTest 33 = .ok (.iand, 1) := by decide +kernel
theorem dX5_tryTest_34 : decode cX5_tryTest 34 = .ok (.putfield 21, 3) := by decide +kernel
theorem dX5_tryTest_37 : decode cX5_tryTest 37 = .ok (.iconst 1, 1) := by decide +kernel
theorem dX5_tryTest_38 : decode cX5_tryTest 38 = .ok (.ireturn, 1) := by decide +kernel
theorem dX5_tryTest_39 : decode cX5_tryTest 39 = .ok (.aload_n 0, 1) := by decide +kernel
theorem dX5_tryTest_40 : decode cX5_tryTest 40 = .ok (.dup, 1) := by decide +kernel
theorem dX5_tryTest_41 : decode cX5_tryTest 41 = .ok (.getfield 15, 3) := by decide +kernel
theorem dX5_tryTest_44 : decode cX5_tryTest 44 = .ok (.iconst 1, 1) := by decide +kernel
theorem dX5_tryTest_45 : decode cX5_tryTest 45 = .ok (.aload_n 0, 1) := by decide +kernel
theorem dX5_tryTest_46 : decode cX5_tryTest 46 = .ok (.getfield 9, 3) := by decide +kernel
theorem dX5_tryTest_49 : decode cX5_tryTest 49 = .ok (.ishl, 1) := by decide +kernel
theorem dX5_tryTest_50 : decode cX5_tryTest 50 = .ok (.ior, 1) := by decide +kernel
theorem dX5_tryTest_51 : decode cX5_tryTest 51 = .ok (.putfield 15, 3) := by decide +kernel
theorem dX5_tryTest_54 : decode cX5_tryTest 54 = .ok (.aload_n 0, 1) := by decide +kernel
theorem dX5_tryTest_55 : decode cX5_tryTest 55 = .ok (.dup, 1) := by decide +kernel
theorem dX5_tryTest_56 : decode cX5_tryTest 56 = .ok (.getfield 30, 3) := by decide +kernel
theorem dX5_tryTest_59 : decode cX5_tryTest 59 = .ok (.iconst 1, 1) := by decide +kernel
theorem dX5_tryTest_60 : decode cX5_tryTest 60 = .ok (.iadd, 1) := by decide +kernel
theorem dX5_tryTest_61 : decode cX5_tryTest 61 = .ok (.putfield 30, 3) := by decide +kernel
theorem dX5_tryTest_64 : decode cX5_tryTest 64 = .ok (.aload_n 0, 1) := by decide +kernel
theorem dX5_tryTest_65 : decode cX5_tryTest 65 = .ok (.getfield 30, 3) := by decide +kernel
theorem dX5_tryTest_68 : decode cX5_tryTest 68 = .ok (.iconst 3, 1) := by decide +kernel
theorem dX5_tryTest_69 : decode cX5_tryTest 69 = .ok (.if_icmp .ge 7, 3) := by decide +kernel
theorem dX5_tryTest_72 : decode cX5_tryTest 72 = .ok (.iconst 1, 1) := by decide +kernel
theorem dX5_tryTest_73 : decode cX5_tryTest 73 = .ok (.goto 4, 3) := by decide +kernel
theorem dX5_tryTest_76 : decode cX5_tryTest 76 = .ok (.iconst 0, 1) := by decide +kernel
theorem dX5_tryTest_77 : decode cX5_tryTest 77 = .ok (.ireturn, 1) := by decide +kernel
theorem dX6_init_0 : decode cX6_init 0 = .ok (.aload_n 0, 1) := by decide +kernel
theorem dX6_init_1 : decode cX6_init 1 = .ok (.invokespecial 1, 3) := by decide +kernel
theorem dX6_init_4 : decode cX6_init 4 = .ok (.aload_n 0, 1) := by decide +kernel
theorem dX6_init_5 : decode cX6_init 5 = .ok (.new 7, 3) := by decide +kernel
theorem dX6_init_8 : decode cX6_init 8 = .ok (.dup, 1) := by decide +kernel
theorem dX6_init_9 : decode cX6_init 9 = .ok (.invokespecial 9, 3) := by decide +kernel
theorem dX6_init_12 : decode cX6_init 12 = .ok (.putfield 10, 3) := by decide +kernel
theorem dX6_init_15 : decode cX6_init 15 = .ok (.aload_n 0, 1) := by decide +kernel
theorem dX6_init_16 : decode cX6_init 16 = .ok (.new 7, 3) := by decide +kernel
theorem dX6_init_19 : decode cX6_init 19 = .ok (.dup, 1) := by decide +kernel
theorem dX6_init_20 : decode cX6_init 20 = .ok (.invokespecial 9, 3) := by decide +kernel
theorem dX6_init_23 : decode cX6_init 23 = .ok (.putfield 16, 3) := by decide +kernel
theorem dX6_init_26 : decode cX6_init 26 = .ok (.aload_n 0, 1) := by decide +kernel
theorem dX6_init_27 : decode cX6_init 27 = .ok (.new 19, 3) := by decide +kernel
theorem dX6_init_30 : decode cX6_init 30 = .ok (.dup, 1) := by decide +kernel
theorem dX6_init_31 : decode cX6_init 31 = .ok (.invokespecial 21, 3) := by decide +kernel
theorem dX6_init_34 : decode cX6_init 34 = .ok (.putfield 22, 3) := by decide +kernel
theorem dX6_init_37 : decode cX6_init 37 = .ok (.aload_n 0, 1) := by decide +kernel
theorem dX6_init_38 : decode cX6_init 38 = .ok (.iconst 2, 1) := by decide +kernel
theorem dX6_init_39 : decode cX6_init 39 = .ok (.anewarray 7, 3) := by decide +kernel
theorem dX6_init_42 : decode cX6_init 42 = .ok (.putfield 26, 3) := by decide +kernel
theorem dX6_init_45 : decode cX6_init 45 = .ok (.aload_n 0, 1) := by decide +kernel
theorem dX6_init_46 : decode cX6_init 46 = .ok (.new 30, 3) := by decide +kernel
theorem dX6_init_49 : decode cX6_init 49 = .ok (.dup, 1) := by decide +kernel
theorem dX6_init_50 : decode cX6_init 50 = .ok (.invokespecial 32, 3) := by decide +kernel
theorem dX6_init_53 : decode cX6_init 53 = .ok (.putfield 33, 3) := by decide +kernel
theorem dX6_init_56 : decode cX6_init 56 = .ok (.return_, 1) := by decide +kernel
theorem dX6_thing_0 : decode cX6_thing 0 = .ok (.aload_n 0, 1) := by decide +kernel
theorem dX6_thing_1 : decode cX6_thing 1 = .ok (.getfield 22, 3) := by decide +kernel
theorem dX6_thing_4 : decode cX6_thing 4 = .ok (.aload_n 0, 1) := by decide +kernel
theorem dX6_thing_5 : decode cX6_thing 5 = .ok (.getfield 10, 3) := by decide +kernel
theorem dX6_thing_8 : decode cX6_thing 8 = .ok (.invokevirtual 37, 3) := by decide +kernel
theorem dX6_thing_11 : decode cX6_thing 11 = .ok (.aload_n 0, 1) := by decide +kernel
theorem dX6_thing_12 : decode cX6_thing 12 = .ok (.aload_n 0, 1) := by decide +kernel
theorem dX6_thing_13 : decode cX6_thing 13 = .ok (.getfield 10, 3) := by decide +kernel
theorem dX6_thing_16 : decode cX6_thing 16 = .ok (.iload_n 1, 1) := by decide +kernel
theorem dX6_thing_17 : decode cX6_thing 17 = .ok (.iload_n 2, 1) := by decide +kernel
theorem dX6_thing_18 : decode cX6_thing 18 = .ok (.iload_n 3, 1) := by decide +kernel
theorem dX6_thing_19 : decode cX6_thing 19 = .ok (.iload 4, 2) := by decide +kernel
theorem dX6_thing_21 : decode cX6_thing 21 = .ok (.invokevirtual 41, 3) := by decide +kernel
theorem dX6_thing_24 : decode cX6_thing 24 = .ok (.invokevirtual 45, 3) := by decide +kernel
theorem dX6_thing_27 : decode cX6_thing 27 = .ok (.ireturn, 1) := by decide +kernel
theorem dX6_fixer_0 : decode cX6_fixer 0 = .ok (.aload_n 0, 1) := by decide +kernel
theorem dX6_fixer_1 : decode cX6_fixer 1 = .ok (.getfield 22, 3) := by decide +kernel
theorem dX6_fixer_4 : decode cX6_fixer 4 = .ok (.aload_n 0, 1) := by decide +kernel
theorem dX6_fixer_5 : decode cX6_fixer 5 = .ok (.getfield 10, 3) := by decide +kernel
theorem dX6_fixer_8 : decode cX6_fixer 8 = .ok (.invokevirtual 37, 3) := by decide +kernel
theorem dX6_fixer_11 : decode cX6_fixer 11 = .ok (.aload_n 0, 1) := by decide +kernel
theorem dX6_fixer_12 : decode cX6_fixer 12 = .ok (.aload_n 0, 1) := by decide +kernel
theorem dX6_fixer_13 : decode cX6_fixer 13 = .ok (.getfield 10, 3) := by decide +kernel
theorem dX6_fixer_16 : decode cX6_fixer 16 = .ok (.iload_n 1, 1) := by decide +kernel
theorem dX6_fixer_17 : decode cX6_fixer 17 = .ok (.iload_n 2, 1) := by decide +kernel
theorem dX6_fixer_18 : decode cX6_fixer 18 = .ok (.invokevirtual 49, 3) := by decide +kernel
theorem dX6_fixer_21 : decode cX6_fixer 21 = .ok (.invokevirtual 45, 3) := by decide +kernel
theorem dX6_fixer_24 : decode cX6_fixer 24 = .ok (.ireturn, 1) := by decide +kernel
theorem dX6_drawer_0 : decode cX6_drawer 0 = .ok (.aload_n 0, 1) := by decide +kernel
theorem dX6_drawer_1 : decode cX6_drawer 1 = .ok (.getfield 22, 3) := by decide +kernel
theorem dX6_drawer_4 : decode cX6_drawer 4 = .ok (.aload_n 0, 1) := by decide +kernel
theorem dX6_drawer_5 : decode cX6_drawer 5 = .ok (.getfield 10, 3) := by decide +kernel
theorem dX6_drawer_8 : decode cX6_drawer 8 = .ok (.invokevirtual 37, 3) := by decide +kernel
theorem dX6_drawer_11 : decode cX6_drawer 11 = .ok (.aload_n 0, 1) := by decide +kernel
theorem dX6_drawer_12 : decode cX6_drawer 12 = .ok (.aload_n 0, 1) := by decide +kernel
theorem dX6_drawer_13 : decode cX6_drawer 13 = .ok (.getfield 10, 3) := by decide +kernel
theorem dX6_drawer_16 : decode cX6_drawer 16 = .ok (.iload_n 1, 1) := by decide +kernel
theorem dX6_drawer_17 : decode cX6_drawer 17 = .ok (.iload_n 2, 1) := by decide +kernel
theorem dX6_drawer_18 : decode cX6_drawer 18 = .ok (.invokevirtual 53, 3) := by decide +kernel
theorem dX6_drawer_21 : decode cX6_drawer 21 = .ok (.invokevirtual 45, 3) := by decide +kernel
theorem dX6_drawer_24 : decode cX6_drawer 24 = .ok (.ireturn, 1) := by decide +kernel
theorem dX6_giveUp_0 : decode cX6_giveUp 0 = .ok (.aload_n 0, 1) := by decide +kernel
theorem dX6_giveUp_1 : decode cX6_giveUp 1 = .ok (.getfield 22, 3) := by decide +kernel
theorem dX6_giveUp_4 : decode cX6_giveUp 4 = .ok (.aload_n 0, 1) := by decide +kernel
theorem dX6_giveUp_5 : decode cX6_giveUp 5 = .ok (.getfield 10, 3) := by decide +kernel
theorem dX6_giveUp_8 : decode cX6_giveUp 8 = .ok (.invokevirtual 37, 3) := by decide +kernel
theorem dX6_giveUp_11 : decode cX6_giveUp 11 = .ok (.aload_n 0, 1) := by decide +kernel
theorem dX6_giveUp_12 : decode cX6_giveUp 12 = .ok (.aload_n 0, 1) := by decide +kernel
theorem dX6_giveUp_13 : decode cX6_giveUp 13 = .ok (.getfield 10, 3) := by decide +kernel
theorem dX6_giveUp_16 : decode cX6_giveUp 16 = .ok (.iload_n 1, 1) := by decide +kernel
theorem dX6_giveUp_17 : decode cX6_giveUp 17 = .ok (.invokevirtual 56, 3) := by decide +kernel
theorem dX6_giveUp_20 : decode cX6_giveUp 20 = .ok (.invokevirtual 45, 3) := by decide +kernel
theorem dX6_giveUp_23 : decode cX6_giveUp 23 = .ok (.ireturn, 1) := by decide +kernel
theorem dX6_pass_0 : decode cX6_pass 0 = .ok (.aload_n 0, 1) := by decide +kernel
theorem dX6_pass_1 : decode cX6_pass 1 = .ok (.getfield 22, 3) := by decide +kernel
theorem dX6_pass_4 : decode cX6_pass 4 = .ok (.aload_n 0, 1) := by decide +kernel
theorem dX6_pass_5 : decode cX6_pass 5 = .ok (.getfield 10, 3) := by decide +kernel
theorem dX6_pass_8 : decode cX6_pass 8 = .ok (.invokevirtual 37, 3) := by decide +kernel
theorem dX6_pass_11 : decode cX6_pass 11 = .ok (.aload_n 0, 1) := by decide +kernel
theorem dX6_pass_12 : decode cX6_pass 12 = .ok (.aload_n 0, 1) := by decide +kernel
theorem dX6_pass_13 : decode cX6_pass 13 = .ok (.getfield 10, 3) := by decide +kernel
theorem dX6_pass_16 : decode cX6_pass 16 = .ok (.iload_n 1, 1) := by decide +kernel
theorem dX6_pass_17 : decode cX6_pass 17 = .ok (.invokevirtual 59, 3) := by decide +kernel
theorem dX6_pass_20 : decode cX6_pass 20 = .ok (.invokevirtual 45, 3) := by decide +kernel
theorem dX6_pass_23 : decode cX6_pass 23 = .ok (.ireturn, 1) := by decide +kernel
theorem dX6_ofThing_0 : decode cX6_ofThing 0 = .ok (.aload_n 0, 1) := by decide +kernel
theorem dX6_ofThing_1 : decode cX6_ofThing 1 = .ok (.getfield 10, 3) := by decide +kernel
theorem dX6_ofThing_4 : decode cX6_ofThing 4 = .ok (.iload_n 1, 1) := by decide +kernel
theorem dX6_ofThing_5 : decode cX6_ofThing 5 = .ok (.invokevirtual 62, 3) := by decide +kernel
theorem dX6_ofThing_8 : decode cX6_ofThing 8 = .ok (.astore_n 3, 1) := by decide +kernel
theorem dX6_ofThing_9 : decode cX6_ofThing 9 = .ok (.aload_n 3, 1) := by decide +kernel
theorem dX6_ofThing_10 : decode cX6_ofThing 10 = .ok (.ifnonnull 5, 3) := by decide +kernel
theorem dX6_ofThing_13 : decode cX6_ofThing 13 = .ok (.iconst (-1), 1) := by decide +kernel
theorem dX6_ofThing_14 : decode cX6_ofThing 14 = .ok (.ireturn, 1) := by decide +kernel
theorem dX6_ofThing_15 : decode cX6_ofThing 15 = .ok (.iload_n 2, 1) := by decide +kernel
theorem dX6_ofThing_16 : decode cX6_ofThing 16 = .ok (.tableswitch 101 0 8 #[52, 57, 62, 67, 72, 77, 82, 87, 92], 52) := by decide +kernel
theorem dX6_ofThing_68 : decode cX6_ofThing 68 = .ok (.aload_n 3, 1) := by decide +kernel
theorem dX6_ofThing_69 : decode cX6_ofThing 69 = .ok (.getfield 66, 3) := by decide +kernel
theorem dX6_ofThing_72 : decode cX6_ofThing 72 = .ok (.ireturn, 1) := by decide +kernel
theorem dX6_ofThing_73 : decode cX6_ofThing 73 = .ok (.aload_n 3, 1) := by decide +kernel
theorem dX6_ofThing_74 : decode cX6_ofThing 74 = .ok (.getfield 72, 3) := by decide +kernel
theorem dX6_ofThing_77 : decode cX6_ofThing 77 = .ok (.ireturn, 1) := by decide +kernel
theorem dX6_ofThing_78 : decode cX6_ofThing 78 = .ok (.aload_n 3, 1) := by decide +kernel
theorem dX6_ofThing_79 : decode cX6_ofThing 79 = .ok (.getfield 75, 3) := by decide +kernel
theorem dX6_ofThing_82 : decode cX6_ofThing 82 = .ok (.ireturn, 1) := by decide +kernel
theorem dX6_ofThing_83 : decode cX6_ofThing 83 = .ok (.aload_n 3, 1) := by decide +kernel
theorem dX6_ofThing_84 : decode cX6_ofThing 84 = .ok (.getfield 78, 3) := by decide +kernel
theorem dX6_ofThing_87 : decode cX6_ofThing 87 = .ok (.ireturn, 1) := by decide +kernel
theorem dX6_ofThing_88 : decode cX6_ofThing 88 = .ok (.aload_n 3, 1) := by decide +kernel
theorem dX6_ofThing_89 : decode cX6_ofThing 89 = .ok (.getfield 81, 3) := by decide +kernel
theorem dX6_ofThing_92 : decode cX6_ofThing 92 = .ok (.ireturn, 1) := by decide +kernel
theorem dX6_ofThing_93 : decode cX6_ofThing 93 = .ok (.aload_n 3, 1) := by decide +kernel
theorem dX6_ofThing_94 : decode cX6_ofThing 94 = .ok (.getfield 84, 3) := by decide +kernel
theorem dX6_ofThing_97 : decode cX6_ofThing 97 = .ok (.ireturn, 1) := by decide +kernel
theorem dX6_ofThing_98 : decode cX6_ofThing 98 = .ok (.aload_n 3, 1) := by decide +kernel
theorem dX6_ofThing_99 : decode cX6_ofThing 99 = .ok (.getfield 87, 3) := by decide +kernel
theorem dX6_ofThing_102 : decode cX6_ofThing 102 = .ok (.ireturn, 1) := by decide +kernel
theorem dX6_ofThing_103 : decode cX6_ofThing 103 = .ok (.aload_n 3, 1) := by decide +kernel
theorem dX6_ofThing_104 : decode cX6_ofThing 104 = .ok (.getfield 90, 3) := by decide +kernel
theorem dX6_ofThing_107 : decode cX6_ofThing 107 = .ok (.ireturn, 1) := by decide +kernel
theorem dX6_ofThing_108 : decode cX6_ofThing 108 = .ok (.aload_n 0, 1) := by decide +kernel
theorem dX6_ofThing_109 : decode cX6_ofThing 109 = .ok (.getfield 10, 3) := by decide +kernel
theorem dX6_ofThing_112 : decode cX6_ofThing 112 = .ok (.iload_n 1, 1) := by decide +kernel
theorem dX6_ofThing_113 : decode cX6_ofThing 113 = .ok (.invokevirtual 93, 3) := by decide +kernel
theorem dX6_ofThing_116 : decode cX6_ofThing 116 = .ok (.ireturn, 1) := by decide +kernel
theorem dX6_ofThing_117 : decode cX6_ofThing 117 = .ok (.bipush (-2), 2) := by decide +kernel
theorem dX6_ofThing_119 : decode cX6_ofThing 119 = .ok (.ireturn, 1) := by decide +kernel
theorem dX6_ofFixer_0 : decode cX6_ofFixer 0 = .ok (.aload_n 0, 1) := by decide +kernel
theorem dX6_ofFixer_1 : decode cX6_ofFixer 1 = .ok (.getfield 10, 3) := by decide +kernel
theorem dX6_ofFixer_4 : decode cX6_ofFixer 4 = .ok (.iload_n 1, 1) := by decide +kernel
theorem dX6_ofFixer_5 : decode cX6_ofFixer 5 = .ok (.invokevirtual 96, 3) := by decide +kernel
theorem dX6_ofFixer_8 : decode cX6_ofFixer 8 = .ok (.astore_n 3, 1) := by decide +kernel
theorem dX6_ofFixer_9 : decode cX6_ofFixer 9 = .ok (.aload_n 3, 1) := by decide +kernel
theorem dX6_ofFixer_10 : decode cX6_ofFixer 10 = .ok (.ifnonnull 5, 3) := by decide +kernel
theorem dX6_ofFixer_13 : decode cX6_ofFixer 13 = .ok (.iconst (-1), 1) := by decide +kernel
theorem dX6_ofFixer_14 : decode cX6_ofFixer 14 = .ok (.ireturn, 1) := by decide +kernel
theorem dX6_ofFixer_15 : decode cX6_ofFixer 15 = .ok (.iload_n 2, 1) := by decide +kernel
theorem dX6_ofFixer_16 : decode cX6_ofFixer 16 = .ok (.tableswitch 86 0 6 #[44, 49, 54, 59, 64, 69, 74], 44) := by decide +kernel
theorem dX6_ofFixer_60 : decode cX6_ofFixer 60 = .ok (.aload_n 3, 1) := by decide +kernel
theorem dX6_ofFixer_61 : decode cX6_ofFixer 61 = .ok (.getfield 100, 3) := by decide +kernel
theorem dX6_ofFixer_64 : decode cX6_ofFixer 64 = .ok (.ireturn, 1) := by decide +kernel
theorem dX6_ofFixer_65 : decode cX6_ofFixer 65 = .ok (.aload_n 3, 1) := by decide +kernel
theorem dX6_ofFixer_66 : decode cX6_ofFixer 66 = .ok (.getfield 105, 3) := by decide +kernel
theorem dX6_ofFixer_69 : decode cX6_ofFixer 69 = .ok (.ireturn, 1) := by decide +kernel
theorem dX6_ofFixer_70 : decode cX6_ofFixer 70 = .ok (.aload_n 3, 1) := by decide +kernel
theorem dX6_ofFixer_71 : decode cX6_ofFixer 71 = .ok (.getfield 108, 3) := by decide +kernel
theorem dX6_ofFixer_74 : decode cX6_ofFixer 74 = .ok (.ireturn, 1) := by decide +kernel
theorem dX6_ofFixer_75 : decode cX6_ofFixer 75 = .ok (.aload_n 3, 1) := by decide +kernel
theorem dX6_ofFixer_76 : decode cX6_ofFixer 76 = .ok (.getfield 111, 3) := by decide +kernel
theorem dX6_ofFixer_79 : decode cX6_ofFixer 79 = .ok (.ireturn, 1) := by decide +kernel
theorem dX6_ofFixer_80 : decode cX6_ofFixer 80 = .ok (.aload_n 3, 1) := by decide +kernel
theorem dX6_ofFixer_81 : decode cX6_ofFixer 81 = .ok (.getfield 114, 3) := by decide +kernel
theorem dX6_ofFixer_84 : decode cX6_ofFixer 84 = .ok (.ireturn, 1) := by decide +kernel
theorem dX6_ofFixer_85 : decode cX6_ofFixer 85 = .ok (.aload_n 3, 1) := by decide +kernel
theorem dX6_ofFixer_86 : decode cX6_ofFixer 86 = .ok (.getfield 117, 3) := by decide +kernel
theorem dX6_ofFixer_89 : decode cX6_ofFixer 89 = .ok (.ireturn, 1) := by decide +kernel
theorem dX6_ofFixer_90 : decode cX6_ofFixer 90 = .ok (.aload_n 0, 1) := by decide +kernel
theorem dX6_ofFixer_91 : decode cX6_ofFixer 91 = .ok (.getfield 10, 3) := by decide +kernel
theorem dX6_ofFixer_94 : decode cX6_ofFixer 94 = .ok (.aload_n 3, 1) := by decide +kernel
theorem dX6_ofFixer_95 : decode cX6_ofFixer 95 = .ok (.getfield 100, 3) := by decide +kernel
theorem dX6_ofFixer_98 : decode cX6_ofFixer 98 = .ok (.invokevirtual 120, 3) := by decide +kernel
theorem dX6_ofFixer_101 : decode cX6_ofFixer 101 = .ok (.ireturn, 1) := by decide +kernel
theorem dX6_ofFixer_102 : decode cX6_ofFixer 102 = .ok (.bipush (-2), 2) := by decide +kernel
theorem dX6_ofFixer_104 : decode cX6_ofFixer 104 = .ok (.ireturn, 1) := by decide +kernel
theorem dX6_ofPart_0 : decode cX6_ofPart 0 = .ok (.aload_n 0, 1) := by decide +kernel
theorem dX6_ofPart_1 : decode cX6_ofPart 1 = .ok (.getfield 10, 3) := by decide +kernel
theorem dX6_ofPart_4 : decode cX6_ofPart 4 = .ok (.iload_n 1, 1) := by decide +kernel
theorem dX6_ofPart_5 : decode cX6_ofPart 5 = .ok (.invokevirtual 123, 3) := by decide +kernel
theorem dX6_ofPart_8 : decode cX6_ofPart 8 = .ok (.astore_n 3, 1) := by decide +kernel
theorem dX6_ofPart_9 : decode cX6_ofPart 9 = .ok (.aload_n 3, 1) := by decide +kernel
theorem dX6_ofPart_10 : decode cX6_ofPart 10 = .ok (.ifnonnull 5, 3) := by decide +kernel
theorem dX6_ofPart_13 : decode cX6_ofPart 13 = .ok (.iconst (-1), 1) := by decide +kernel
theorem dX6_ofPart_14 : decode cX6_ofPart 14 = .ok (.ireturn, 1) := by decide +kernel
theorem dX6_ofPart_15 : decode cX6_ofPart 15 = .ok (.iload_n 2, 1) := by decide +kernel
theorem dX6_ofPart_16 : decode cX6_ofPart 16 = .ok (.tableswitch 56 0 3 #[32, 37, 46, 51], 32) := by decide +kernel
theorem dX6_ofPart_48 : decode cX6_ofPart 48 = .ok (.aload_n 3, 1) := by decide +kernel
theorem dX6_ofPart_49 : decode cX6_ofPart 49 = .ok (.getfield 127, 3) := by decide +kernel
theorem dX6_ofPart_52 : decode cX6_ofPart 52 = .ok (.ireturn, 1) := by decide +kernel
theorem dX6_ofPart_53 : decode cX6_ofPart 53 = .ok (.aload_n 0, 1) := by decide +kernel
theorem dX6_ofPart_54 : decode cX6_ofPart 54 = .ok (.getfield 10, 3) := by decide +kernel
theorem dX6_ofPart_57 : decode cX6_ofPart 57 = .ok (.iload_n 1, 1) := by decide +kernel
theorem dX6_ofPart_58 : decode cX6_ofPart 58 = .ok (.invokevirtual 132, 3) := by decide +kernel
theorem dX6_ofPart_61 : decode cX6_ofPart 61 = .ok (.ireturn, 1) := by decide +kernel
theorem dX6_ofPart_62 : decode cX6_ofPart 62 = .ok (.aload_n 3, 1) := by decide +kernel
theorem dX6_ofPart_63 : decode cX6_ofPart 63 = .ok (.getfield 135, 3) := by decide +kernel
theorem dX6_ofPart_66 : decode cX6_ofPart 66 = .ok (.ireturn, 1) := by decide +kernel
theorem dX6_ofPart_67 : decode cX6_ofPart 67 = .ok (.aload_n 3, 1) := by decide +kernel
theorem dX6_ofPart_68 : decode cX6_ofPart 68 = .ok (.getfield 136, 3) := by decide +kernel
theorem dX6_ofPart_71 : decode cX6_ofPart 71 = .ok (.ireturn, 1) := by decide +kernel
theorem dX6_ofPart_72 : decode cX6_ofPart 72 = .ok (.bipush (-2), 2) := by decide +kernel
theorem dX6_ofPart_74 : decode cX6_ofPart 74 = .ok (.ireturn, 1) := by decide +kernel
theorem dX6_count_0 : decode cX6_count 0 = .ok (.iload_n 1, 1) := by decide +kernel
theorem dX6_count_1 : decode cX6_count 1 = .ok (.tableswitch 140 0 9 #[55, 63, 71, 79, 88, 97, 106, 115, 124, 132], 55) := by decide +kernel
theorem dX6_count_56 : decode cX6_count 56 = .ok (.aload_n 0, 1) := by decide +kernel
theorem dX6_count_57 : decode cX6_count 57 = .ok (.getfield 10, 3) := by decide +kernel
theorem dX6_count_60 : decode cX6_count 60 = .ok (.getfield 139, 3) := by decide +kernel
theorem dX6_count_63 : decode cX6_count 63 = .ok (.ireturn, 1) := by decide +kernel
theorem dX6_count_64 : decode cX6_count 64 = .ok (.aload_n 0, 1) := by decide +kernel
theorem dX6_count_65 : decode cX6_count 65 = .ok (.getfield 10, 3) := by decide +kernel
theorem dX6_count_68 : decode cX6_count 68 = .ok (.getfield 142, 3) := by decide +kernel
theorem dX6_count_71 : decode cX6_count 71 = .ok (.ireturn, 1) := by decide +kernel
theorem dX6_count_72 : decode cX6_count 72 = .ok (.aload_n 0, 1) := by decide +kernel
theorem dX6_count_73 : decode cX6_count 73 = .ok (.getfield 10, 3) := by decide +kernel
theorem dX6_count_76 : decode cX6_count 76 = .ok (.getfield 145, 3) := by decide +kernel
theorem dX6_count_79 : decode cX6_count 79 = .ok (.ireturn, 1) := by decide +kernel
theorem dX6_count_80 : decode cX6_count 80 = .ok (.aload_n 0, 1) := by decide +kernel
theorem dX6_count_81 : decode cX6_count 81 = .ok (.getfield 10, 3) := by decide +kernel
theorem dX6_count_84 : decode cX6_count 84 = .ok (.iconst 0, 1) := by decide +kernel
theorem dX6_count_85 : decode cX6_count 85 = .ok (.invokevirtual 148, 3) := by decide +kernel
theorem dX6_count_88 : decode cX6_count 88 = .ok (.ireturn, 1) := by decide +kernel
theorem dX6_count_89 : decode cX6_count 89 = .ok (.aload_n 0, 1) := by decide +kernel
theorem dX6_count_90 : decode cX6_count 90 = .ok (.getfield 10, 3) := by decide +kernel
theorem dX6_count_93 : decode cX6_count 93 = .ok (.iconst 1, 1) := by decide +kernel
theorem dX6_count_94 : decode cX6_count 94 = .ok (.invokevirtual 148, 3) := by decide +kernel
theorem dX6_count_97 : decode cX6_count 97 = .ok (.ireturn, 1) := by decide +kernel
theorem dX6_count_98 : decode cX6_count 98 = .ok (.aload_n 0, 1) := by decide +kernel
theorem dX6_count_99 : decode cX6_count 99 = .ok (.getfield 10, 3) := by decide +kernel
theorem dX6_count_102 : decode cX6_count 102 = .ok (.iconst 2, 1) := by decide +kernel
theorem dX6_count_103 : decode cX6_count 103 = .ok (.invokevirtual 148, 3) := by decide +kernel
theorem dX6_count_106 : decode cX6_count 106 = .ok (.ireturn, 1) := by decide +kernel
theorem dX6_count_107 : decode cX6_count 107 = .ok (.aload_n 0, 1) := by decide +kernel
theorem dX6_count_108 : decode cX6_count 108 = .ok (.getfield 10, 3) := by decide +kernel
theorem dX6_count_111 : decode cX6_count 111 = .ok (.iconst 3, 1) := by decide +kernel
theorem dX6_count_112 : decode cX6_count 112 = .ok (.invokevirtual 148, 3) := by decide +kernel
theorem dX6_count_115 : decode cX6_count 115 = .ok (.ireturn, 1) := by decide +kernel
theorem dX6_count_116 : decode cX6_count 116 = .ok (.aload_n 0, 1) := by decide +kernel
theorem dX6_count_117 : decode cX6_count 117 = .ok (.getfield 10, 3) := by decide +kernel
theorem dX6_count_120 : decode cX6_count 120 = .ok (.iconst 4, 1) := by decide +kernel
theorem dX6_count_121 : decode cX6_count 121 = .ok (.invokevirtual 148, 3) := by decide +kernel
theorem dX6_count_124 : decode cX6_count 124 = .ok (.ireturn, 1) := by decide +kernel
theorem dX6_count_125 : decode cX6_count 125 = .ok (.aload_n 0, 1) := by decide +kernel
theorem dX6_count_126 : decode cX6_count 126 = .ok (.getfield 33, 3) := by decide +kernel
theorem dX6_count_129 : decode cX6_count 129 = .ok (.getfield 151, 3) := by decide +kernel
theorem dX6_count_132 : decode cX6_count 132 = .ok (.ireturn, 1) := by decide +kernel
theorem dX6_count_133 : decode cX6_count 133 = .ok (.aload_n 0, 1) := by decide +kernel
theorem dX6_count_134 : decode cX6_count 134 = .ok (.getfield 22, 3) := by decide +kernel
theorem dX6_count_137 : decode cX6_count 137 = .ok (.getfield 154, 3) := by decide +kernel
theorem dX6_count_140 : decode cX6_count 140 = .ok (.ireturn, 1) := by decide +kernel
theorem dX6_count_141 : decode cX6_count 141 = .ok (.bipush (-2), 2) := by decide +kernel
theorem dX6_count_143 : decode cX6_count 143 = .ok (.ireturn, 1) := by decide +kernel
theorem dX6_scarcest_0 : decode cX6_scarcest 0 = .ok (.bipush (-6), 2) := by decide +kernel
theorem dX6_scarcest_2 : decode cX6_scarcest 2 = .ok (.istore_n 1, 1) := by decide +kernel
theorem dX6_scarcest_3 : decode cX6_scarcest 3 = .ok (.iconst 0, 1) := by decide +kernel
theorem dX6_scarcest_4 : decode cX6_scarcest 4 = .ok (.istore_n 2, 1) := by decide +kernel
theorem dX6_scarcest_5 : decode cX6_scarcest 5 = .ok (.iconst 0, 1) := by decide +kernel
theorem dX6_scarcest_6 : decode cX6_scarcest 6 = .ok (.istore_n 3, 1) := by decide +kernel
theorem dX6_scarcest_7 : decode cX6_scarcest 7 = .ok (.iload_n 3, 1) := by decide +kernel
theorem dX6_scarcest_8 : decode cX6_scarcest 8 = .ok (.bipush 8, 2) := by decide +kernel
theorem dX6_scarcest_10 : decode cX6_scarcest 10 = .ok (.if_icmp .ge 30, 3) := by decide +kernel
theorem dX6_scarcest_13 : decode cX6_scarcest 13 = .ok (.aload_n 0, 1) := by decide +kernel
theorem dX6_scarcest_14 : decode cX6_scarcest 14 = .ok (.getfield 10, 3) := by decide +kernel
theorem dX6_scarcest_17 : decode cX6_scarcest 17 = .ok (.iload_n 3, 1) := by decide +kernel
theorem dX6_scarcest_18 : decode cX6_scarcest 18 = .ok (.invokevirtual 157, 3) := by decide +kernel
theorem dX6_scarcest_21 : decode cX6_scarcest 21 = .ok (.istore 4, 2) := by decide +kernel
theorem dX6_scarcest_23 : decode cX6_scarcest 23 = .ok (.iload 4, 2) := by decide +kernel
theorem dX6_scarcest_25 : decode cX6_scarcest 25 = .ok (.iload_n 2, 1) := by decide +kernel
theorem dX6_scarcest_26 : decode cX6_scarcest 26 = .ok (.if_icmp .le 8, 3) := by decide +kernel
theorem dX6_scarcest_29 : decode cX6_scarcest 29 = .ok (.iload 4, 2) := by decide +kernel
theorem dX6_scarcest_31 : decode cX6_scarcest 31 = .ok (.istore_n 2, 1) := by decide +kernel
theorem dX6_scarcest_32 : decode cX6_scarcest 32 = .ok (.iload_n 3, 1) := by decide +kernel
theorem dX6_scarcest_33 : decode cX6_scarcest 33 = .ok (.istore_n 1, 1) := by decide +kernel
theorem dX6_scarcest_34 : decode cX6_scarcest 34 = .ok (.iinc 3 1, 3) := by decide +kernel
theorem dX6_scarcest_37 : decode cX6_scarcest 37 = .ok (.goto (-30), 3) := by decide +kernel
theorem dX6_scarcest_40 : decode cX6_scarcest 40 = .ok (.iload_n 1, 1) := by decide +kernel
theorem dX6_scarcest_41 : decode cX6_scarcest 41 = .ok (.ireturn, 1) := by decide +kernel
theorem dX6_doneIn_0 : decode cX6_doneIn 0 = .ok (.aload_n 0, 1) := by decide +kernel
theorem dX6_doneIn_1 : decode cX6_doneIn 1 = .ok (.getfield 16, 3) := by decide +kernel
theorem dX6_doneIn_4 : decode cX6_doneIn 4 = .ok (.aload_n 0, 1) := by decide +kernel
theorem dX6_doneIn_5 : decode cX6_doneIn 5 = .ok (.getfield 10, 3) := by decide +kernel
theorem dX6_doneIn_8 : decode cX6_doneIn 8 = .ok (.invokevirtual 160, 3) := by decide +kernel
theorem dX6_doneIn_11 : decode cX6_doneIn 11 = .ok (.aload_n 0, 1) := by decide +kernel
theorem dX6_doneIn_12 : decode cX6_doneIn 12 = .ok (.getfield 16, 3) := by decide +kernel
theorem dX6_doneIn_15 : decode cX6_doneIn 15 = .ok (.iload_n 1, 1) := by decide +kernel
theorem dX6_doneIn_16 : decode cX6_doneIn 16 = .ok (.invokevirtual 62, 3) := by decide +kernel
theorem dX6_doneIn_19 : decode cX6_doneIn 19 = .ok (.astore_n 2, 1) := by decide +kernel
theorem dX6_doneIn_20 : decode cX6_doneIn 20 = .ok (.aload_n 2, 1) := by decide +kernel
theorem dX6_doneIn_21 : decode cX6_doneIn 21 = .ok (.ifnonnull 5, 3) := by decide +kernel
theorem dX6_doneIn_24 : decode cX6_doneIn 24 = .ok (.iconst (-1), 1) := by decide +kernel
theorem dX6_doneIn_25 : decode cX6_doneIn 25 = .ok (.ireturn, 1) := by decide +kernel
theorem dX6_doneIn_26 : decode cX6_doneIn 26 = .ok (.iconst 0, 1) := by decide +kernel
theorem dX6_doneIn_27 : decode cX6_doneIn 27 = .ok (.istore_n 3, 1) := by decide +kernel
theorem dX6_doneIn_28 : decode cX6_doneIn 28 = .ok (.iload_n 3, 1) := by decide +kernel
theorem dX6_doneIn_29 : decode cX6_doneIn 29 = .ok (.sipush 500, 3) := by decide +kernel
theorem dX6_doneIn_32 : decode cX6_doneIn 32 = .ok (.if_icmp .gt 26, 3) := by decide +kernel
theorem dX6_doneIn_35 : decode cX6_doneIn 35 = .ok (.aload_n 2, 1) := by decide +kernel
theorem dX6_doneIn_36 : decode cX6_doneIn 36 = .ok (.invokevirtual 163, 3) := by decide +kernel
theorem dX6_doneIn_39 : decode cX6_doneIn 39 = .ok (.ifCond .ne 5, 3) := by decide +kernel
theorem dX6_doneIn_42 : decode cX6_doneIn 42 = .ok (.iload_n 3, 1) := by decide +kernel
theorem dX6_doneIn_43 : decode cX6_doneIn 43 = .ok (.ireturn, 1) := by decide +kernel
theorem dX6_doneIn_44 : decode cX6_doneIn 44 = .ok (.aload_n 0, 1) := by decide +kernel
theorem dX6_doneIn_45 : decode cX6_doneIn 45 = .ok (.getfield 16, 3) := by decide +kernel
theorem dX6_doneIn_48 : decode cX6_doneIn 48 = .ok (.invokevirtual 167, 3) := by decide +kernel
theorem dX6_doneIn_51 : decode cX6_doneIn 51 = .ok (.pop, 1) := by decide +kernel
theorem dX6_doneIn_52 : decode cX6_doneIn 52 = .ok (.iinc 3 1, 3) := by decide +kernel
theorem dX6_doneIn_55 : decode cX6_doneIn 55 = .ok (.goto (-27), 3) := by decide +kernel
theorem dX6_doneIn_58 : decode cX6_doneIn 58 = .ok (.bipush (-6), 2) := by decide +kernel
theorem dX6_doneIn_60 : decode cX6_doneIn 60 = .ok (.ireturn, 1) := by decide +kernel
theorem dX6_withFixer_0 : decode cX6_withFixer 0 = .ok (.iload_n 1, 1) := by decide +kernel
theorem dX6_withFixer_1 : decode cX6_withFixer 1 = .ok (.iload_n 2, 1) := by decide +kernel
theorem dX6_withFixer_2 : decode cX6_withFixer 2 = .ok (.invokestatic 171, 3) := by decide +kernel
theorem dX6_withFixer_5 : decode cX6_withFixer 5 = .ok (.ifCond .eq 10, 3) := by decide +kernel
theorem dX6_withFixer_8 : decode cX6_withFixer 8 = .ok (.iload_n 3, 1) := by decide +kernel
theorem dX6_withFixer_9 : decode cX6_withFixer 9 = .ok (.invokestatic 175, 3) := by decide +kernel
theorem dX6_withFixer_12 : decode cX6_withFixer 12 = .ok (.ifCond .ne 6, 3) := by decide +kernel
theorem dX6_withFixer_15 : decode cX6_withFixer 15 = .ok (.bipush (-2), 2) := by decide +kernel
theorem dX6_withFixer_17 : decode cX6_withFixer 17 = .ok (.ireturn, 1) := by decide +kernel
theorem dX6_withFixer_18 : decode cX6_withFixer 18 = .ok (.aload_n 0, 1) := by decide +kernel
theorem dX6_withFixer_19 : decode cX6_withFixer 19 = .ok (.getfield 10, 3) := by decide +kernel
theorem dX6_withFixer_22 : decode cX6_withFixer 22 = .ok (.getfield 145, 3) := by decide +kernel
theorem dX6_withFixer_25 : decode cX6_withFixer 25 = .ok (.iconst 5, 1) := by decide +kernel
theorem dX6_withFixer_26 : decode cX6_withFixer 26 = .ok (.if_icmp .lt 6, 3) := by decide +kernel
theorem dX6_withFixer_29 : decode cX6_withFixer 29 = .ok (.bipush (-4), 2) := by decide +kernel
theorem dX6_withFixer_31 : decode cX6_withFixer 31 = .ok (.ireturn, 1) := by decide +kernel
theorem dX6_withFixer_32 : decode cX6_withFixer 32 = .ok (.aload_n 0, 1) := by decide +kernel
theorem dX6_withFixer_33 : decode cX6_withFixer 33 = .ok (.iload_n 1, 1) := by decide +kernel
theorem dX6_withFixer_34 : decode cX6_withFixer 34 = .ok (.iload_n 2, 1) := by decide +kernel
theorem dX6_withFixer_35 : decode cX6_withFixer 35 = .ok (.iload_n 3, 1) := by decide +kernel
theorem dX6_withFixer_36 : decode cX6_withFixer 36 = .ok (.invokevirtual 179, 3) := by decide +kernel
theorem dX6_withFixer_39 : decode cX6_withFixer 39 = .ok (.ireturn, 1) := by decide +kernel
theorem dX6_bestCare_0 : decode cX6_bestCare 0 = .ok (.iload_n 1, 1) := by decide +kernel
theorem dX6_bestCare_1 : decode cX6_bestCare 1 = .ok (.invokestatic 175, 3) := by decide +kernel
theorem dX6_bestCare_4 : decode cX6_bestCare 4 = .ok (.ifCond .ne 6, 3) := by decide +kernel
theorem dX6_bestCare_7 : decode cX6_bestCare 7 = .ok (.bipush (-2), 2) := by decide +kernel
theorem dX6_bestCare_9 : decode cX6_bestCare 9 = .ok (.ireturn, 1) := by decide +kernel
theorem dX6_bestCare_10 : decode cX6_bestCare 10 = .ok (.aload_n 0, 1) := by decide +kernel
theorem dX6_bestCare_11 : decode cX6_bestCare 11 = .ok (.getfield 10, 3) := by decide +kernel
theorem dX6_bestCare_14 : decode cX6_bestCare 14 = .ok (.getfield 145, 3) := by decide +kernel
theorem dX6_bestCare_17 : decode cX6_bestCare 17 = .ok (.iconst 5, 1) := by decide +kernel
theorem dX6_bestCare_18 : decode cX6_bestCare 18 = .ok (.if_icmp .lt 6, 3) := by decide +kernel
theorem dX6_bestCare_21 : decode cX6_bestCare 21 = .ok (.bipush (-4), 2) := by decide +kernel
theorem dX6_bestCare_23 : decode cX6_bestCare 23 = .ok (.ireturn, 1) := by decide +kernel
theorem dX6_bestCare_24 : decode cX6_bestCare 24 = .ok (.iconst 0, 1) := by decide +kernel
theorem dX6_bestCare_25 : decode cX6_bestCare 25 = .ok (.istore_n 2, 1) := by decide +kernel
theorem dX6_bestCare_26 : decode cX6_bestCare 26 = .ok (.iconst (-1), 1) := by decide +kernel
theorem dX6_bestCare_27 : decode cX6_bestCare 27 = .ok (.istore_n 3, 1) := by decide +kernel
theorem dX6_bestCare_28 : decode cX6_bestCare 28 = .ok (.iconst 0, 1) := by decide +kernel
theorem dX6_bestCare_29 : decode cX6_bestCare 29 = .ok (.istore 4, 2) := by decide +kernel
theorem dX6_bestCare_31 : decode cX6_bestCare 31 = .ok (.iload 4, 2) := by decide +kernel
theorem dX6_bestCare_33 : decode cX6_bestCare 33 = .ok (.bipush 9, 2) := by decide +kernel
theorem dX6_bestCare_35 : decode cX6_bestCare 35 = .ok (.if_icmp .gt 32, 3) := by decide +kernel
theorem dX6_bestCare_38 : decode cX6_bestCare 38 = .ok (.aload_n 0, 1) := by decide +kernel
theorem dX6_bestCare_39 : decode cX6_bestCare 39 = .ok (.bipush 63, 2) := by decide +kernel
theorem dX6_bestCare_41 : decode cX6_bestCare 41 = .ok (.iload 4, 2) := by decide +kernel
theorem dX6_bestCare_43 : decode cX6_bestCare 43 = .ok (.iload_n 1, 1) := by decide +kernel
theorem dX6_bestCare_44 : decode cX6_bestCare 44 = .ok (.invokevirtual 179, 3) := by decide +kernel
theorem dX6_bestCare_47 : decode cX6_bestCare 47 = .ok (.istore 5, 2) := by decide +kernel
theorem dX6_bestCare_49 : decode cX6_bestCare 49 = .ok (.iload 5, 2) := by decide +kernel
theorem dX6_bestCare_51 : decode cX6_bestCare 51 = .ok (.iload_n 3, 1) := by decide +kernel
theorem dX6_bestCare_52 : decode cX6_bestCare 52 = .ok (.if_icmp .le 9, 3) := by decide +kernel
theorem dX6_bestCare_55 : decode cX6_bestCare 55 = .ok (.iload 5, 2) := by decide +kernel
theorem dX6_bestCare_57 : decode cX6_bestCare 57 = .ok (.istore_n 3, 1) := by decide +kernel
theorem dX6_bestCare_58 : decode cX6_bestCare 58 = .ok (.iload 4, 2) := by decide +kernel
theorem dX6_bestCare_60 : decode cX6_bestCare 60 = .ok (.istore_n 2, 1) := by decide +kernel
theorem dX6_bestCare_61 : decode cX6_bestCare 61 = .ok (.iinc 4 1, 3) := by decide +kernel
theorem dX6_bestCare_64 : decode cX6_bestCare 64 = .ok (.goto (-33), 3) := by decide +kernel
theorem dX6_bestCare_67 : decode cX6_bestCare 67 = .ok (.iload_n 2, 1) := by decide +kernel
theorem dX6_bestCare_68 : decode cX6_bestCare 68 = .ok (.ireturn, 1) := by decide +kernel
theorem dX6_put_0 : decode cX6_put 0 = .ok (.lload_n 1, 1) := by decide +kernel
theorem dX6_put_1 : decode cX6_put 1 = .ok (.invokestatic 183, 3) := by decide +kernel
theorem dX6_put_4 : decode cX6_put 4 = .ok (.istore_n 3, 1) := by decide +kernel
theorem dX6_put_5 : decode cX6_put 5 = .ok (.iload_n 3, 1) := by decide +kernel
theorem dX6_put_6 : decode cX6_put 6 = .ok (.ifCond .ne 6, 3) := by decide +kernel
theorem dX6_put_9 : decode cX6_put 9 = .ok (.bipush (-2), 2) := by decide +kernel
theorem dX6_put_11 : decode cX6_put 11 = .ok (.ireturn, 1) := by decide +kernel
theorem dX6_put_12 : decode cX6_put 12 = .ok (.aload_n 0, 1) := by decide +kernel
theorem dX6_put_13 : decode cX6_put 13 = .ok (.getfield 33, 3) := by decide +kernel
theorem dX6_put_16 : decode cX6_put 16 = .ok (.getfield 151, 3) := by decide +kernel
theorem dX6_put_19 : decode cX6_put 19 = .ok (.iload_n 3, 1) := by decide +kernel
theorem dX6_put_20 : decode cX6_put 20 = .ok (.iadd, 1) := by decide +kernel
theorem dX6_put_21 : decode cX6_put 21 = .ok (.bipush 80, 2) := by decide +kernel
theorem dX6_put_23 : decode cX6_put 23 = .ok (.if_icmp .le 6, 3) := by decide +kernel
theorem dX6_put_26 : decode cX6_put 26 = .ok (.bipush (-4), 2) := by decide +kernel
theorem dX6_put_28 : decode cX6_put 28 = .ok (.ireturn, 1) := by decide +kernel
theorem dX6_put_29 : decode cX6_put 29 = .ok (.iload_n 3, 1) := by decide +kernel
theorem dX6_put_30 : decode cX6_put 30 = .ok (.iconst 1, 1) := by decide +kernel
theorem dX6_put_31 : decode cX6_put 31 = .ok (.isub, 1) := by decide +kernel
theorem dX6_put_32 : decode cX6_put 32 = .ok (.istore 4, 2) := by decide +kernel
theorem dX6_put_34 : decode cX6_put 34 = .ok (.iload 4, 2) := by decide +kernel
theorem dX6_put_36 : decode cX6_put 36 = .ok (.ifCond .lt 28, 3) := by decide +kernel
theorem dX6_put_39 : decode cX6_put 39 = .ok (.aload_n 0, 1) := by decide +kernel
theorem dX6_put_40 : decode cX6_put 40 = .ok (.getfield 33, 3) := by decide +kernel
theorem dX6_put_43 : decode cX6_put 43 = .ok (.lload_n 1, 1) := by decide +kernel
theorem dX6_put_44 : decode cX6_put 44 = .ok (.bipush 8, 2) := by decide +kernel
theorem dX6_put_46 : decode cX6_put 46 = .ok (.iload 4, 2) := by decide +kernel
theorem dX6_put_48 : decode cX6_put 48 = .ok (.imul, 1) := by decide +kernel
theorem dX6_put_49 : decode cX6_put 49 = .ok (.lushr, 1) := by decide +kernel
theorem dX6_put_50 : decode cX6_put 50 = .ok (.ldc2_w 187, 3) := by decide +kernel
theorem dX6_put_53 : decode cX6_put 53 = .ok (.land, 1) := by decide +kernel
theorem dX6_put_54 : decode cX6_put 54 = .ok (.l2i, 1) := by decide +kernel
theorem dX6_put_55 : decode cX6_put 55 = .ok (.invokevirtual 189, 3) := by decide +kernel
theorem dX6_put_58 : decode cX6_put 58 = .ok (.iinc 4 (-1), 3) := by decide +kernel
theorem dX6_put_61 : decode cX6_put 61 = .ok (.goto (-27), 3) := by decide +kernel
theorem dX6_put_64 : decode cX6_put 64 = .ok (.aload_n 0, 1) := by decide +kernel
theorem dX6_put_65 : decode cX6_put 65 = .ok (.getfield 33, 3) := by decide +kernel
theorem dX6_put_68 : decode cX6_put 68 = .ok (.getfield 151, 3) := by decide +kernel
theorem dX6_put_71 : decode cX6_put 71 = .ok (.ireturn, 1) := by decide +kernel
theorem dX6_wipe_0 : decode cX6_wipe 0 = .ok (.aload_n 0, 1) := by decide +kernel
theorem dX6_wipe_1 : decode cX6_wipe 1 = .ok (.getfield 33, 3) := by decide +kernel
theorem dX6_wipe_4 : decode cX6_wipe 4 = .ok (.getfield 151, 3) := by decide +kernel
theorem dX6_wipe_7 : decode cX6_wipe 7 = .ok (.istore_n 1, 1) := by decide +kernel
theorem dX6_wipe_8 : decode cX6_wipe 8 = .ok (.aload_n 0, 1) := by decide +kernel
theorem dX6_wipe_9 : decode cX6_wipe 9 = .ok (.getfield 33, 3) := by decide +kernel
theorem dX6_wipe_12 : decode cX6_wipe 12 = .ok (.iconst 0, 1) := by decide +kernel
theorem dX6_wipe_13 : decode cX6_wipe 13 = .ok (.putfield 151, 3) := by decide +kernel
theorem dX6_wipe_16 : decode cX6_wipe 16 = .ok (.iload_n 1, 1) := by decide +kernel
theorem dX6_wipe_17 : decode cX6_wipe 17 = .ok (.ireturn, 1) := by decide +kernel
theorem dX6_fault_0 : decode cX6_fault 0 = .ok (.aload_n 0, 1) := by decide +kernel
theorem dX6_fault_1 : decode cX6_fault 1 = .ok (.getfield 33, 3) := by decide +kernel
theorem dX6_fault_4 : decode cX6_fault 4 = .ok (.invokevirtual 193, 3) := by decide +kernel
theorem dX6_fault_7 : decode cX6_fault 7 = .ok (.iconst 0, 1) := by decide +kernel
theorem dX6_fault_8 : decode cX6_fault 8 = .ok (.istore_n 1, 1) := by decide +kernel
theorem dX6_fault_9 : decode cX6_fault 9 = .ok (.iload_n 1, 1) := by decide +kernel
theorem dX6_fault_10 : decode cX6_fault 10 = .ok (.bipush 80, 2) := by decide +kernel
theorem dX6_fault_12 : decode cX6_fault 12 = .ok (.if_icmp .ge 60, 3) := by decide +kernel
theorem dX6_fault_15 : decode cX6_fault 15 = .ok (.aload_n 0, 1) := by decide +kernel
theorem dX6_fault_16 : decode cX6_fault 16 = .ok (.getfield 33, 3) := by decide +kernel
theorem dX6_fault_19 : decode cX6_fault 19 = .ok (.invokevirtual 196, 3) := by decide +kernel
theorem dX6_fault_22 : decode cX6_fault 22 = .ok (.ifCond .ne 11, 3) := by decide +kernel
theorem dX6_fault_25 : decode cX6_fault 25 = .ok (.aload_n 0, 1) := by decide +kernel
theorem dX6_fault_26 : decode cX6_fault 26 = .ok (.getfield 33, 3) := by decide +kernel
theorem dX6_fault_29 : decode cX6_fault 29 = .ok (.getfield 199, 3) := by decide +kernel
theorem dX6_fault_32 : decode cX6_fault 32 = .ok (.ireturn, 1) := by decide +kernel
theorem dX6_fault_33 : decode cX6_fault 33 = .ok (.aload_n 0, 1) := by decide +kernel
theorem dX6_fault_34 : decode cX6_fault 34 = .ok (.getfield 33, 3) := by decide +kernel
theorem dX6_fault_37 : decode cX6_fault 37 = .ok (.invokevirtual 202, 3) := by decide +kernel
theorem dX6_fault_40 : decode cX6_fault 40 = .ok (.ifCond .eq 6, 3) := by decide +kernel
theorem dX6_fault_43 : decode cX6_fault 43 = .ok (.bipush (-6), 2) := by decide +kernel
theorem dX6_fault_45 : decode cX6_fault 45 = .ok (.ireturn, 1) := by decide +kernel
theorem dX6_fault_46 : decode cX6_fault 46 = .ok (.aload_n 0, 1) := by decide +kernel
theorem dX6_fault_47 : decode cX6_fault 47 = .ok (.getfield 33, 3) := by decide +kernel
theorem dX6_fault_50 : decode cX6_fault 50 = .ok (.bipush 59, 2) := by decide +kernel
theorem dX6_fault_52 : decode cX6_fault 52 = .ok (.invokevirtual 205, 3) := by decide +kernel
theorem dX6_fault_55 : decode cX6_fault 55 = .ok (.ifCond .ne 11, 3) := by decide +kernel
theorem dX6_fault_58 : decode cX6_fault 58 = .ok (.aload_n 0, 1) := by decide +kernel
theorem dX6_fault_59 : decode cX6_fault 59 = .ok (.getfield 33, 3) := by decide +kernel
theorem dX6_fault_62 : decode cX6_fault 62 = .ok (.getfield 199, 3) := by decide +kernel
theorem dX6_fault_65 : decode cX6_fault 65 = .ok (.ireturn, 1) := by decide +kernel
theorem dX6_fault_66 : decode cX6_fault 66 = .ok (.iinc 1 1, 3) := by decide +kernel
theorem dX6_fault_69 : decode cX6_fault 69 = .ok (.goto (-60), 3) := by decide +kernel
theorem dX6_fault_72 : decode cX6_fault 72 = .ok (.aload_n 0, 1) := by decide +kernel
theorem dX6_fault_73 : decode cX6_fault 73 = .ok (.getfield 33, 3) := by decide +kernel
theorem dX6_fault_76 : decode cX6_fault 76 = .ok (.getfield 199, 3) := by decide +kernel
theorem dX6_fault_79 : decode cX6_fault 79 = .ok (.ireturn, 1) := by decide +kernel
theorem dX6_carryOut_0 : decode cX6_carryOut 0 = .ok (.aload_n 0, 1) := by decide +kernel
theorem dX6_carryOut_1 : decode cX6_carryOut 1 = .ok (.invokevirtual 208, 3) := by decide +kernel
theorem dX6_carryOut_4 : decode cX6_carryOut 4 = .ok (.bipush (-6), 2) := by decide +kernel
theorem dX6_carryOut_6 : decode cX6_carryOut 6 = .ok (.if_icmp .eq 6, 3) := by decide +kernel
theorem dX6_carryOut_9 : decode cX6_carryOut 9 = .ok (.bipush (-3), 2) := by decide +kernel
theorem dX6_carryOut_11 : decode cX6_carryOut 11 = .ok (.ireturn, 1) := by decide +kernel
theorem dX6_carryOut_12 : decode cX6_carryOut 12 = .ok (.aload_n 0, 1) := by decide +kernel
theorem dX6_carryOut_13 : decode cX6_carryOut 13 = .ok (.getfield 22, 3) := by decide +kernel
theorem dX6_carryOut_16 : decode cX6_carryOut 16 = .ok (.aload_n 0, 1) := by decide +kernel
theorem dX6_carryOut_17 : decode cX6_carryOut 17 = .ok (.getfield 10, 3) := by decide +kernel
theorem dX6_carryOut_20 : decode cX6_carryOut 20 = .ok (.invokevirtual 37, 3) := by decide +kernel
theorem dX6_carryOut_23 : decode cX6_carryOut 23 = .ok (.aload_n 0, 1) := by decide +kernel
theorem dX6_carryOut_24 : decode cX6_carryOut 24 = .ok (.getfield 22, 3) := by decide +kernel
theorem dX6_carryOut_27 : decode cX6_carryOut 27 = .ok (.invokevirtual 211, 3) := by decide +kernel
theorem dX6_carryOut_30 : decode cX6_carryOut 30 = .ok (.iconst 0, 1) := by decide +kernel
theorem dX6_carryOut_31 : decode cX6_carryOut 31 = .ok (.istore_n 1, 1) := by decide +kernel
theorem dX6_carryOut_32 : decode cX6_carryOut 32 = .ok (.aload_n 0, 1) := by decide +kernel
theorem dX6_carryOut_33 : decode cX6_carryOut 33 = .ok (.getfield 33, 3) := by decide +kernel
theorem dX6_carryOut_36 : decode cX6_carryOut 36 = .ok (.invokevirtual 193, 3) := by decide +kernel
theorem dX6_carryOut_39 : decode cX6_carryOut 39 = .ok (.iload_n 1, 1) := by decide +kernel
theorem dX6_carryOut_40 : decode cX6_carryOut 40 = .ok (.bipush 80, 2) := by decide +kernel
theorem dX6_carryOut_42 : decode cX6_carryOut 42 = .ok (.if_icmp .ge 36, 3) := by decide +kernel
theorem dX6_carryOut_45 : decode cX6_carryOut 45 = .ok (.aload_n 0, 1) := by decide +kernel
theorem dX6_carryOut_46 : decode cX6_carryOut 46 = .ok (.getfield 33, 3) := by decide +kernel
theorem dX6_carryOut_49 : decode cX6_carryOut 49 = .ok (.invokevirtual 196, 3) := by decide +kernel
theorem dX6_carryOut_52 : decode cX6_carryOut 52 = .ok (.ifCond .eq 26, 3) := by decide +kernel
theorem dX6_carryOut_55 : decode cX6_carryOut 55 = .ok (.aload_n 0, 1) := by decide +kernel
theorem dX6_carryOut_56 : decode cX6_carryOut 56 = .ok (.invokevirtual 214, 3) := by decide +kernel
theorem dX6_carryOut_59 : decode cX6_carryOut 59 = .ok (.ifCond .lt 19, 3) := by decide +kernel
theorem dX6_carryOut_62 : decode cX6_carryOut 62 = .ok (.iinc 1 1, 3) := by decide +kernel
theorem dX6_carryOut_65 : decode cX6_carryOut 65 = .ok (.aload_n 0, 1) := by decide +kernel
theorem dX6_carryOut_66 : decode cX6_carryOut 66 = .ok (.getfield 33, 3) := by decide +kernel
theorem dX6_carryOut_69 : decode cX6_carryOut 69 = .ok (.bipush 59, 2) := by decide +kernel
theorem dX6_carryOut_71 : decode cX6_carryOut 71 = .ok (.invokevirtual 205, 3) := by decide +kernel
theorem dX6_carryOut_74 : decode cX6_carryOut 74 = .ok (.pop, 1) := by decide +kernel
theorem dX6_carryOut_75 : decode cX6_carryOut 75 = .ok (.goto (-36), 3) := by decide +kernel
theorem dX6_carryOut_78 : decode cX6_carryOut 78 = .ok (.aload_n 0, 1) := by decide +kernel
theorem dX6_carryOut_79 : decode cX6_carryOut 79 = .ok (.getfield 33, 3) := by decide +kernel
theorem dX6_carryOut_82 : decode cX6_carryOut 82 = .ok (.iconst 0, 1) := by decide +kernel
theorem dX6_carryOut_83 : decode cX6_carryOut 83 = .ok (.putfield 151, 3) := by decide +kernel
theorem dX6_carryOut_86 : decode cX6_carryOut 86 = .ok (.iload_n 1, 1) := by decide +kernel
theorem dX6_carryOut_87 : decode cX6_carryOut 87 = .ok (.ireturn, 1) := by decide +kernel
theorem dX6_undo_0 : decode cX6_undo 0 = .ok (.aload_n 0, 1) := by decide +kernel
theorem dX6_undo_1 : decode cX6_undo 1 = .ok (.getfield 22, 3) := by decide +kernel
theorem dX6_undo_4 : decode cX6_undo 4 = .ok (.getfield 154, 3) := by decide +kernel
theorem dX6_undo_7 : decode cX6_undo 7 = .ok (.ifCond .gt 6, 3) := by decide +kernel
theorem dX6_undo_10 : decode cX6_undo 10 = .ok (.bipush (-5), 2) := by decide +kernel
theorem dX6_undo_12 : decode cX6_undo 12 = .ok (.ireturn, 1) := by decide +kernel
theorem dX6_undo_13 : decode cX6_undo 13 = .ok (.aload_n 0, 1) := by decide +kernel
theorem dX6_undo_14 : decode cX6_undo 14 = .ok (.getfield 22, 3) := by decide +kernel
theorem dX6_undo_17 : decode cX6_undo 17 = .ok (.aload_n 0, 1) := by decide +kernel
theorem dX6_undo_18 : decode cX6_undo 18 = .ok (.getfield 10, 3) := by decide +kernel
theorem dX6_undo_21 : decode cX6_undo 21 = .ok (.invokevirtual 217, 3) := by decide +kernel
theorem dX6_undo_24 : decode cX6_undo 24 = .ok (.aload_n 0, 1) := by decide +kernel
theorem dX6_undo_25 : decode cX6_undo 25 = .ok (.getfield 22, 3) := by decide +kernel
theorem dX6_undo_28 : decode cX6_undo 28 = .ok (.getfield 154, 3) := by decide +kernel
theorem dX6_undo_31 : decode cX6_undo 31 = .ok (.ireturn, 1) := by decide +kernel
theorem dX6_save_0 : decode cX6_save 0 = .ok (.iload_n 1, 1) := by decide +kernel
theorem dX6_save_1 : decode cX6_save 1 = .ok (.ifCond .lt 12, 3) := by decide +kernel
theorem dX6_save_4 : decode cX6_save 4 = .ok (.iload_n 1, 1) := by decide +kernel
theorem dX6_save_5 : decode cX6_save 5 = .ok (.aload_n 0, 1) := by decide +kernel
theorem dX6_save_6 : decode cX6_save 6 = .ok (.getfield 26, 3) := by decide +kernel
theorem dX6_save_9 : decode cX6_save 9 = .ok (.arraylength, 1) := by decide +kernel
theorem dX6_save_10 : decode cX6_save 10 = .ok (.if_icmp .lt 6, 3) := by decide +kernel
theorem dX6_save_13 : decode cX6_save 13 = .ok (.bipush (-2), 2) := by decide +kernel
theorem dX6_save_15 : decode cX6_save 15 = .ok (.ireturn, 1) := by decide +kernel
theorem dX6_save_16 : decode cX6_save 16 = .ok (.aload_n 0, 1) := by decide +kernel
theorem dX6_save_17 : decode cX6_save 17 = .ok (.getfield 26, 3) := by decide +kernel
theorem dX6_save_20 : decode cX6_save 20 = .ok (.iload_n 1, 1) := by decide +kernel
theorem dX6_save_21 : decode cX6_save 21 = .ok (.aaload, 1) := by decide +kernel
theorem dX6_save_22 : decode cX6_save 22 = .ok (.astore_n 2, 1) := by decide +kernel
theorem dX6_save_23 : decode cX6_save 23 = .ok (.aload_n 2, 1) := by decide +kernel
theorem dX6_save_24 : decode cX6_save 24 = .ok (.ifnonnull 18, 3) := by decide +kernel
theorem dX6_save_27 : decode cX6_save 27 = .ok (.new 7, 3) := by decide +kernel
theorem dX6_save_30 : decode cX6_save 30 = .ok (.dup, 1) := by decide +kernel
theorem dX6_save_31 : decode cX6_save 31 = .ok (.invokespecial 9, 3) := by decide +kernel
theorem dX6_save_34 : decode cX6_save 34 = .ok (.astore_n 2, 1) := by decide +kernel
theorem dX6_save_35 : decode cX6_save 35 = .ok (.aload_n 0, 1) := by decide +kernel
theorem dX6_save_36 : decode cX6_save 36 = .ok (.getfield 26, 3) := by decide +kernel
theorem dX6_save_39 : decode cX6_save 39 = .ok (.iload_n 1, 1) := by decide +kernel
theorem dX6_save_40 : decode cX6_save 40 = .ok (.aload_n 2, 1) := by decide +kernel
theorem dX6_save_41 : decode cX6_save 41 = .ok (.aastore, 1) := by decide +kernel
theorem dX6_save_42 : decode cX6_save 42 = .ok (.aload_n 2, 1) := by decide +kernel
theorem dX6_save_43 : decode cX6_save 43 = .ok (.aload_n 0, 1) := by decide +kernel
theorem dX6_save_44 : decode cX6_save 44 = .ok (.getfield 10, 3) := by decide +kernel
theorem dX6_save_47 : decode cX6_save 47 = .ok (.invokevirtual 160, 3) := by decide +kernel
theorem dX6_save_50 : decode cX6_save 50 = .ok (.aload_n 0, 1) := by decide +kernel
theorem dX6_save_51 : decode cX6_save 51 = .ok (.getfield 10, 3) := by decide +kernel
theorem dX6_save_54 : decode cX6_save 54 = .ok (.getfield 142, 3) := by decide +kernel
theorem dX6_save_57 : decode cX6_save 57 = .ok (.ireturn, 1) := by decide +kernel
theorem dX6_restore_0 : decode cX6_restore 0 = .ok (.iload_n 1, 1) := by decide +kernel
theorem dX6_restore_1 : decode cX6_restore 1 = .ok (.ifCond .lt 12, 3) := by decide +kernel
theorem dX6_restore_4 : decode cX6_restore 4 = .ok (.iload_n 1, 1) := by decide +kernel
theorem dX6_restore_5 : decode cX6_restore 5 = .ok (.aload_n 0, 1) := by decide +kernel
theorem dX6_restore_6 : decode cX6_restore 6 = .ok (.getfield 26, 3) := by decide +kernel
theorem dX6_restore_9 : decode cX6_restore 9 = .ok (.arraylength, 1) := by decide +kernel
theorem dX6_restore_10 : decode cX6_restore 10 = .ok (.if_icmp .lt 6, 3) := by decide +kernel
theorem dX6_restore_13 : decode cX6_restore 13 = .ok (.bipush (-2), 2) := by decide +kernel
theorem dX6_restore_15 : decode cX6_restore 15 = .ok (.ireturn, 1) := by decide +kernel
theorem dX6_restore_16 : decode cX6_restore 16 = .ok (.aload_n 0, 1) := by decide +kernel
theorem dX6_restore_17 : decode cX6_restore 17 = .ok (.getfield 26, 3) := by decide +kernel
theorem dX6_restore_20 : decode cX6_restore 20 = .ok (.iload_n 1, 1) := by decide +kernel
theorem dX6_restore_21 : decode cX6_restore 21 = .ok (.aaload, 1) := by decide +kernel
theorem dX6_restore_22 : decode cX6_restore 22 = .ok (.astore_n 2, 1) := by decide +kernel
theorem dX6_restore_23 : decode cX6_restore 23 = .ok (.aload_n 2, 1) := by decide +kernel
theorem dX6_restore_24 : decode cX6_restore 24 = .ok (.ifnonnull 6, 3) := by decide +kernel
theorem dX6_restore_27 : decode cX6_restore 27 = .ok (.bipush (-5), 2) := by decide +kernel
theorem dX6_restore_29 : decode cX6_restore 29 = .ok (.ireturn, 1) := by decide +kernel
theorem dX6_restore_30 : decode cX6_restore 30 = .ok (.aload_n 0, 1) := by decide +kernel
theorem dX6_restore_31 : decode cX6_restore 31 = .ok (.getfield 22, 3) := by decide +kernel
theorem dX6_restore_34 : decode cX6_restore 34 = .ok (.aload_n 0, 1) := by decide +kernel
theorem dX6_restore_35 : decode cX6_restore 35 = .ok (.getfield 10, 3) := by decide +kernel
theorem dX6_restore_38 : decode cX6_restore 38 = .ok (.invokevirtual 37, 3) := by decide +kernel
theorem dX6_restore_41 : decode cX6_restore 41 = .ok (.aload_n 0, 1) := by decide +kernel
theorem dX6_restore_42 : decode cX6_restore 42 = .ok (.getfield 22, 3) := by decide +kernel
theorem dX6_restore_45 : decode cX6_restore 45 = .ok (.invokevirtual 211, 3) := by decide +kernel
theorem dX6_restore_48 : decode cX6_restore 48 = .ok (.aload_n 0, 1) := by decide +kernel
theorem dX6_restore_49 : decode cX6_restore 49 = .ok (.getfield 10, 3) := by decide +kernel
theorem dX6_restore_52 : decode cX6_restore 52 = .ok (.aload_n 2, 1) := by decide +kernel
theorem dX6_restore_53 : decode cX6_restore 53 = .ok (.invokevirtual 160, 3) := by decide +kernel
theorem dX6_restore_56 : decode cX6_restore 56 = .ok (.aload_n 0, 1) := by decide +kernel
theorem dX6_restore_57 : decode cX6_restore 57 = .ok (.getfield 10, 3) := by decide +kernel
theorem dX6_restore_60 : decode cX6_restore 60 = .ok (.getfield 142, 3) := by decide +kernel
theorem dX6_restore_63 : decode cX6_restore 63 = .ok (.ireturn, 1) := by decide +kernel
theorem dX6_kept_0 : decode cX6_kept 0 = .ok (.iload_n 1, 1) := by decide +kernel
theorem dX6_kept_1 : decode cX6_kept 1 = .ok (.ifCond .lt 10, 3) := by decide +kernel
theorem dX6_kept_4 : decode cX6_kept 4 = .ok (.aload_n 0, 1) := by decide +kernel
theorem dX6_kept_5 : decode cX6_kept 5 = .ok (.getfield 22, 3) := by decide +kernel
theorem dX6_kept_8 : decode cX6_kept 8 = .ok (.invokevirtual 211, 3) := by decide +kernel
theorem dX6_kept_11 : decode cX6_kept 11 = .ok (.iload_n 1, 1) := by decide +kernel
theorem dX6_kept_12 : decode cX6_kept 12 = .ok (.ireturn, 1) := by decide +kernel
theorem dX6_repairedWith_0 : decode cX6_repairedWith 0 = .ok (.aload_n 0, 1) := by decide +kernel
theorem dX6_repairedWith_1 : decode cX6_repairedWith 1 = .ok (.getfield 16, 3) := by decide +kernel
theorem dX6_repairedWith_4 : decode cX6_repairedWith 4 = .ok (.aload_n 0, 1) := by decide +kernel
theorem dX6_repairedWith_5 : decode cX6_repairedWith 5 = .ok (.getfield 10, 3) := by decide +kernel
theorem dX6_repairedWith_8 : decode cX6_repairedWith 8 = .ok (.invokevirtual 160, 3) := by decide +kernel
theorem dX6_repairedWith_11 : decode cX6_repairedWith 11 = .ok (.aload_n 0, 1) := by decide +kernel
theorem dX6_repairedWith_12 : decode cX6_repairedWith 12 = .ok (.getfield 16, 3) := by decide +kernel
theorem dX6_repairedWith_15 : decode cX6_repairedWith 15 = .ok (.iload_n 1, 1) := by decide +kernel
theorem dX6_repairedWith_16 : decode cX6_repairedWith 16 = .ok (.iload_n 2, 1) := by decide +kernel
theorem dX6_repairedWith_17 : decode cX6_repairedWith 17 = .ok (.invokevirtual 49, 3) := by decide +kernel
theorem dX6_repairedWith_20 : decode cX6_repairedWith 20 = .ok (.pop, 1) := by decide +kernel
theorem dX6_repairedWith_21 : decode cX6_repairedWith 21 = .ok (.aload_n 0, 1) := by decide +kernel
theorem dX6_repairedWith_22 : decode cX6_repairedWith 22 = .ok (.getfield 16, 3) := by decide +kernel
theorem dX6_repairedWith_25 : decode cX6_repairedWith 25 = .ok (.iload_n 3, 1) := by decide +kernel
theorem dX6_repairedWith_26 : decode cX6_repairedWith 26 = .ok (.invokevirtual 220, 3) := by decide +kernel
theorem dX6_repairedWith_29 : decode cX6_repairedWith 29 = .ok (.ireturn, 1) := by decide +kernel
theorem dX6_carryOrder_0 : decode cX6_carryOrder 0 = .ok (.aload_n 0, 1) := by decide +kernel
theorem dX6_carryOrder_1 : decode cX6_carryOrder 1 = .ok (.getfield 33, 3) := by decide +kernel
theorem dX6_carryOrder_4 : decode cX6_carryOrder 4 = .ok (.getfield 223, 3) := by decide +kernel
theorem dX6_carryOrder_7 : decode cX6_carryOrder 7 = .ok (.lookupswitch 113 #[(43, 33), (100, 91), (102, 69)], 33) := by decide +kernel
theorem dX6_carryOrder_40 : decode cX6_carryOrder 40 = .ok (.aload_n 0, 1) := by decide +kernel
theorem dX6_carryOrder_41 : decode cX6_carryOrder 41 = .ok (.getfield 10, 3) := by decide +kernel
theorem dX6_carryOrder_44 : decode cX6_carryOrder 44 = .ok (.aload_n 0, 1) := by decide +kernel
theorem dX6_carryOrder_45 : decode cX6_carryOrder 45 = .ok (.getfield 33, 3) := by decide +kernel
theorem dX6_carryOrder_48 : decode cX6_carryOrder 48 = .ok (.getfield 226, 3) := by decide +kernel
theorem dX6_carryOrder_51 : decode cX6_carryOrder 51 = .ok (.aload_n 0, 1) := by decide +kernel
theorem dX6_carryOrder_52 : decode cX6_carryOrder 52 = .ok (.getfield 33, 3) := by decide +kernel
theorem dX6_carryOrder_55 : decode cX6_carryOrder 55 = .ok (.getfield 229, 3) := by decide +kernel
theorem dX6_carryOrder_58 : decode cX6_carryOrder 58 = .ok (.aload_n 0, 1) := by decide +kernel
theorem dX6_carryOrder_59 : decode cX6_carryOrder 59 = .ok (.getfield 33, 3) := by decide +kernel
theorem dX6_carryOrder_62 : decode cX6_carryOrder 62 = .ok (.getfield 232, 3) := by decide +kernel
theorem dX6_carryOrder_65 : decode cX6_carryOrder 65 = .ok (.aload_n 0, 1) := by decide +kernel
theorem dX6_carryOrder_66 : decode cX6_carryOrder 66 = .ok (.getfield 33, 3) := by decide +kernel
theorem dX6_carryOrder_69 : decode cX6_carryOrder 69 = .ok (.getfield 235, 3) := by decide +kernel
theorem dX6_carryOrder_72 : decode cX6_carryOrder 72 = .ok (.invokevirtual 41, 3) := by decide +kernel
theorem dX6_carryOrder_75 : decode cX6_carryOrder 75 = .ok (.ireturn, 1) := by decide +kernel
theorem dX6_carryOrder_76 : decode cX6_carryOrder 76 = .ok (.aload_n 0, 1) := by decide +kernel
theorem dX6_carryOrder_77 : decode cX6_carryOrder 77 = .ok (.getfield 10, 3) := by decide +kernel
theorem dX6_carryOrder_80 : decode cX6_carryOrder 80 = .ok (.aload_n 0, 1) := by decide +kernel
theorem dX6_carryOrder_81 : decode cX6_carryOrder 81 = .ok (.getfield 33, 3) := by decide +kernel
theorem dX6_carryOrder_84 : decode cX6_carryOrder 84 = .ok (.getfield 229, 3) := by decide +kernel
theorem dX6_carryOrder_87 : decode cX6_carryOrder 87 = .ok (.aload_n 0, 1) := by decide +kernel
theorem dX6_carryOrder_88 : decode cX6_carryOrder 88 = .ok (.getfield 33, 3) := by decide +kernel
theorem dX6_carryOrder_91 : decode cX6_carryOrder 91 = .ok (.getfield 235, 3) := by decide +kernel
theorem dX6_carryOrder_94 : decode cX6_carryOrder 94 = .ok (.invokevirtual 49, 3) := by decide +kernel
theorem dX6_carryOrder_97 : decode cX6_carryOrder 97 = .ok (.ireturn, 1) := by decide +kernel
theorem dX6_carryOrder_98 : decode cX6_carryOrder 98 = .ok (.aload_n 0, 1) := by decide +kernel
theorem dX6_carryOrder_99 : decode cX6_carryOrder 99 = .ok (.getfield 10, 3) := by decide +kernel
theorem dX6_carryOrder_102 : decode cX6_carryOrder 102 = .ok (.aload_n 0, 1) := by decide +kernel
theorem dX6_carryOrder_103 : decode cX6_carryOrder 103 = .ok (.getfield 33, 3) := by decide +kernel
theorem dX6_carryOrder_106 : decode cX6_carryOrder 106 = .ok (.getfield 226, 3) := by decide +kernel
theorem dX6_carryOrder_109 : decode cX6_carryOrder 109 = .ok (.aload_n 0, 1) := by decide +kernel
theorem dX6_carryOrder_110 : decode cX6_carryOrder 110 = .ok (.getfield 33, 3) := by decide +kernel
theorem dX6_carryOrder_113 : decode cX6_carryOrder 113 = .ok (.getfield 232, 3) := by decide +kernel
theorem dX6_carryOrder_116 : decode cX6_carryOrder 116 = .ok (.invokevirtual 53, 3) := by decide +kernel
theorem dX6_carryOrder_119 : decode cX6_carryOrder 119 = .ok (.ireturn, 1) := by decide +kernel
theorem dX6_carryOrder_120 : decode cX6_carryOrder 120 = .ok (.aload_n 0, 1) := by decide +kernel
theorem dX6_carryOrder_121 : decode cX6_carryOrder 121 = .ok (.getfield 10, 3) := by decide +kernel
theorem dX6_carryOrder_124 : decode cX6_carryOrder 124 = .ok (.aload_n 0, 1) := by decide +kernel
theorem dX6_carryOrder_125 : decode cX6_carryOrder 125 = .ok (.getfield 33, 3) := by decide +kernel
theorem dX6_carryOrder_128 : decode cX6_carryOrder 128 = .ok (.getfield 232, 3) := by decide +kernel
theorem dX6_carryOrder_131 : decode cX6_carryOrder 131 = .ok (.invokevirtual 59, 3) := by decide +kernel
theorem dX6_carryOrder_134 : decode cX6_carryOrder 134 = .ok (.ireturn, 1) := by decide +kernel
theorem dX6_signsIn_0 : decode cX6_signsIn 0 = .ok (.lload_n 0, 1) := by decide +kernel
theorem dX6_signsIn_1 : decode cX6_signsIn 1 = .ok (.lstore_n 2, 1) := by decide +kernel
theorem dX6_signsIn_2 : decode cX6_signsIn 2 = .ok (.iconst 0, 1) := by decide +kernel
theorem dX6_signsIn_3 : decode cX6_signsIn 3 = .ok (.istore 4, 2) := by decide +kernel
theorem dX6_signsIn_5 : decode cX6_signsIn 5 = .ok (.iconst 0, 1) := by decide +kernel
theorem dX6_signsIn_6 : decode cX6_signsIn 6 = .ok (.istore 5, 2) := by decide +kernel
theorem dX6_signsIn_8 : decode cX6_signsIn 8 = .ok (.iload 5, 2) := by decide +kernel
theorem dX6_signsIn_10 : decode cX6_signsIn 10 = .ok (.bipush 8, 2) := by decide +kernel
theorem dX6_signsIn_12 : decode cX6_signsIn 12 = .ok (.if_icmp .ge 47, 3) := by decide +kernel
theorem dX6_signsIn_15 : decode cX6_signsIn 15 = .ok (.lload_n 2, 1) := by decide +kernel
theorem dX6_signsIn_16 : decode cX6_signsIn 16 = .ok (.lconst 0, 1) := by decide +kernel
theorem dX6_signsIn_17 : decode cX6_signsIn 17 = .ok (.lcmp, 1) := by decide +kernel
theorem dX6_signsIn_18 : decode cX6_signsIn 18 = .ok (.ifCond .eq 41, 3) := by decide +kernel
theorem dX6_signsIn_21 : decode cX6_signsIn 21 = .ok (.lload_n 2, 1) := by decide +kernel
theorem dX6_signsIn_22 : decode cX6_signsIn 22 = .ok (.ldc2_w 187, 3) := by decide +kernel
theorem dX6_signsIn_25 : decode cX6_signsIn 25 = .ok (.land, 1) := by decide +kernel
theorem dX6_signsIn_26 : decode cX6_signsIn 26 = .ok (.l2i, 1) := by decide +kernel
theorem dX6_signsIn_27 : decode cX6_signsIn 27 = .ok (.istore 6, 2) := by decide +kernel
theorem dX6_signsIn_29 : decode cX6_signsIn 29 = .ok (.iload 6, 2) := by decide +kernel
theorem dX6_signsIn_31 : decode cX6_signsIn 31 = .ok (.bipush 33, 2) := by decide +kernel
theorem dX6_signsIn_33 : decode cX6_signsIn 33 = .ok (.if_icmp .lt 10, 3) := by decide +kernel
theorem dX6_signsIn_36 : decode cX6_signsIn 36 = .ok (.iload 6, 2) := by decide +kernel
theorem dX6_signsIn_38 : decode cX6_signsIn 38 = .ok (.bipush 126, 2) := by decide +kernel
theorem dX6_signsIn_40 : decode cX6_signsIn 40 = .ok (.if_icmp .le 5, 3) := by decide +kernel
theorem dX6_signsIn_43 : decode cX6_signsIn 43 = .ok (.iconst 0, 1) := by decide +kernel
theorem dX6_signsIn_44 : decode cX6_signsIn 44 = .ok (.ireturn, 1) := by decide +kernel
theorem dX6_signsIn_45 : decode cX6_signsIn 45 = .ok (.lload_n 2, 1) := by decide +kernel
theorem dX6_signsIn_46 : decode cX6_signsIn 46 = .ok (.bipush 8, 2) := by decide +kernel
theorem dX6_signsIn_48 : decode cX6_signsIn 48 = .ok (.lushr, 1) := by decide +kernel
theorem dX6_signsIn_49 : decode cX6_signsIn 49 = .ok (.lstore_n 2, 1) := by decide +kernel
theorem dX6_signsIn_50 : decode cX6_signsIn 50 = .ok (.iinc 4 1, 3) := by decide +kernel
theorem dX6_signsIn_53 : decode cX6_signsIn 53 = .ok (.iinc 5 1, 3) := by decide +kernel
theorem dX6_signsIn_56 : decode cX6_signsIn 56 = .ok (.goto (-48), 3) := by decide +kernel
theorem dX6_signsIn_59 : decode cX6_signsIn 59 = .ok (.iload 4, 2) := by decide +kernel
theorem dX6_signsIn_61 : decode cX6_signsIn 61 = .ok (.ireturn, 1) := by decide +kernel
theorem dX6_isFixer_0 : decode cX6_isFixer 0 = .ok (.iload_n 0, 1) := by decide +kernel
theorem dX6_isFixer_1 : decode cX6_isFixer 1 = .ok (.iconst 1, 1) := by decide +kernel
theorem dX6_isFixer_2 : decode cX6_isFixer 2 = .ok (.if_icmp .lt 23, 3) := by decide +kernel
theorem dX6_isFixer_5 : decode cX6_isFixer 5 = .ok (.iload_n 0, 1) := by decide +kernel
theorem dX6_isFixer_6 : decode cX6_isFixer 6 = .ok (.bipush 63, 2) := by decide +kernel
theorem dX6_isFixer_8 : decode cX6_isFixer 8 = .ok (.if_icmp .gt 17, 3) := by decide +kernel
theorem dX6_isFixer_11 : decode cX6_isFixer 11 = .ok (.iload_n 1, 1) := by decide +kernel
theorem dX6_isFixer_12 : decode cX6_isFixer 12 = .ok (.ifCond .lt 13, 3) := by decide +kernel
theorem dX6_isFixer_15 : decode cX6_isFixer 15 = .ok (.iload_n 1, 1) := by decide +kernel
theorem dX6_isFixer_16 : decode cX6_isFixer 16 = .ok (.bipush 9, 2) := by decide +kernel
theorem dX6_isFixer_18 : decode cX6_isFixer 18 = .ok (.if_icmp .gt 7, 3) := by decide +kernel
theorem dX6_isFixer_21 : decode cX6_isFixer 21 = .ok (.iconst 1, 1) := by decide +kernel
theorem dX6_isFixer_22 : decode cX6_isFixer 22 = .ok (.goto 4, 3) := by decide +kernel
theorem dX6_isFixer_25 : decode cX6_isFixer 25 = .ok (.iconst 0, 1) := by decide +kernel
theorem dX6_isFixer_26 : decode cX6_isFixer 26 = .ok (.ireturn, 1) := by decide +kernel
theorem dX6_isWhatIf_0 : decode cX6_isWhatIf 0 = .ok (.iload_n 0, 1) := by decide +kernel
theorem dX6_isWhatIf_1 : decode cX6_isWhatIf 1 = .ok (.iconst 1, 1) := by decide +kernel
theorem dX6_isWhatIf_2 : decode cX6_isWhatIf 2 = .ok (.if_icmp .lt 14, 3) := by decide +kernel
theorem dX6_isWhatIf_5 : decode cX6_isWhatIf 5 = .ok (.iload_n 0, 1) := by decide +kernel
theorem dX6_isWhatIf_6 : decode cX6_isWhatIf 6 = .ok (.sipush 300, 3) := by decide +kernel
theorem dX6_isWhatIf_9 : decode cX6_isWhatIf 9 = .ok (.if_icmp .gt 7, 3) := by decide +kernel
theorem dX6_isWhatIf_12 : decode cX6_isWhatIf 12 = .ok (.iconst 1, 1) := by decide +kernel
theorem dX6_isWhatIf_13 : decode cX6_isWhatIf 13 = .ok (.goto 4, 3) := by decide +kernel
theorem dX6_isWhatIf_16 : decode cX6_isWhatIf 16 = .ok (.iconst 0, 1) := by decide +kernel
theorem dX6_isWhatIf_17 : decode cX6_isWhatIf 17 = .ok (.ireturn, 1) := by decide +kernel
theorem dX6_isIn_0 : decode cX6_isIn 0 = .ok (.iload_n 0, 1) := by decide +kernel
theorem dX6_isIn_1 : decode cX6_isIn 1 = .ok (.iload_n 1, 1) := by decide +kernel
theorem dX6_isIn_2 : decode cX6_isIn 2 = .ok (.ishr, 1) := by decide +kernel
theorem dX6_isIn_3 : decode cX6_isIn 3 = .ok (.iconst 1, 1) := by decide +kernel
theorem dX6_isIn_4 : decode cX6_isIn 4 = .ok (.iand, 1) := by decide +kernel
theorem dX6_isIn_5 : decode cX6_isIn 5 = .ok (.ifCond .eq 7, 3) := by decide +kernel
theorem dX6_isIn_8 : decode cX6_isIn 8 = .ok (.iconst 1, 1) := by decide +kernel
theorem dX6_isIn_9 : decode cX6_isIn 9 = .ok (.goto 4, 3) := by decide +kernel
theorem dX6_isIn_12 : decode cX6_isIn 12 = .ok (.iconst 0, 1) := by decide +kernel
theorem dX6_isIn_13 : decode cX6_isIn 13 = .ok (.ireturn, 1) := by decide +kernel
theorem dX6_partsOf_0 : decode cX6_partsOf 0 = .ok (.iconst 0, 1) := by decide +kernel
theorem dX6_partsOf_1 : decode cX6_partsOf 1 = .ok (.istore_n 1, 1) := by decide +kernel
theorem dX6_partsOf_2 : decode cX6_partsOf 2 = .ok (.iconst 0, 1) := by decide +kernel
theorem dX6_partsOf_3 : decode cX6_partsOf 3 = .ok (.istore_n 2, 1) := by decide +kernel
theorem dX6_partsOf_4 : decode cX6_partsOf 4 = .ok (.iload_n 2, 1) := by decide +kernel
theorem dX6_partsOf_5 : decode cX6_partsOf 5 = .ok (.iconst 3, 1) := by decide +kernel
theorem dX6_partsOf_6 : decode cX6_partsOf 6 = .ok (.if_icmp .ge 20, 3) := by decide +kernel
theorem dX6_partsOf_9 : decode cX6_partsOf 9 = .ok (.iload_n 1, 1) := by decide +kernel
theorem dX6_partsOf_10 : decode cX6_partsOf 10 = .ok (.iconst 1, 1) := by decide +kernel
theorem dX6_partsOf_11 : decode cX6_partsOf 11 = .ok (.iload_n 0, 1) := by decide +kernel
theorem dX6_partsOf_12 : decode cX6_partsOf 12 = .ok (.iload_n 2, 1) := by decide +kernel
theorem dX6_partsOf_13 : decode cX6_partsOf 13 = .ok (.iadd, 1) := by decide +kernel
theorem dX6_partsOf_14 : decode cX6_partsOf 14 = .ok (.bipush 8, 2) := by decide +kernel
theorem dX6_partsOf_16 : decode cX6_partsOf 16 = .ok (.irem, 1) := by decide +kernel
theorem dX6_partsOf_17 : decode cX6_partsOf 17 = .ok (.ishl, 1) := by decide +kernel
theorem dX6_partsOf_18 : decode cX6_partsOf 18 = .ok (.ior, 1) := by decide +kernel
theorem dX6_partsOf_19 : decode cX6_partsOf 19 = .ok (.istore_n 1, 1) := by decide +kernel
theorem dX6_partsOf_20 : decode cX6_partsOf 20 = .ok (.iinc 2 1, 3) := by decide +kernel
theorem dX6_partsOf_23 : decode cX6_partsOf 23 = .ok (.goto (-19), 3) := by decide +kernel
theorem dX6_partsOf_26 : decode cX6_partsOf 26 = .ok (.iload_n 1, 1) := by decide +kernel
theorem dX6_partsOf_27 : decode cX6_partsOf 27 = .ok (.ireturn, 1) := by decide +kernel
