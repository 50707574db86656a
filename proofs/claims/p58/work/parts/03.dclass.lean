theorem dX0_init_0 : decode cX0_init 0 = .ok (.aload_n 0, 1) := by decide +kernel
theorem dX0_init_1 : decode cX0_init 1 = .ok (.invokespecial 3, 3) := by decide +kernel
theorem dX0_init_4 : decode cX0_init 4 = .ok (.aload_n 0, 1) := by decide +kernel
theorem dX0_init_5 : decode cX0_init 5 = .ok (.bipush 10, 2) := by decide +kernel
theorem dX0_init_7 : decode cX0_init 7 = .ok (.anewarray 9, 3) := by decide +kernel
theorem dX0_init_10 : decode cX0_init 10 = .ok (.putfield 11, 3) := by decide +kernel
theorem dX0_init_13 : decode cX0_init 13 = .ok (.iconst 0, 1) := by decide +kernel
theorem dX0_init_14 : decode cX0_init 14 = .ok (.istore_n 1, 1) := by decide +kernel
theorem dX0_init_15 : decode cX0_init 15 = .ok (.iload_n 1, 1) := by decide +kernel
theorem dX0_init_16 : decode cX0_init 16 = .ok (.aload_n 0, 1) := by decide +kernel
theorem dX0_init_17 : decode cX0_init 17 = .ok (.getfield 11, 3) := by decide +kernel
theorem dX0_init_20 : decode cX0_init 20 = .ok (.arraylength, 1) := by decide +kernel
theorem dX0_init_21 : decode cX0_init 21 = .ok (.if_icmp .ge 22, 3) := by decide +kernel
theorem dX0_init_24 : decode cX0_init 24 = .ok (.aload_n 0, 1) := by decide +kernel
theorem dX0_init_25 : decode cX0_init 25 = .ok (.getfield 11, 3) := by decide +kernel
theorem dX0_init_28 : decode cX0_init 28 = .ok (.iload_n 1, 1) := by decide +kernel
theorem dX0_init_29 : decode cX0_init 29 = .ok (.new 9, 3) := by decide +kernel
theorem dX0_init_32 : decode cX0_init 32 = .ok (.dup, 1) := by decide +kernel
theorem dX0_init_33 : decode cX0_init 33 = .ok (.invokespecial 17, 3) := by decide +kernel
theorem dX0_init_36 : decode cX0_init 36 = .ok (.aastore, 1) := by decide +kernel
theorem dX0_init_37 : decode cX0_init 37 = .ok (.iinc 1 1, 3) := by decide +kernel
theorem dX0_init_40 : decode cX0_init 40 = .ok (.goto (-25), 3) := by decide +kernel
theorem dX0_init_43 : decode cX0_init 43 = .ok (.return_, 1) := by decide +kernel
theorem dX0_forgetAll_0 : decode cX0_forgetAll 0 = .ok (.aload_n 0, 1) := by decide +kernel
theorem dX0_forgetAll_1 : decode cX0_forgetAll 1 = .ok (.iconst 0, 1) := by decide +kernel
theorem dX0_forgetAll_2 : decode cX0_forgetAll 2 = .ok (.putfield 18, 3) := by decide +kernel
theorem dX0_forgetAll_5 : decode cX0_forgetAll 5 = .ok (.aload_n 0, 1) := by decide +kernel
theorem dX0_forgetAll_6 : decode cX0_forgetAll 6 = .ok (.iconst 0, 1) := by decide +kernel
theorem dX0_forgetAll_7 : decode cX0_forgetAll 7 = .ok (.putfield 22, 3) := by decide +kernel
theorem dX0_forgetAll_10 : decode cX0_forgetAll 10 = .ok (.return_, 1) := by decide +kernel
theorem dX0_record_0 : decode cX0_record 0 = .ok (.aload_n 0, 1) := by decide +kernel
theorem dX0_record_1 : decode cX0_record 1 = .ok (.aload_n 0, 1) := by decide +kernel
theorem dX0_record_2 : decode cX0_record 2 = .ok (.getfield 18, 3) := by decide +kernel
theorem dX0_record_5 : decode cX0_record 5 = .ok (.invokevirtual 25, 3) := by decide +kernel
theorem dX0_record_8 : decode cX0_record 8 = .ok (.astore_n 2, 1) := by decide +kernel
theorem dX0_record_9 : decode cX0_record 9 = .ok (.aload_n 2, 1) := by decide +kernel
theorem dX0_record_10 : decode cX0_record 10 = .ok (.ifnull 8, 3) := by decide +kernel
theorem dX0_record_13 : decode cX0_record 13 = .ok (.aload_n 2, 1) := by decide +kernel
theorem dX0_record_14 : decode cX0_record 14 = .ok (.aload_n 1, 1) := by decide +kernel
theorem dX0_record_15 : decode cX0_record 15 = .ok (.invokevirtual 29, 3) := by decide +kernel
theorem dX0_record_18 : decode cX0_record 18 = .ok (.aload_n 0, 1) := by decide +kernel
theorem dX0_record_19 : decode cX0_record 19 = .ok (.aload_n 0, 1) := by decide +kernel
theorem dX0_record_20 : decode cX0_record 20 = .ok (.getfield 18, 3) := by decide +kernel
theorem dX0_record_23 : decode cX0_record 23 = .ok (.iconst 1, 1) := by decide +kernel
theorem dX0_record_24 : decode cX0_record 24 = .ok (.iadd, 1) := by decide +kernel
theorem dX0_record_25 : decode cX0_record 25 = .ok (.bipush 10, 2) := by decide +kernel
theorem dX0_record_27 : decode cX0_record 27 = .ok (.irem, 1) := by decide +kernel
theorem dX0_record_28 : decode cX0_record 28 = .ok (.putfield 18, 3) := by decide +kernel
theorem dX0_record_31 : decode cX0_record 31 = .ok (.aload_n 0, 1) := by decide +kernel
theorem dX0_record_32 : decode cX0_record 32 = .ok (.aload_n 0, 1) := by decide +kernel
theorem dX0_record_33 : decode cX0_record 33 = .ok (.getfield 22, 3) := by decide +kernel
theorem dX0_record_36 : decode cX0_record 36 = .ok (.iconst 1, 1) := by decide +kernel
theorem dX0_record_37 : decode cX0_record 37 = .ok (.iadd, 1) := by decide +kernel
theorem dX0_record_38 : decode cX0_record 38 = .ok (.bipush 10, 2) := by decide +kernel
theorem dX0_record_40 : decode cX0_record 40 = .ok (.invokestatic 33, 3) := by decide +kernel
theorem dX0_record_43 : decode cX0_record 43 = .ok (.putfield 22, 3) := by decide +kernel
theorem dX0_record_46 : decode cX0_record 46 = .ok (.return_, 1) := by decide +kernel
theorem dX0_takeBack_0 : decode cX0_takeBack 0 = .ok (.aload_n 0, 1) := by decide +kernel
theorem dX0_takeBack_1 : decode cX0_takeBack 1 = .ok (.aload_n 0, 1) := by decide +kernel
theorem dX0_takeBack_2 : decode cX0_takeBack 2 = .ok (.getfield 18, 3) := by decide +kernel
theorem dX0_takeBack_5 : decode cX0_takeBack 5 = .ok (.bipush 10, 2) := by decide +kernel
theorem dX0_takeBack_7 : decode cX0_takeBack 7 = .ok (.iadd, 1) := by decide +kernel
theorem dX0_takeBack_8 : decode cX0_takeBack 8 = .ok (.iconst 1, 1) := by decide +kernel
theorem dX0_takeBack_9 : decode cX0_takeBack 9 = .ok (.isub, 1) := by decide +kernel
theorem dX0_takeBack_10 : decode cX0_takeBack 10 = .ok (.bipush 10, 2) := by decide +kernel
theorem dX0_takeBack_12 : decode cX0_takeBack 12 = .ok (.irem, 1) := by decide +kernel
theorem dX0_takeBack_13 : decode cX0_takeBack 13 = .ok (.putfield 18, 3) := by decide +kernel
theorem dX0_takeBack_16 : decode cX0_takeBack 16 = .ok (.aload_n 0, 1) := by decide +kernel
theorem dX0_takeBack_17 : decode cX0_takeBack 17 = .ok (.aload_n 0, 1) := by decide +kernel
theorem dX0_takeBack_18 : decode cX0_takeBack 18 = .ok (.getfield 22, 3) := by decide +kernel
theorem dX0_takeBack_21 : decode cX0_takeBack 21 = .ok (.iconst 1, 1) := by decide +kernel
theorem dX0_takeBack_22 : decode cX0_takeBack 22 = .ok (.isub, 1) := by decide +kernel
theorem dX0_takeBack_23 : decode cX0_takeBack 23 = .ok (.iconst 0, 1) := by decide +kernel
theorem dX0_takeBack_24 : decode cX0_takeBack 24 = .ok (.invokestatic 39, 3) := by decide +kernel
theorem dX0_takeBack_27 : decode cX0_takeBack 27 = .ok (.putfield 22, 3) := by decide +kernel
theorem dX0_takeBack_30 : decode cX0_takeBack 30 = .ok (.aload_n 0, 1) := by decide +kernel
theorem dX0_takeBack_31 : decode cX0_takeBack 31 = .ok (.aload_n 0, 1) := by decide +kernel
theorem dX0_takeBack_32 : decode cX0_takeBack 32 = .ok (.getfield 18, 3) := by decide +kernel
theorem dX0_takeBack_35 : decode cX0_takeBack 35 = .ok (.invokevirtual 25, 3) := by decide +kernel
theorem dX0_takeBack_38 : decode cX0_takeBack 38 = .ok (.astore_n 2, 1) := by decide +kernel
theorem dX0_takeBack_39 : decode cX0_takeBack 39 = .ok (.aload_n 2, 1) := by decide +kernel
theorem dX0_takeBack_40 : decode cX0_takeBack 40 = .ok (.ifnull 8, 3) := by decide +kernel
theorem dX0_takeBack_43 : decode cX0_takeBack 43 = .ok (.aload_n 1, 1) := by decide +kernel
theorem dX0_takeBack_44 : decode cX0_takeBack 44 = .ok (.aload_n 2, 1) := by decide +kernel
theorem dX0_takeBack_45 : decode cX0_takeBack 45 = .ok (.invokevirtual 29, 3) := by decide +kernel
theorem dX0_takeBack_48 : decode cX0_takeBack 48 = .ok (.return_, 1) := by decide +kernel
theorem dX0_stateAt_0 : decode cX0_stateAt 0 = .ok (.iload_n 1, 1) := by decide +kernel
theorem dX0_stateAt_1 : decode cX0_stateAt 1 = .ok (.ifCond .lt 21, 3) := by decide +kernel
theorem dX0_stateAt_4 : decode cX0_stateAt 4 = .ok (.iload_n 1, 1) := by decide +kernel
theorem dX0_stateAt_5 : decode cX0_stateAt 5 = .ok (.aload_n 0, 1) := by decide +kernel
theorem dX0_stateAt_6 : decode cX0_stateAt 6 = .ok (.getfield 11, 3) := by decide +kernel
theorem dX0_stateAt_9 : decode cX0_stateAt 9 = .ok (.arraylength, 1) := by decide +kernel
theorem dX0_stateAt_10 : decode cX0_stateAt 10 = .ok (.if_icmp .ge 12, 3) := by decide +kernel
theorem dX0_stateAt_13 : decode cX0_stateAt 13 = .ok (.aload_n 0, 1) := by decide +kernel
theorem dX0_stateAt_14 : decode cX0_stateAt 14 = .ok (.getfield 11, 3) := by decide +kernel
theorem dX0_stateAt_17 : decode cX0_stateAt 17 = .ok (.iload_n 1, 1) := by decide +kernel
theorem dX0_stateAt_18 : decode cX0_stateAt 18 = .ok (.aaload, 1) := by decide +kernel
theorem dX0_stateAt_19 : decode cX0_stateAt 19 = .ok (.goto 4, 3) := by decide +kernel
theorem dX0_stateAt_22 : decode cX0_stateAt 22 = .ok (.aconst_null, 1) := by decide +kernel
theorem dX0_stateAt_23 : decode cX0_stateAt 23 = .ok (.areturn, 1) := by decide +kernel
theorem dX1_init_0 : decode cX1_init 0 = .ok (.aload_n 0, 1) := by decide +kernel
theorem dX1_init_1 : decode cX1_init 1 = .ok (.invokespecial 3, 3) := by decide +kernel
theorem dX1_init_4 : decode cX1_init 4 = .ok (.aload_n 0, 1) := by decide +kernel
theorem dX1_init_5 : decode cX1_init 5 = .ok (.new 9, 3) := by decide +kernel
theorem dX1_init_8 : decode cX1_init 8 = .ok (.dup, 1) := by decide +kernel
theorem dX1_init_9 : decode cX1_init 9 = .ok (.invokespecial 11, 3) := by decide +kernel
theorem dX1_init_12 : decode cX1_init 12 = .ok (.putfield 12, 3) := by decide +kernel
theorem dX1_init_15 : decode cX1_init 15 = .ok (.aload_n 0, 1) := by decide +kernel
theorem dX1_init_16 : decode cX1_init 16 = .ok (.sipush 600, 3) := by decide +kernel
theorem dX1_init_19 : decode cX1_init 19 = .ok (.newarray .byte, 2) := by decide +kernel
theorem dX1_init_21 : decode cX1_init 21 = .ok (.putfield 18, 3) := by decide +kernel
theorem dX1_init_24 : decode cX1_init 24 = .ok (.return_, 1) := by decide +kernel
theorem dX1_addByte_0 : decode cX1_addByte 0 = .ok (.aload_n 0, 1) := by decide +kernel
theorem dX1_addByte_1 : decode cX1_addByte 1 = .ok (.getfield 22, 3) := by decide +kernel
theorem dX1_addByte_4 : decode cX1_addByte 4 = .ok (.ifCond .lt 36, 3) := by decide +kernel
theorem dX1_addByte_7 : decode cX1_addByte 7 = .ok (.aload_n 0, 1) := by decide +kernel
theorem dX1_addByte_8 : decode cX1_addByte 8 = .ok (.getfield 22, 3) := by decide +kernel
theorem dX1_addByte_11 : decode cX1_addByte 11 = .ok (.aload_n 0, 1) := by decide +kernel
theorem dX1_addByte_12 : decode cX1_addByte 12 = .ok (.getfield 18, 3) := by decide +kernel
theorem dX1_addByte_15 : decode cX1_addByte 15 = .ok (.arraylength, 1) := by decide +kernel
theorem dX1_addByte_16 : decode cX1_addByte 16 = .ok (.if_icmp .ge 24, 3) := by decide +kernel
theorem dX1_addByte_19 : decode cX1_addByte 19 = .ok (.aload_n 0, 1) := by decide +kernel
theorem dX1_addByte_20 : decode cX1_addByte 20 = .ok (.getfield 18, 3) := by decide +kernel
theorem dX1_addByte_23 : decode cX1_addByte 23 = .ok (.aload_n 0, 1) := by decide +kernel
theorem dX1_addByte_24 : decode cX1_addByte 24 = .ok (.getfield 22, 3) := by decide +kernel
theorem dX1_addByte_27 : decode cX1_addByte 27 = .ok (.iload_n 1, 1) := by decide +kernel
theorem dX1_addByte_28 : decode cX1_addByte 28 = .ok (.i2b, 1) := by decide +kernel
theorem dX1_addByte_29 : decode cX1_addByte 29 = .ok (.bastore, 1) := by decide +kernel
theorem dX1_addByte_30 : decode cX1_addByte 30 = .ok (.aload_n 0, 1) := by decide +kernel
theorem dX1_addByte_31 : decode cX1_addByte 31 = .ok (.dup, 1) := by decide +kernel
theorem dX1_addByte_32 : decode cX1_addByte 32 = .ok (.getfield 22, 3) := by decide +kernel
theorem dX1_addByte_35 : decode cX1_addByte 35 = .ok (.iconst 1, 1) := by decide +kernel
theorem dX1_addByte_36 : decode cX1_addByte 36 = .ok (.iadd, 1) := by decide +kernel
theorem dX1_addByte_37 : decode cX1_addByte 37 = .ok (.putfield 22, 3) := by decide +kernel
theorem dX1_addByte_40 : decode cX1_addByte 40 = .ok (.return_, 1) := by decide +kernel
theorem dX1_emptyBuffer_0 : decode cX1_emptyBuffer 0 = .ok (.aload_n 0, 1) := by decide +kernel
theorem dX1_emptyBuffer_1 : decode cX1_emptyBuffer 1 = .ok (.iconst 0, 1) := by decide +kernel
theorem dX1_emptyBuffer_2 : decode cX1_emptyBuffer 2 = .ok (.putfield 22, 3) := by decide +kernel
theorem dX1_emptyBuffer_5 : decode cX1_emptyBuffer 5 = .ok (.return_, 1) := by decide +kernel
theorem dX1_parse_0 : decode cX1_parse 0 = .ok (.aload_n 0, 1) := by decide +kernel
theorem dX1_parse_1 : decode cX1_parse 1 = .ok (.iload_n 1, 1) := by decide +kernel
theorem dX1_parse_2 : decode cX1_parse 2 = .ok (.putfield 26, 3) := by decide +kernel
theorem dX1_parse_5 : decode cX1_parse 5 = .ok (.aload_n 0, 1) := by decide +kernel
theorem dX1_parse_6 : decode cX1_parse 6 = .ok (.iconst 0, 1) := by decide +kernel
theorem dX1_parse_7 : decode cX1_parse 7 = .ok (.putfield 29, 3) := by decide +kernel
theorem dX1_parse_10 : decode cX1_parse 10 = .ok (.aload_n 0, 1) := by decide +kernel
theorem dX1_parse_11 : decode cX1_parse 11 = .ok (.iconst (-1), 1) := by decide +kernel
theorem dX1_parse_12 : decode cX1_parse 12 = .ok (.putfield 32, 3) := by decide +kernel
theorem dX1_parse_15 : decode cX1_parse 15 = .ok (.aload_n 0, 1) := by decide +kernel
theorem dX1_parse_16 : decode cX1_parse 16 = .ok (.iconst 0, 1) := by decide +kernel
theorem dX1_parse_17 : decode cX1_parse 17 = .ok (.putfield 35, 3) := by decide +kernel
theorem dX1_parse_20 : decode cX1_parse 20 = .ok (.aload_n 0, 1) := by decide +kernel
theorem dX1_parse_21 : decode cX1_parse 21 = .ok (.iconst 0, 1) := by decide +kernel
theorem dX1_parse_22 : decode cX1_parse 22 = .ok (.putfield 38, 3) := by decide +kernel
theorem dX1_parse_25 : decode cX1_parse 25 = .ok (.aload_n 0, 1) := by decide +kernel
theorem dX1_parse_26 : decode cX1_parse 26 = .ok (.iconst 0, 1) := by decide +kernel
theorem dX1_parse_27 : decode cX1_parse 27 = .ok (.putfield 41, 3) := by decide +kernel
theorem dX1_parse_30 : decode cX1_parse 30 = .ok (.aload_n 0, 1) := by decide +kernel
theorem dX1_parse_31 : decode cX1_parse 31 = .ok (.invokevirtual 44, 3) := by decide +kernel
theorem dX1_parse_34 : decode cX1_parse 34 = .ok (.iconst 0, 1) := by decide +kernel
theorem dX1_parse_35 : decode cX1_parse 35 = .ok (.istore_n 2, 1) := by decide +kernel
theorem dX1_parse_36 : decode cX1_parse 36 = .ok (.iload_n 2, 1) := by decide +kernel
theorem dX1_parse_37 : decode cX1_parse 37 = .ok (.aload_n 0, 1) := by decide +kernel
theorem dX1_parse_38 : decode cX1_parse 38 = .ok (.getfield 26, 3) := by decide +kernel
theorem dX1_parse_41 : decode cX1_parse 41 = .ok (.if_icmp .ge 128, 3) := by decide +kernel
theorem dX1_parse_44 : decode cX1_parse 44 = .ok (.aload_n 0, 1) := by decide +kernel
theorem dX1_parse_45 : decode cX1_parse 45 = .ok (.getfield 29, 3) := by decide +kernel
theorem dX1_parse_48 : decode cX1_parse 48 = .ok (.ifCond .ne 121, 3) := by decide +kernel
theorem dX1_parse_51 : decode cX1_parse 51 = .ok (.aload_n 0, 1) := by decide +kernel
theorem dX1_parse_52 : decode cX1_parse 52 = .ok (.invokevirtual 47, 3) := by decide +kernel
theorem dX1_parse_55 : decode cX1_parse 55 = .ok (.ifCond .eq 114, 3) := by decide +kernel
theorem dX1_parse_58 : decode cX1_parse 58 = .ok (.aload_n 0, 1) := by decide +kernel
theorem dX1_parse_59 : decode cX1_parse 59 = .ok (.invokevirtual 51, 3) := by decide +kernel
theorem dX1_parse_62 : decode cX1_parse 62 = .ok (.aload_n 0, 1) := by decide +kernel
theorem dX1_parse_63 : decode cX1_parse 63 = .ok (.ldc 54, 2) := by decide +kernel
theorem dX1_parse_65 : decode cX1_parse 65 = .ok (.invokevirtual 56, 3) := by decide +kernel
theorem dX1_parse_68 : decode cX1_parse 68 = .ok (.ifCond .eq 10, 3) := by decide +kernel
theorem dX1_parse_71 : decode cX1_parse 71 = .ok (.aload_n 0, 1) := by decide +kernel
theorem dX1_parse_72 : decode cX1_parse 72 = .ok (.invokevirtual 60, 3) := by decide +kernel
theorem dX1_parse_75 : decode cX1_parse 75 = .ok (.goto 88, 3) := by decide +kernel
theorem dX1_parse_78 : decode cX1_parse 78 = .ok (.aload_n 0, 1) := by decide +kernel
theorem dX1_parse_79 : decode cX1_parse 79 = .ok (.ldc 63, 2) := by decide +kernel
theorem dX1_parse_81 : decode cX1_parse 81 = .ok (.invokevirtual 56, 3) := by decide +kernel
theorem dX1_parse_84 : decode cX1_parse 84 = .ok (.ifCond .eq 10, 3) := by decide +kernel
theorem dX1_parse_87 : decode cX1_parse 87 = .ok (.aload_n 0, 1) := by decide +kernel
theorem dX1_parse_88 : decode cX1_parse 88 = .ok (.invokevirtual 65, 3) := by decide +kernel
theorem dX1_parse_91 : decode cX1_parse 91 = .ok (.goto 72, 3) := by decide +kernel
theorem dX1_parse_94 : decode cX1_parse 94 = .ok (.aload_n 0, 1) := by decide +kernel
theorem dX1_parse_95 : decode cX1_parse 95 = .ok (.ldc 68, 2) := by decide +kernel
theorem dX1_parse_97 : decode cX1_parse 97 = .ok (.invokevirtual 56, 3) := by decide +kernel
theorem dX1_parse_100 : decode cX1_parse 100 = .ok (.ifCond .eq 10, 3) := by decide +kernel
theorem dX1_parse_103 : decode cX1_parse 103 = .ok (.aload_n 0, 1) := by decide +kernel
theorem dX1_parse_104 : decode cX1_parse 104 = .ok (.invokevirtual 70, 3) := by decide +kernel
theorem dX1_parse_107 : decode cX1_parse 107 = .ok (.goto 56, 3) := by decide +kernel
theorem dX1_parse_110 : decode cX1_parse 110 = .ok (.aload_n 0, 1) := by decide +kernel
theorem dX1_parse_111 : decode cX1_parse 111 = .ok (.ldc 73, 2) := by decide +kernel
theorem dX1_parse_113 : decode cX1_parse 113 = .ok (.invokevirtual 56, 3) := by decide +kernel
theorem dX1_parse_116 : decode cX1_parse 116 = .ok (.ifCond .eq 10, 3) := by decide +kernel
theorem dX1_parse_119 : decode cX1_parse 119 = .ok (.aload_n 0, 1) := by decide +kernel
theorem dX1_parse_120 : decode cX1_parse 120 = .ok (.invokevirtual 75, 3) := by decide +kernel
theorem dX1_parse_123 : decode cX1_parse 123 = .ok (.goto 40, 3) := by decide +kernel
theorem dX1_parse_126 : decode cX1_parse 126 = .ok (.aload_n 0, 1) := by decide +kernel
theorem dX1_parse_127 : decode cX1_parse 127 = .ok (.ldc 78, 2) := by decide +kernel
theorem dX1_parse_129 : decode cX1_parse 129 = .ok (.invokevirtual 56, 3) := by decide +kernel
theorem dX1_parse_132 : decode cX1_parse 132 = .ok (.ifCond .eq 10, 3) := by decide +kernel
theorem dX1_parse_135 : decode cX1_parse 135 = .ok (.aload_n 0, 1) := by decide +kernel
theorem dX1_parse_136 : decode cX1_parse 136 = .ok (.invokevirtual 80, 3) := by decide +kernel
theorem dX1_parse_139 : decode cX1_parse 139 = .ok (.goto 24, 3) := by decide +kernel
theorem dX1_parse_142 : decode cX1_parse 142 = .ok (.aload_n 0, 1) := by decide +kernel
theorem dX1_parse_143 : decode cX1_parse 143 = .ok (.ldc 83, 2) := by decide +kernel
theorem dX1_parse_145 : decode cX1_parse 145 = .ok (.invokevirtual 56, 3) := by decide +kernel
theorem dX1_parse_148 : decode cX1_parse 148 = .ok (.ifCond .eq 10, 3) := by decide +kernel
theorem dX1_parse_151 : decode cX1_parse 151 = .ok (.aload_n 0, 1) := by decide +kernel
theorem dX1_parse_152 : decode cX1_parse 152 = .ok (.invokevirtual 85, 3) := by decide +kernel
theorem dX1_parse_155 : decode cX1_parse 155 = .ok (.goto 8, 3) := by decide +kernel
theorem dX1_parse_158 : decode cX1_parse 158 = .ok (.aload_n 0, 1) := by decide +kernel
theorem dX1_parse_159 : decode cX1_parse 159 = .ok (.iconst 1, 1) := by decide +kernel
theorem dX1_parse_160 : decode cX1_parse 160 = .ok (.invokevirtual 88, 3) := by decide +kernel
theorem dX1_parse_163 : decode cX1_parse 163 = .ok (.iinc 2 1, 3) := by decide +kernel
theorem dX1_parse_166 : decode cX1_parse 166 = .ok (.goto (-130), 3) := by decide +kernel
theorem dX1_parse_169 : decode cX1_parse 169 = .ok (.return_, 1) := by decide +kernel
theorem dX1_readHead_0 : decode cX1_readHead 0 = .ok (.aload_n 0, 1) := by decide +kernel
theorem dX1_readHead_1 : decode cX1_readHead 1 = .ok (.invokevirtual 51, 3) := by decide +kernel
theorem dX1_readHead_4 : decode cX1_readHead 4 = .ok (.aload_n 0, 1) := by decide +kernel
theorem dX1_readHead_5 : decode cX1_readHead 5 = .ok (.ldc 92, 2) := by decide +kernel
theorem dX1_readHead_7 : decode cX1_readHead 7 = .ok (.invokevirtual 56, 3) := by decide +kernel
theorem dX1_readHead_10 : decode cX1_readHead 10 = .ok (.ifCond .ne 8, 3) := by decide +kernel
theorem dX1_readHead_13 : decode cX1_readHead 13 = .ok (.aload_n 0, 1) := by decide +kernel
theorem dX1_readHead_14 : decode cX1_readHead 14 = .ok (.iconst 1, 1) := by decide +kernel
theorem dX1_readHead_15 : decode cX1_readHead 15 = .ok (.invokevirtual 88, 3) := by decide +kernel
theorem dX1_readHead_18 : decode cX1_readHead 18 = .ok (.aload_n 0, 1) := by decide +kernel
theorem dX1_readHead_19 : decode cX1_readHead 19 = .ok (.iconst 0, 1) := by decide +kernel
theorem dX1_readHead_20 : decode cX1_readHead 20 = .ok (.sipush 9972, 3) := by decide +kernel
theorem dX1_readHead_23 : decode cX1_readHead 23 = .ok (.invokevirtual 94, 3) := by decide +kernel
theorem dX1_readHead_26 : decode cX1_readHead 26 = .ok (.istore_n 1, 1) := by decide +kernel
theorem dX1_readHead_27 : decode cX1_readHead 27 = .ok (.aload_n 0, 1) := by decide +kernel
theorem dX1_readHead_28 : decode cX1_readHead 28 = .ok (.iconst 0, 1) := by decide +kernel
theorem dX1_readHead_29 : decode cX1_readHead 29 = .ok (.sipush 9999, 3) := by decide +kernel
theorem dX1_readHead_32 : decode cX1_readHead 32 = .ok (.invokevirtual 94, 3) := by decide +kernel
theorem dX1_readHead_35 : decode cX1_readHead 35 = .ok (.istore_n 2, 1) := by decide +kernel
theorem dX1_readHead_36 : decode cX1_readHead 36 = .ok (.aload_n 0, 1) := by decide +kernel
theorem dX1_readHead_37 : decode cX1_readHead 37 = .ok (.getfield 12, 3) := by decide +kernel
theorem dX1_readHead_40 : decode cX1_readHead 40 = .ok (.iload_n 1, 1) := by decide +kernel
theorem dX1_readHead_41 : decode cX1_readHead 41 = .ok (.iload_n 2, 1) := by decide +kernel
theorem dX1_readHead_42 : decode cX1_readHead 42 = .ok (.invokevirtual 98, 3) := by decide +kernel
theorem dX1_readHead_45 : decode cX1_readHead 45 = .ok (.return_, 1) := by decide +kernel
theorem dX1_nextIsLine_0 : decode cX1_nextIsLine 0 = .ok (.aload_n 0, 1) := by decide +kernel
theorem dX1_nextIsLine_1 : decode cX1_nextIsLine 1 = .ok (.invokevirtual 51, 3) := by decide +kernel
theorem dX1_nextIsLine_4 : decode cX1_nextIsLine 4 = .ok (.aload_n 0, 1) := by decide +kernel
theorem dX1_nextIsLine_5 : decode cX1_nextIsLine 5 = .ok (.getfield 35, 3) := by decide +kernel
theorem dX1_nextIsLine_8 : decode cX1_nextIsLine 8 = .ok (.iconst 3, 1) := by decide +kernel
theorem dX1_nextIsLine_9 : decode cX1_nextIsLine 9 = .ok (.if_icmp .eq 16, 3) := by decide +kernel
theorem dX1_nextIsLine_12 : decode cX1_nextIsLine 12 = .ok (.aload_n 0, 1) := by decide +kernel
theorem dX1_nextIsLine_13 : decode cX1_nextIsLine 13 = .ok (.getfield 35, 3) := by decide +kernel
theorem dX1_nextIsLine_16 : decode cX1_nextIsLine 16 = .ok (.iconst 4, 1) := by decide +kernel
theorem dX1_nextIsLine_17 : decode cX1_nextIsLine 17 = .ok (.if_icmp .eq 8, 3) := by decide +kernel
theorem dX1_nextIsLine_20 : decode cX1_nextIsLine 20 = .ok (.aload_n 0, 1) := by decide +kernel
theorem dX1_nextIsLine_21 : decode cX1_nextIsLine 21 = .ok (.iconst 1, 1) := by decide +kernel
theorem dX1_nextIsLine_22 : decode cX1_nextIsLine 22 = .ok (.invokevirtual 88, 3) := by decide +kernel
theorem dX1_nextIsLine_25 : decode cX1_nextIsLine 25 = .ok (.aload_n 0, 1) := by decide +kernel
theorem dX1_nextIsLine_26 : decode cX1_nextIsLine 26 = .ok (.getfield 35, 3) := by decide +kernel
theorem dX1_nextIsLine_29 : decode cX1_nextIsLine 29 = .ok (.iconst 3, 1) := by decide +kernel
theorem dX1_nextIsLine_30 : decode cX1_nextIsLine 30 = .ok (.if_icmp .ne 7, 3) := by decide +kernel
theorem dX1_nextIsLine_33 : decode cX1_nextIsLine 33 = .ok (.iconst 1, 1) := by decide +kernel
theorem dX1_nextIsLine_34 : decode cX1_nextIsLine 34 = .ok (.goto 4, 3) := by decide +kernel
theorem dX1_nextIsLine_37 : decode cX1_nextIsLine 37 = .ok (.iconst 0, 1) := by decide +kernel
theorem dX1_nextIsLine_38 : decode cX1_nextIsLine 38 = .ok (.ireturn, 1) := by decide +kernel
theorem dX1_readGarden_0 : decode cX1_readGarden 0 = .ok (.aload_n 0, 1) := by decide +kernel
theorem dX1_readGarden_1 : decode cX1_readGarden 1 = .ok (.getfield 12, 3) := by decide +kernel
theorem dX1_readGarden_4 : decode cX1_readGarden 4 = .ok (.getfield 102, 3) := by decide +kernel
theorem dX1_readGarden_7 : decode cX1_readGarden 7 = .ok (.iconst 4, 1) := by decide +kernel
theorem dX1_readGarden_8 : decode cX1_readGarden 8 = .ok (.if_icmp .lt 8, 3) := by decide +kernel
theorem dX1_readGarden_11 : decode cX1_readGarden 11 = .ok (.aload_n 0, 1) := by decide +kernel
theorem dX1_readGarden_12 : decode cX1_readGarden 12 = .ok (.iconst 5, 1) := by decide +kernel
theorem dX1_readGarden_13 : decode cX1_readGarden 13 = .ok (.invokevirtual 88, 3) := by decide +kernel
theorem dX1_readGarden_16 : decode cX1_readGarden 16 = .ok (.aload_n 0, 1) := by decide +kernel
theorem dX1_readGarden_17 : decode cX1_readGarden 17 = .ok (.iconst 1, 1) := by decide +kernel
theorem dX1_readGarden_18 : decode cX1_readGarden 18 = .ok (.bipush 12, 2) := by decide +kernel
theorem dX1_readGarden_20 : decode cX1_readGarden 20 = .ok (.invokevirtual 94, 3) := by decide +kernel
theorem dX1_readGarden_23 : decode cX1_readGarden 23 = .ok (.istore_n 1, 1) := by decide +kernel
theorem dX1_readGarden_24 : decode cX1_readGarden 24 = .ok (.aload_n 0, 1) := by decide +kernel
theorem dX1_readGarden_25 : decode cX1_readGarden 25 = .ok (.getfield 29, 3) := by decide +kernel
theorem dX1_readGarden_28 : decode cX1_readGarden 28 = .ok (.ifCond .ne 11, 3) := by decide +kernel
theorem dX1_readGarden_31 : decode cX1_readGarden 31 = .ok (.aload_n 0, 1) := by decide +kernel
theorem dX1_readGarden_32 : decode cX1_readGarden 32 = .ok (.getfield 12, 3) := by decide +kernel
theorem dX1_readGarden_35 : decode cX1_readGarden 35 = .ok (.iload_n 1, 1) := by decide +kernel
theorem dX1_readGarden_36 : decode cX1_readGarden 36 = .ok (.invokevirtual 105, 3) := by decide +kernel
theorem dX1_readGarden_39 : decode cX1_readGarden 39 = .ok (.return_, 1) := by decide +kernel
theorem dX1_readChild_0 : decode cX1_readChild 0 = .ok (.aload_n 0, 1) := by decide +kernel
theorem dX1_readChild_1 : decode cX1_readChild 1 = .ok (.getfield 12, 3) := by decide +kernel
theorem dX1_readChild_4 : decode cX1_readChild 4 = .ok (.getfield 108, 3) := by decide +kernel
theorem dX1_readChild_7 : decode cX1_readChild 7 = .ok (.bipush 10, 2) := by decide +kernel
theorem dX1_readChild_9 : decode cX1_readChild 9 = .ok (.if_icmp .lt 8, 3) := by decide +kernel
theorem dX1_readChild_12 : decode cX1_readChild 12 = .ok (.aload_n 0, 1) := by decide +kernel
theorem dX1_readChild_13 : decode cX1_readChild 13 = .ok (.iconst 5, 1) := by decide +kernel
theorem dX1_readChild_14 : decode cX1_readChild 14 = .ok (.invokevirtual 88, 3) := by decide +kernel
theorem dX1_readChild_17 : decode cX1_readChild 17 = .ok (.aload_n 0, 1) := by decide +kernel
theorem dX1_readChild_18 : decode cX1_readChild 18 = .ok (.invokevirtual 111, 3) := by decide +kernel
theorem dX1_readChild_21 : decode cX1_readChild 21 = .ok (.istore_n 1, 1) := by decide +kernel
theorem dX1_readChild_22 : decode cX1_readChild 22 = .ok (.aload_n 0, 1) := by decide +kernel
theorem dX1_readChild_23 : decode cX1_readChild 23 = .ok (.getfield 12, 3) := by decide +kernel
theorem dX1_readChild_26 : decode cX1_readChild 26 = .ok (.iload_n 1, 1) := by decide +kernel
theorem dX1_readChild_27 : decode cX1_readChild 27 = .ok (.invokevirtual 115, 3) := by decide +kernel
theorem dX1_readChild_30 : decode cX1_readChild 30 = .ok (.iconst (-1), 1) := by decide +kernel
theorem dX1_readChild_31 : decode cX1_readChild 31 = .ok (.if_icmp .eq 8, 3) := by decide +kernel
theorem dX1_readChild_34 : decode cX1_readChild 34 = .ok (.aload_n 0, 1) := by decide +kernel
theorem dX1_readChild_35 : decode cX1_readChild 35 = .ok (.iconst 4, 1) := by decide +kernel
theorem dX1_readChild_36 : decode cX1_readChild 36 = .ok (.invokevirtual 88, 3) := by decide +kernel
theorem dX1_readChild_39 : decode cX1_readChild 39 = .ok (.aload_n 0, 1) := by decide +kernel
theorem dX1_readChild_40 : decode cX1_readChild 40 = .ok (.iconst 0, 1) := by decide +kernel
theorem dX1_readChild_41 : decode cX1_readChild 41 = .ok (.iconst 5, 1) := by decide +kernel
theorem dX1_readChild_42 : decode cX1_readChild 42 = .ok (.invokevirtual 94, 3) := by decide +kernel
theorem dX1_readChild_45 : decode cX1_readChild 45 = .ok (.istore_n 2, 1) := by decide +kernel
theorem dX1_readChild_46 : decode cX1_readChild 46 = .ok (.aload_n 0, 1) := by decide +kernel
theorem dX1_readChild_47 : decode cX1_readChild 47 = .ok (.iconst 1, 1) := by decide +kernel
theorem dX1_readChild_48 : decode cX1_readChild 48 = .ok (.bipush 20, 2) := by decide +kernel
theorem dX1_readChild_50 : decode cX1_readChild 50 = .ok (.invokevirtual 94, 3) := by decide +kernel
theorem dX1_readChild_53 : decode cX1_readChild 53 = .ok (.istore_n 3, 1) := by decide +kernel
theorem dX1_readChild_54 : decode cX1_readChild 54 = .ok (.aload_n 0, 1) := by decide +kernel
theorem dX1_readChild_55 : decode cX1_readChild 55 = .ok (.iconst 0, 1) := by decide +kernel
theorem dX1_readChild_56 : decode cX1_readChild 56 = .ok (.bipush 99, 2) := by decide +kernel
theorem dX1_readChild_58 : decode cX1_readChild 58 = .ok (.invokevirtual 94, 3) := by decide +kernel
theorem dX1_readChild_61 : decode cX1_readChild 61 = .ok (.istore 4, 2) := by decide +kernel
theorem dX1_readChild_63 : decode cX1_readChild 63 = .ok (.aload_n 0, 1) := by decide +kernel
theorem dX1_readChild_64 : decode cX1_readChild 64 = .ok (.iconst 0, 1) := by decide +kernel
theorem dX1_readChild_65 : decode cX1_readChild 65 = .ok (.aload_n 0, 1) := by decide +kernel
theorem dX1_readChild_66 : decode cX1_readChild 66 = .ok (.getfield 12, 3) := by decide +kernel
theorem dX1_readChild_69 : decode cX1_readChild 69 = .ok (.getfield 102, 3) := by decide +kernel
theorem dX1_readChild_72 : decode cX1_readChild 72 = .ok (.iconst 1, 1) := by decide +kernel
theorem dX1_readChild_73 : decode cX1_readChild 73 = .ok (.isub, 1) := by decide +kernel
theorem dX1_readChild_74 : decode cX1_readChild 74 = .ok (.invokevirtual 94, 3) := by decide +kernel
theorem dX1_readChild_77 : decode cX1_readChild 77 = .ok (.istore 5, 2) := by decide +kernel
theorem dX1_readChild_79 : decode cX1_readChild 79 = .ok (.aload_n 0, 1) := by decide +kernel
theorem dX1_readChild_80 : decode cX1_readChild 80 = .ok (.getfield 29, 3) := by decide +kernel
theorem dX1_readChild_83 : decode cX1_readChild 83 = .ok (.ifCond .ne 17, 3) := by decide +kernel
theorem dX1_readChild_86 : decode cX1_readChild 86 = .ok (.aload_n 0, 1) := by decide +kernel
theorem dX1_readChild_87 : decode cX1_readChild 87 = .ok (.getfield 12, 3) := by decide +kernel
theorem dX1_readChild_90 : decode cX1_readChild 90 = .ok (.iload_n 1, 1) := by decide +kernel
theorem dX1_readChild_91 : decode cX1_readChild 91 = .ok (.iload_n 2, 1) := by decide +kernel
theorem dX1_readChild_92 : decode cX1_readChild 92 = .ok (.iload_n 3, 1) := by decide +kernel
theorem dX1_readChild_93 : decode cX1_readChild 93 = .ok (.iload 4, 2) := by decide +kernel
theorem dX1_readChild_95 : decode cX1_readChild 95 = .ok (.iload 5, 2) := by decide +kernel
theorem dX1_readChild_97 : decode cX1_readChild 97 = .ok (.invokevirtual 119, 3) := by decide +kernel
theorem dX1_readChild_100 : decode cX1_readChild 100 = .ok (.return_, 1) := by decide +kernel
theorem dX1_readBirthday_0 : decode cX1_readBirthday 0 = .ok (.aload_n 0, 1) := by decide +kernel
theorem dX1_readBirthday_1 : decode cX1_readBirthday 1 = .ok (.invokevirtual 123, 3) := by decide +kernel
theorem dX1_readBirthday_4 : decode cX1_readBirthday 4 = .ok (.istore_n 1, 1) := by decide +kernel
theorem dX1_readBirthday_5 : decode cX1_readBirthday 5 = .ok (.aload_n 0, 1) := by decide +kernel
theorem dX1_readBirthday_6 : decode cX1_readBirthday 6 = .ok (.iconst 1, 1) := by decide +kernel
theorem dX1_readBirthday_7 : decode cX1_readBirthday 7 = .ok (.bipush 12, 2) := by decide +kernel
theorem dX1_readBirthday_9 : decode cX1_readBirthday 9 = .ok (.invokevirtual 94, 3) := by decide +kernel
theorem dX1_readBirthday_12 : decode cX1_readBirthday 12 = .ok (.istore_n 2, 1) := by decide +kernel
theorem dX1_readBirthday_13 : decode cX1_readBirthday 13 = .ok (.aload_n 0, 1) := by decide +kernel
theorem dX1_readBirthday_14 : decode cX1_readBirthday 14 = .ok (.iconst 1, 1) := by decide +kernel
theorem dX1_readBirthday_15 : decode cX1_readBirthday 15 = .ok (.bipush 30, 2) := by decide +kernel
theorem dX1_readBirthday_17 : decode cX1_readBirthday 17 = .ok (.invokevirtual 94, 3) := by decide +kernel
theorem dX1_readBirthday_20 : decode cX1_readBirthday 20 = .ok (.istore_n 3, 1) := by decide +kernel
theorem dX1_readBirthday_21 : decode cX1_readBirthday 21 = .ok (.aload_n 0, 1) := by decide +kernel
theorem dX1_readBirthday_22 : decode cX1_readBirthday 22 = .ok (.getfield 29, 3) := by decide +kernel
theorem dX1_readBirthday_25 : decode cX1_readBirthday 25 = .ok (.ifCond .eq 4, 3) := by decide +kernel
theorem dX1_readBirthday_28 : decode cX1_readBirthday 28 = .ok (.return_, 1) := by decide +kernel
theorem dX1_readBirthday_29 : decode cX1_readBirthday 29 = .ok (.iload_n 2, 1) := by decide +kernel
theorem dX1_readBirthday_30 : decode cX1_readBirthday 30 = .ok (.iload_n 3, 1) := by decide +kernel
theorem dX1_readBirthday_31 : decode cX1_readBirthday 31 = .ok (.invokestatic 126, 3) := by decide +kernel
theorem dX1_readBirthday_34 : decode cX1_readBirthday 34 = .ok (.istore 4, 2) := by decide +kernel
theorem dX1_readBirthday_36 : decode cX1_readBirthday 36 = .ok (.aload_n 0, 1) := by decide +kernel
theorem dX1_readBirthday_37 : decode cX1_readBirthday 37 = .ok (.getfield 12, 3) := by decide +kernel
theorem dX1_readBirthday_40 : decode cX1_readBirthday 40 = .ok (.iload_n 1, 1) := by decide +kernel
theorem dX1_readBirthday_41 : decode cX1_readBirthday 41 = .ok (.aload_n 0, 1) := by decide +kernel
theorem dX1_readBirthday_42 : decode cX1_readBirthday 42 = .ok (.getfield 12, 3) := by decide +kernel
theorem dX1_readBirthday_45 : decode cX1_readBirthday 45 = .ok (.getfield 129, 3) := by decide +kernel
theorem dX1_readBirthday_48 : decode cX1_readBirthday 48 = .ok (.iload_n 1, 1) := by decide +kernel
theorem dX1_readBirthday_49 : decode cX1_readBirthday 49 = .ok (.invokestatic 133, 3) := by decide +kernel
theorem dX1_readBirthday_52 : decode cX1_readBirthday 52 = .ok (.iload 4, 2) := by decide +kernel
theorem dX1_readBirthday_54 : decode cX1_readBirthday 54 = .ok (.invokevirtual 137, 3) := by decide +kernel
theorem dX1_readBirthday_57 : decode cX1_readBirthday 57 = .ok (.ifCond .eq 12, 3) := by decide +kernel
theorem dX1_readBirthday_60 : decode cX1_readBirthday 60 = .ok (.aload_n 0, 1) := by decide +kernel
theorem dX1_readBirthday_61 : decode cX1_readBirthday 61 = .ok (.bipush 6, 2) := by decide +kernel
theorem dX1_readBirthday_63 : decode cX1_readBirthday 63 = .ok (.invokevirtual 88, 3) := by decide +kernel
theorem dX1_readBirthday_66 : decode cX1_readBirthday 66 = .ok (.goto 16, 3) := by decide +kernel
theorem dX1_readBirthday_69 : decode cX1_readBirthday 69 = .ok (.aload_n 0, 1) := by decide +kernel
theorem dX1_readBirthday_70 : decode cX1_readBirthday 70 = .ok (.getfield 12, 3) := by decide +kernel
theorem dX1_readBirthday_73 : decode cX1_readBirthday 73 = .ok (.getfield 141, 3) := by decide +kernel
theorem dX1_readBirthday_76 : decode cX1_readBirthday 76 = .ok (.iload_n 1, 1) := by decide +kernel
theorem dX1_readBirthday_77 : decode cX1_readBirthday 77 = .ok (.iload 4, 2) := by decide +kernel
theorem dX1_readBirthday_79 : decode cX1_readBirthday 79 = .ok (.invokestatic 144, 3) := by decide +kernel
theorem dX1_readBirthday_82 : decode cX1_readBirthday 82 = .ok (.return_, 1) := by decide +kernel
theorem dX1_readDraw_0 : decode cX1_readDraw 0 = .ok (.aload_n 0, 1) := by decide +kernel
theorem dX1_readDraw_1 : decode cX1_readDraw 1 = .ok (.invokevirtual 123, 3) := by decide +kernel
theorem dX1_readDraw_4 : decode cX1_readDraw 4 = .ok (.istore_n 1, 1) := by decide +kernel
theorem dX1_readDraw_5 : decode cX1_readDraw 5 = .ok (.aload_n 0, 1) := by decide +kernel
theorem dX1_readDraw_6 : decode cX1_readDraw 6 = .ok (.getfield 29, 3) := by decide +kernel
theorem dX1_readDraw_9 : decode cX1_readDraw 9 = .ok (.ifCond .eq 4, 3) := by decide +kernel
theorem dX1_readDraw_12 : decode cX1_readDraw 12 = .ok (.return_, 1) := by decide +kernel
theorem dX1_readDraw_13 : decode cX1_readDraw 13 = .ok (.aload_n 0, 1) := by decide +kernel
theorem dX1_readDraw_14 : decode cX1_readDraw 14 = .ok (.getfield 12, 3) := by decide +kernel
theorem dX1_readDraw_17 : decode cX1_readDraw 17 = .ok (.iload_n 1, 1) := by decide +kernel
theorem dX1_readDraw_18 : decode cX1_readDraw 18 = .ok (.invokevirtual 148, 3) := by decide +kernel
theorem dX1_readDraw_21 : decode cX1_readDraw 21 = .ok (.istore_n 2, 1) := by decide +kernel
theorem dX1_readDraw_22 : decode cX1_readDraw 22 = .ok (.iload_n 2, 1) := by decide +kernel
theorem dX1_readDraw_23 : decode cX1_readDraw 23 = .ok (.iconst (-1), 1) := by decide +kernel
theorem dX1_readDraw_24 : decode cX1_readDraw 24 = .ok (.if_icmp .ne 12, 3) := by decide +kernel
theorem dX1_readDraw_27 : decode cX1_readDraw 27 = .ok (.aload_n 0, 1) := by decide +kernel
theorem dX1_readDraw_28 : decode cX1_readDraw 28 = .ok (.bipush 6, 2) := by decide +kernel
theorem dX1_readDraw_30 : decode cX1_readDraw 30 = .ok (.invokevirtual 88, 3) := by decide +kernel
theorem dX1_readDraw_33 : decode cX1_readDraw 33 = .ok (.goto 12, 3) := by decide +kernel
theorem dX1_readDraw_36 : decode cX1_readDraw 36 = .ok (.aload_n 0, 1) := by decide +kernel
theorem dX1_readDraw_37 : decode cX1_readDraw 37 = .ok (.getfield 12, 3) := by decide +kernel
theorem dX1_readDraw_40 : decode cX1_readDraw 40 = .ok (.iload_n 1, 1) := by decide +kernel
theorem dX1_readDraw_41 : decode cX1_readDraw 41 = .ok (.iload_n 2, 1) := by decide +kernel
theorem dX1_readDraw_42 : decode cX1_readDraw 42 = .ok (.invokevirtual 151, 3) := by decide +kernel
theorem dX1_readDraw_45 : decode cX1_readDraw 45 = .ok (.return_, 1) := by decide +kernel
theorem dX1_readCakes_0 : decode cX1_readCakes 0 = .ok (.aload_n 0, 1) := by decide +kernel
theorem dX1_readCakes_1 : decode cX1_readCakes 1 = .ok (.iconst 0, 1) := by decide +kernel
theorem dX1_readCakes_2 : decode cX1_readCakes 2 = .ok (.iconst 5, 1) := by decide +kernel
theorem dX1_readCakes_3 : decode cX1_readCakes 3 = .ok (.invokevirtual 94, 3) := by decide +kernel
theorem dX1_readCakes_6 : decode cX1_readCakes 6 = .ok (.istore_n 1, 1) := by decide +kernel
theorem dX1_readCakes_7 : decode cX1_readCakes 7 = .ok (.aload_n 0, 1) := by decide +kernel
theorem dX1_readCakes_8 : decode cX1_readCakes 8 = .ok (.iconst 1, 1) := by decide +kernel
theorem dX1_readCakes_9 : decode cX1_readCakes 9 = .ok (.bipush 99, 2) := by decide +kernel
theorem dX1_readCakes_11 : decode cX1_readCakes 11 = .ok (.aload_n 0, 1) := by decide +kernel
theorem dX1_readCakes_12 : decode cX1_readCakes 12 = .ok (.getfield 12, 3) := by decide +kernel
theorem dX1_readCakes_15 : decode cX1_readCakes 15 = .ok (.getfield 154, 3) := by decide +kernel
theorem dX1_readCakes_18 : decode cX1_readCakes 18 = .ok (.iload_n 1, 1) := by decide +kernel
theorem dX1_readCakes_19 : decode cX1_readCakes 19 = .ok (.invokestatic 133, 3) := by decide +kernel
theorem dX1_readCakes_22 : decode cX1_readCakes 22 = .ok (.isub, 1) := by decide +kernel
theorem dX1_readCakes_23 : decode cX1_readCakes 23 = .ok (.invokevirtual 94, 3) := by decide +kernel
theorem dX1_readCakes_26 : decode cX1_readCakes 26 = .ok (.istore_n 2, 1) := by decide +kernel
theorem dX1_readCakes_27 : decode cX1_readCakes 27 = .ok (.aload_n 0, 1) := by decide +kernel
theorem dX1_readCakes_28 : decode cX1_readCakes 28 = .ok (.getfield 29, 3) := by decide +kernel
theorem dX1_readCakes_31 : decode cX1_readCakes 31 = .ok (.ifCond .ne 15, 3) := by decide +kernel
theorem dX1_readCakes_34 : decode cX1_readCakes 34 = .ok (.aload_n 0, 1) := by decide +kernel
theorem dX1_readCakes_35 : decode cX1_readCakes 35 = .ok (.getfield 12, 3) := by decide +kernel
theorem dX1_readCakes_38 : decode cX1_readCakes 38 = .ok (.getfield 154, 3) := by decide +kernel
theorem dX1_readCakes_41 : decode cX1_readCakes 41 = .ok (.iload_n 1, 1) := by decide +kernel
theorem dX1_readCakes_42 : decode cX1_readCakes 42 = .ok (.iload_n 2, 1) := by decide +kernel
theorem dX1_readCakes_43 : decode cX1_readCakes 43 = .ok (.invokestatic 157, 3) := by decide +kernel
theorem dX1_readCakes_46 : decode cX1_readCakes 46 = .ok (.return_, 1) := by decide +kernel
theorem dX1_readDays_0 : decode cX1_readDays 0 = .ok (.aload_n 0, 1) := by decide +kernel
theorem dX1_readDays_1 : decode cX1_readDays 1 = .ok (.iconst 1, 1) := by decide +kernel
theorem dX1_readDays_2 : decode cX1_readDays 2 = .ok (.sipush 720, 3) := by decide +kernel
theorem dX1_readDays_5 : decode cX1_readDays 5 = .ok (.aload_n 0, 1) := by decide +kernel
theorem dX1_readDays_6 : decode cX1_readDays 6 = .ok (.getfield 12, 3) := by decide +kernel
theorem dX1_readDays_9 : decode cX1_readDays 9 = .ok (.invokevirtual 160, 3) := by decide +kernel
theorem dX1_readDays_12 : decode cX1_readDays 12 = .ok (.invokestatic 163, 3) := by decide +kernel
theorem dX1_readDays_15 : decode cX1_readDays 15 = .ok (.invokevirtual 94, 3) := by decide +kernel
theorem dX1_readDays_18 : decode cX1_readDays 18 = .ok (.istore_n 1, 1) := by decide +kernel
theorem dX1_readDays_19 : decode cX1_readDays 19 = .ok (.aload_n 0, 1) := by decide +kernel
theorem dX1_readDays_20 : decode cX1_readDays 20 = .ok (.getfield 29, 3) := by decide +kernel
theorem dX1_readDays_23 : decode cX1_readDays 23 = .ok (.ifCond .ne 12, 3) := by decide +kernel
theorem dX1_readDays_26 : decode cX1_readDays 26 = .ok (.aload_n 0, 1) := by decide +kernel
theorem dX1_readDays_27 : decode cX1_readDays 27 = .ok (.getfield 12, 3) := by decide +kernel
theorem dX1_readDays_30 : decode cX1_readDays 30 = .ok (.iload_n 1, 1) := by decide +kernel
theorem dX1_readDays_31 : decode cX1_readDays 31 = .ok (.invokevirtual 168, 3) := by decide +kernel
theorem dX1_readDays_34 : decode cX1_readDays 34 = .ok (.pop, 1) := by decide +kernel
theorem dX1_readDays_35 : decode cX1_readDays 35 = .ok (.return_, 1) := by decide +kernel
theorem dX1_readKnownChild_0 : decode cX1_readKnownChild 0 = .ok (.aload_n 0, 1) := by decide +kernel
theorem dX1_readKnownChild_1 : decode cX1_readKnownChild 1 = .ok (.getfield 12, 3) := by decide +kernel
theorem dX1_readKnownChild_4 : decode cX1_readKnownChild 4 = .ok (.aload_n 0, 1) := by decide +kernel
theorem dX1_readKnownChild_5 : decode cX1_readKnownChild 5 = .ok (.invokevirtual 111, 3) := by decide +kernel
theorem dX1_readKnownChild_8 : decode cX1_readKnownChild 8 = .ok (.invokevirtual 115, 3) := by decide +kernel
theorem dX1_readKnownChild_11 : decode cX1_readKnownChild 11 = .ok (.istore_n 1, 1) := by decide +kernel
theorem dX1_readKnownChild_12 : decode cX1_readKnownChild 12 = .ok (.iload_n 1, 1) := by decide +kernel
theorem dX1_readKnownChild_13 : decode cX1_readKnownChild 13 = .ok (.iconst (-1), 1) := by decide +kernel
theorem dX1_readKnownChild_14 : decode cX1_readKnownChild 14 = .ok (.if_icmp .ne 8, 3) := by decide +kernel
theorem dX1_readKnownChild_17 : decode cX1_readKnownChild 17 = .ok (.aload_n 0, 1) := by decide +kernel
theorem dX1_readKnownChild_18 : decode cX1_readKnownChild 18 = .ok (.iconst 3, 1) := by decide +kernel
theorem dX1_readKnownChild_19 : decode cX1_readKnownChild 19 = .ok (.invokevirtual 88, 3) := by decide +kernel
theorem dX1_readKnownChild_22 : decode cX1_readKnownChild 22 = .ok (.iload_n 1, 1) := by decide +kernel
theorem dX1_readKnownChild_23 : decode cX1_readKnownChild 23 = .ok (.ireturn, 1) := by decide +kernel
theorem dX1_readName_0 : decode cX1_readName 0 = .ok (.aload_n 0, 1) := by decide +kernel
theorem dX1_readName_1 : decode cX1_readName 1 = .ok (.invokevirtual 51, 3) := by decide +kernel
theorem dX1_readName_4 : decode cX1_readName 4 = .ok (.aload_n 0, 1) := by decide +kernel
theorem dX1_readName_5 : decode cX1_readName 5 = .ok (.getfield 35, 3) := by decide +kernel
theorem dX1_readName_8 : decode cX1_readName 8 = .ok (.iconst 1, 1) := by decide +kernel
theorem dX1_readName_9 : decode cX1_readName 9 = .ok (.if_icmp .ne 17, 3) := by decide +kernel
theorem dX1_readName_12 : decode cX1_readName 12 = .ok (.aload_n 0, 1) := by decide +kernel
theorem dX1_readName_13 : decode cX1_readName 13 = .ok (.getfield 41, 3) := by decide +kernel
theorem dX1_readName_16 : decode cX1_readName 16 = .ok (.aload_n 0, 1) := by decide +kernel
theorem dX1_readName_17 : decode cX1_readName 17 = .ok (.getfield 38, 3) := by decide +kernel
theorem dX1_readName_20 : decode cX1_readName 20 = .ok (.isub, 1) := by decide +kernel
theorem dX1_readName_21 : decode cX1_readName 21 = .ok (.bipush 6, 2) := by decide +kernel
theorem dX1_readName_23 : decode cX1_readName 23 = .ok (.if_icmp .le 8, 3) := by decide +kernel
theorem dX1_readName_26 : decode cX1_readName 26 = .ok (.aload_n 0, 1) := by decide +kernel
theorem dX1_readName_27 : decode cX1_readName 27 = .ok (.iconst 1, 1) := by decide +kernel
theorem dX1_readName_28 : decode cX1_readName 28 = .ok (.invokevirtual 88, 3) := by decide +kernel
theorem dX1_readName_31 : decode cX1_readName 31 = .ok (.iconst 0, 1) := by decide +kernel
theorem dX1_readName_32 : decode cX1_readName 32 = .ok (.istore_n 1, 1) := by decide +kernel
theorem dX1_readName_33 : decode cX1_readName 33 = .ok (.aload_n 0, 1) := by decide +kernel
theorem dX1_readName_34 : decode cX1_readName 34 = .ok (.getfield 38, 3) := by decide +kernel
theorem dX1_readName_37 : decode cX1_readName 37 = .ok (.istore_n 2, 1) := by decide +kernel
theorem dX1_readName_38 : decode cX1_readName 38 = .ok (.iload_n 2, 1) := by decide +kernel
theorem dX1_readName_39 : decode cX1_readName 39 = .ok (.aload_n 0, 1) := by decide +kernel
theorem dX1_readName_40 : decode cX1_readName 40 = .ok (.getfield 41, 3) := by decide +kernel
theorem dX1_readName_43 : decode cX1_readName 43 = .ok (.if_icmp .ge 25, 3) := by decide +kernel
theorem dX1_readName_46 : decode cX1_readName 46 = .ok (.iload_n 1, 1) := by decide +kernel
theorem dX1_readName_47 : decode cX1_readName 47 = .ok (.bipush 27, 2) := by decide +kernel
theorem dX1_readName_49 : decode cX1_readName 49 = .ok (.imul, 1) := by decide +kernel
theorem dX1_readName_50 : decode cX1_readName 50 = .ok (.aload_n 0, 1) := by decide +kernel
theorem dX1_readName_51 : decode cX1_readName 51 = .ok (.iload_n 2, 1) := by decide +kernel
theorem dX1_readName_52 : decode cX1_readName 52 = .ok (.invokevirtual 171, 3) := by decide +kernel
theorem dX1_readName_55 : decode cX1_readName 55 = .ok (.iadd, 1) := by decide +kernel
theorem dX1_readName_56 : decode cX1_readName 56 = .ok (.bipush 97, 2) := by decide +kernel
theorem dX1_readName_58 : decode cX1_readName 58 = .ok (.isub, 1) := by decide +kernel
theorem dX1_readName_59 : decode cX1_readName 59 = .ok (.iconst 1, 1) := by decide +kernel
theorem dX1_readName_60 : decode cX1_readName 60 = .ok (.iadd, 1) := by decide +kernel
theorem dX1_readName_61 : decode cX1_readName 61 = .ok (.istore_n 1, 1) := by decide +kernel
theorem dX1_readName_62 : decode cX1_readName 62 = .ok (.iinc 2 1, 3) := by decide +kernel
theorem dX1_readName_65 : decode cX1_readName 65 = .ok (.goto (-27), 3) := by decide +kernel
theorem dX1_readName_68 : decode cX1_readName 68 = .ok (.iload_n 1, 1) := by decide +kernel
theorem dX1_readName_69 : decode cX1_readName 69 = .ok (.ireturn, 1) := by decide +kernel
theorem dX1_readNumber_0 : decode cX1_readNumber 0 = .ok (.aload_n 0, 1) := by decide +kernel
theorem dX1_readNumber_1 : decode cX1_readNumber 1 = .ok (.invokevirtual 51, 3) := by decide +kernel
theorem dX1_readNumber_4 : decode cX1_readNumber 4 = .ok (.aload_n 0, 1) := by decide +kernel
theorem dX1_readNumber_5 : decode cX1_readNumber 5 = .ok (.getfield 35, 3) := by decide +kernel
theorem dX1_readNumber_8 : decode cX1_readNumber 8 = .ok (.iconst 2, 1) := by decide +kernel
theorem dX1_readNumber_9 : decode cX1_readNumber 9 = .ok (.if_icmp .ne 16, 3) := by decide +kernel
theorem dX1_readNumber_12 : decode cX1_readNumber 12 = .ok (.aload_n 0, 1) := by decide +kernel
theorem dX1_readNumber_13 : decode cX1_readNumber 13 = .ok (.getfield 41, 3) := by decide +kernel
theorem dX1_readNumber_16 : decode cX1_readNumber 16 = .ok (.aload_n 0, 1) := by decide +kernel
theorem dX1_readNumber_17 : decode cX1_readNumber 17 = .ok (.getfield 38, 3) := by decide +kernel
theorem dX1_readNumber_20 : decode cX1_readNumber 20 = .ok (.isub, 1) := by decide +kernel
theorem dX1_readNumber_21 : decode cX1_readNumber 21 = .ok (.iconst 4, 1) := by decide +kernel
theorem dX1_readNumber_22 : decode cX1_readNumber 22 = .ok (.if_icmp .le 10, 3) := by decide +kernel
theorem dX1_readNumber_25 : decode cX1_readNumber 25 = .ok (.aload_n 0, 1) := by decide +kernel
theorem dX1_readNumber_26 : decode cX1_readNumber 26 = .ok (.iconst 1, 1) := by decide +kernel
theorem dX1_readNumber_27 : decode cX1_readNumber 27 = .ok (.invokevirtual 88, 3) := by decide +kernel
theorem dX1_readNumber_30 : decode cX1_readNumber 30 = .ok (.iconst 0, 1) := by decide +kernel
theorem dX1_readNumber_31 : decode cX1_readNumber 31 = .ok (.ireturn, 1) := by decide +kernel
theorem dX1_readNumber_32 : decode cX1_readNumber 32 = .ok (.iconst 0, 1) := by decide +kernel
theorem dX1_readNumber_33 : decode cX1_readNumber 33 = .ok (.istore_n 3, 1) := by decide +kernel
theorem dX1_readNumber_34 : decode cX1_readNumber 34 = .ok (.aload_n 0, 1) := by decide +kernel
theorem dX1_readNumber_35 : decode cX1_readNumber 35 = .ok (.getfield 38, 3) := by decide +kernel
theorem dX1_readNumber_38 : decode cX1_readNumber 38 = .ok (.istore 4, 2) := by decide +kernel
theorem dX1_readNumber_40 : decode cX1_readNumber 40 = .ok (.iload 4, 2) := by decide +kernel
theorem dX1_readNumber_42 : decode cX1_readNumber 42 = .ok (.aload_n 0, 1) := by decide +kernel
theorem dX1_readNumber_43 : decode cX1_readNumber 43 = .ok (.getfield 41, 3) := by decide +kernel
theorem dX1_readNumber_46 : decode cX1_readNumber 46 = .ok (.if_icmp .ge 24, 3) := by decide +kernel
theorem dX1_readNumber_49 : decode cX1_readNumber 49 = .ok (.iload_n 3, 1) := by decide +kernel
theorem dX1_readNumber_50 : decode cX1_readNumber 50 = .ok (.bipush 10, 2) := by decide +kernel
theorem dX1_readNumber_52 : decode cX1_readNumber 52 = .ok (.imul, 1) := by decide +kernel
theorem dX1_readNumber_53 : decode cX1_readNumber 53 = .ok (.aload_n 0, 1) := by decide +kernel
theorem dX1_readNumber_54 : decode cX1_readNumber 54 = .ok (.iload 4, 2) := by decide +kernel
theorem dX1_readNumber_56 : decode cX1_readNumber 56 = .ok (.invokevirtual 171, 3) := by decide +kernel
theorem dX1_readNumber_59 : decode cX1_readNumber 59 = .ok (.iadd, 1) := by decide +kernel
theorem dX1_readNumber_60 : decode cX1_readNumber 60 = .ok (.bipush 48, 2) := by decide +kernel
theorem dX1_readNumber_62 : decode cX1_readNumber 62 = .ok (.isub, 1) := by decide +kernel
theorem dX1_readNumber_63 : decode cX1_readNumber 63 = .ok (.istore_n 3, 1) := by decide +kernel
theorem dX1_readNumber_64 : decode cX1_readNumber 64 = .ok (.iinc 4 1, 3) := by decide +kernel
theorem dX1_readNumber_67 : decode cX1_readNumber 67 = .ok (.goto (-27), 3) := by decide +kernel
theorem dX1_readNumber_70 : decode cX1_readNumber 70 = .ok (.iload_n 3, 1) := by decide +kernel
theorem dX1_readNumber_71 : decode cX1_readNumber 71 = .ok (.iload_n 1, 1) := by decide +kernel
theorem dX1_readNumber_72 : decode cX1_readNumber 72 = .ok (.if_icmp .lt 8, 3) := by decide +kernel
theorem dX1_readNumber_75 : decode cX1_readNumber 75 = .ok (.iload_n 3, 1) := by decide +kernel
theorem dX1_readNumber_76 : decode cX1_readNumber 76 = .ok (.iload_n 2, 1) := by decide +kernel
theorem dX1_readNumber_77 : decode cX1_readNumber 77 = .ok (.if_icmp .le 10, 3) := by decide +kernel
theorem dX1_readNumber_80 : decode cX1_readNumber 80 = .ok (.aload_n 0, 1) := by decide +kernel
theorem dX1_readNumber_81 : decode cX1_readNumber 81 = .ok (.iconst 2, 1) := by decide +kernel
theorem dX1_readNumber_82 : decode cX1_readNumber 82 = .ok (.invokevirtual 88, 3) := by decide +kernel
theorem dX1_readNumber_85 : decode cX1_readNumber 85 = .ok (.iconst 0, 1) := by decide +kernel
theorem dX1_readNumber_86 : decode cX1_readNumber 86 = .ok (.ireturn, 1) := by decide +kernel
theorem dX1_readNumber_87 : decode cX1_readNumber 87 = .ok (.iload_n 3, 1) := by decide +kernel
theorem dX1_readNumber_88 : decode cX1_readNumber 88 = .ok (.ireturn, 1) := by decide +kernel
theorem dX1_fail_0 : decode cX1_fail 0 = .ok (.aload_n 0, 1) := by decide +kernel
theorem dX1_fail_1 : decode cX1_fail 1 = .ok (.getfield 29, 3) := by decide +kernel
theorem dX1_fail_4 : decode cX1_fail 4 = .ok (.ifCond .ne 16, 3) := by decide +kernel
theorem dX1_fail_7 : decode cX1_fail 7 = .ok (.aload_n 0, 1) := by decide +kernel
theorem dX1_fail_8 : decode cX1_fail 8 = .ok (.iload_n 1, 1) := by decide +kernel
theorem dX1_fail_9 : decode cX1_fail 9 = .ok (.putfield 29, 3) := by decide +kernel
theorem dX1_fail_12 : decode cX1_fail 12 = .ok (.aload_n 0, 1) := by decide +kernel
theorem dX1_fail_13 : decode cX1_fail 13 = .ok (.aload_n 0, 1) := by decide +kernel
theorem dX1_fail_14 : decode cX1_fail 14 = .ok (.getfield 38, 3) := by decide +kernel
theorem dX1_fail_17 : decode cX1_fail 17 = .ok (.putfield 32, 3) := by decide +kernel
theorem dX1_fail_20 : decode cX1_fail 20 = .ok (.return_, 1) := by decide +kernel
theorem dX1_readToken_0 : decode cX1_readToken 0 = .ok (.aload_n 0, 1) := by decide +kernel
theorem dX1_readToken_1 : decode cX1_readToken 1 = .ok (.getfield 29, 3) := by decide +kernel
theorem dX1_readToken_4 : decode cX1_readToken 4 = .ok (.ifCond .eq 4, 3) := by decide +kernel
theorem dX1_readToken_7 : decode cX1_readToken 7 = .ok (.return_, 1) := by decide +kernel
theorem dX1_readToken_8 : decode cX1_readToken 8 = .ok (.aload_n 0, 1) := by decide +kernel
theorem dX1_readToken_9 : decode cX1_readToken 9 = .ok (.getfield 41, 3) := by decide +kernel
theorem dX1_readToken_12 : decode cX1_readToken 12 = .ok (.istore_n 1, 1) := by decide +kernel
theorem dX1_readToken_13 : decode cX1_readToken 13 = .ok (.iload_n 1, 1) := by decide +kernel
theorem dX1_readToken_14 : decode cX1_readToken 14 = .ok (.aload_n 0, 1) := by decide +kernel
theorem dX1_readToken_15 : decode cX1_readToken 15 = .ok (.getfield 26, 3) := by decide +kernel
theorem dX1_readToken_18 : decode cX1_readToken 18 = .ok (.if_icmp .ge 17, 3) := by decide +kernel
theorem dX1_readToken_21 : decode cX1_readToken 21 = .ok (.aload_n 0, 1) := by decide +kernel
theorem dX1_readToken_22 : decode cX1_readToken 22 = .ok (.iload_n 1, 1) := by decide +kernel
theorem dX1_readToken_23 : decode cX1_readToken 23 = .ok (.invokevirtual 174, 3) := by decide +kernel
theorem dX1_readToken_26 : decode cX1_readToken 26 = .ok (.ifCond .ne 9, 3) := by decide +kernel
theorem dX1_readToken_29 : decode cX1_readToken 29 = .ok (.iinc 1 1, 3) := by decide +kernel
theorem dX1_readToken_32 : decode cX1_readToken 32 = .ok (.goto (-19), 3) := by decide +kernel
theorem dX1_readToken_35 : decode cX1_readToken 35 = .ok (.aload_n 0, 1) := by decide +kernel
theorem dX1_readToken_36 : decode cX1_readToken 36 = .ok (.iload_n 1, 1) := by decide +kernel
theorem dX1_readToken_37 : decode cX1_readToken 37 = .ok (.invokevirtual 174, 3) := by decide +kernel
theorem dX1_readToken_40 : decode cX1_readToken 40 = .ok (.istore_n 2, 1) := by decide +kernel
theorem dX1_readToken_41 : decode cX1_readToken 41 = .ok (.iload_n 1, 1) := by decide +kernel
theorem dX1_readToken_42 : decode cX1_readToken 42 = .ok (.istore_n 3, 1) := by decide +kernel
theorem dX1_readToken_43 : decode cX1_readToken 43 = .ok (.iload_n 2, 1) := by decide +kernel
theorem dX1_readToken_44 : decode cX1_readToken 44 = .ok (.invokestatic 177, 3) := by decide +kernel
theorem dX1_readToken_47 : decode cX1_readToken 47 = .ok (.ifCond .eq 26, 3) := by decide +kernel
theorem dX1_readToken_50 : decode cX1_readToken 50 = .ok (.iload_n 3, 1) := by decide +kernel
theorem dX1_readToken_51 : decode cX1_readToken 51 = .ok (.aload_n 0, 1) := by decide +kernel
theorem dX1_readToken_52 : decode cX1_readToken 52 = .ok (.getfield 26, 3) := by decide +kernel
theorem dX1_readToken_55 : decode cX1_readToken 55 = .ok (.if_icmp .ge 27, 3) := by decide +kernel
theorem dX1_readToken_58 : decode cX1_readToken 58 = .ok (.aload_n 0, 1) := by decide +kernel
theorem dX1_readToken_59 : decode cX1_readToken 59 = .ok (.iload_n 3, 1) := by decide +kernel
theorem dX1_readToken_60 : decode cX1_readToken 60 = .ok (.invokevirtual 174, 3) := by decide +kernel
theorem dX1_readToken_63 : decode cX1_readToken 63 = .ok (.iload_n 2, 1) := by decide +kernel
theorem dX1_readToken_64 : decode cX1_readToken 64 = .ok (.if_icmp .ne 18, 3) := by decide +kernel
theorem dX1_readToken_67 : decode cX1_readToken 67 = .ok (.iinc 3 1, 3) := by decide +kernel
theorem dX1_readToken_70 : decode cX1_readToken 70 = .ok (.goto (-20), 3) := by decide +kernel
theorem dX1_readToken_73 : decode cX1_readToken 73 = .ok (.iload_n 2, 1) := by decide +kernel
theorem dX1_readToken_74 : decode cX1_readToken 74 = .ok (.iconst 3, 1) := by decide +kernel
theorem dX1_readToken_75 : decode cX1_readToken 75 = .ok (.if_icmp .ne 7, 3) := by decide +kernel
theorem dX1_readToken_78 : decode cX1_readToken 78 = .ok (.iload_n 1, 1) := by decide +kernel
theorem dX1_readToken_79 : decode cX1_readToken 79 = .ok (.iconst 1, 1) := by decide +kernel
theorem dX1_readToken_80 : decode cX1_readToken 80 = .ok (.iadd, 1) := by decide +kernel
theorem dX1_readToken_81 : decode cX1_readToken 81 = .ok (.istore_n 3, 1) := by decide +kernel
theorem dX1_readToken_82 : decode cX1_readToken 82 = .ok (.iload_n 1, 1) := by decide +kernel
theorem dX1_readToken_83 : decode cX1_readToken 83 = .ok (.aload_n 0, 1) := by decide +kernel
theorem dX1_readToken_84 : decode cX1_readToken 84 = .ok (.getfield 41, 3) := by decide +kernel
theorem dX1_readToken_87 : decode cX1_readToken 87 = .ok (.if_icmp .ne 24, 3) := by decide +kernel
theorem dX1_readToken_90 : decode cX1_readToken 90 = .ok (.aload_n 0, 1) := by decide +kernel
theorem dX1_readToken_91 : decode cX1_readToken 91 = .ok (.getfield 35, 3) := by decide +kernel
theorem dX1_readToken_94 : decode cX1_readToken 94 = .ok (.invokestatic 177, 3) := by decide +kernel
theorem dX1_readToken_97 : decode cX1_readToken 97 = .ok (.ifCond .eq 14, 3) := by decide +kernel
theorem dX1_readToken_100 : decode cX1_readToken 100 = .ok (.iload_n 2, 1) := by decide +kernel
theorem dX1_readToken_101 : decode cX1_readToken 101 = .ok (.invokestatic 177, 3) := by decide +kernel
theorem dX1_readToken_104 : decode cX1_readToken 104 = .ok (.ifCond .eq 7, 3) := by decide +kernel
theorem dX1_readToken_107 : decode cX1_readToken 107 = .ok (.iconst 1, 1) := by decide +kernel
theorem dX1_readToken_108 : decode cX1_readToken 108 = .ok (.goto 4, 3) := by decide +kernel
theorem dX1_readToken_111 : decode cX1_readToken 111 = .ok (.iconst 0, 1) := by decide +kernel
theorem dX1_readToken_112 : decode cX1_readToken 112 = .ok (.istore 4, 2) := by decide +kernel
theorem dX1_readToken_114 : decode cX1_readToken 114 = .ok (.aload_n 0, 1) := by decide +kernel
theorem dX1_readToken_115 : decode cX1_readToken 115 = .ok (.iload 4, 2) := by decide +kernel
theorem dX1_readToken_117 : decode cX1_readToken 117 = .ok (.ifCond .eq 7, 3) := by decide +kernel
theorem dX1_readToken_120 : decode cX1_readToken 120 = .ok (.iconst 5, 1) := by decide +kernel
theorem dX1_readToken_121 : decode cX1_readToken 121 = .ok (.goto 4, 3) := by decide +kernel
theorem dX1_readToken_124 : decode cX1_readToken 124 = .ok (.iload_n 2, 1) := by decide +kernel
theorem dX1_readToken_125 : decode cX1_readToken 125 = .ok (.putfield 35, 3) := by decide +kernel
theorem dX1_readToken_128 : decode cX1_readToken 128 = .ok (.aload_n 0, 1) := by decide +kernel
theorem dX1_readToken_129 : decode cX1_readToken 129 = .ok (.iload_n 1, 1) := by decide +kernel
theorem dX1_readToken_130 : decode cX1_readToken 130 = .ok (.putfield 38, 3) := by decide +kernel
theorem dX1_readToken_133 : decode cX1_readToken 133 = .ok (.aload_n 0, 1) := by decide +kernel
theorem dX1_readToken_134 : decode cX1_readToken 134 = .ok (.iload_n 3, 1) := by decide +kernel
theorem dX1_readToken_135 : decode cX1_readToken 135 = .ok (.putfield 41, 3) := by decide +kernel
theorem dX1_readToken_138 : decode cX1_readToken 138 = .ok (.return_, 1) := by decide +kernel
theorem dX1_isRun_0 : decode cX1_isRun 0 = .ok (.iload_n 0, 1) := by decide +kernel
theorem dX1_isRun_1 : decode cX1_isRun 1 = .ok (.iconst 1, 1) := by decide +kernel
theorem dX1_isRun_2 : decode cX1_isRun 2 = .ok (.if_icmp .eq 8, 3) := by decide +kernel
theorem dX1_isRun_5 : decode cX1_isRun 5 = .ok (.iload_n 0, 1) := by decide +kernel
theorem dX1_isRun_6 : decode cX1_isRun 6 = .ok (.iconst 2, 1) := by decide +kernel
theorem dX1_isRun_7 : decode cX1_isRun 7 = .ok (.if_icmp .ne 7, 3) := by decide +kernel
theorem dX1_isRun_10 : decode cX1_isRun 10 = .ok (.iconst 1, 1) := by decide +kernel
theorem dX1_isRun_11 : decode cX1_isRun 11 = .ok (.goto 4, 3) := by decide +kernel
theorem dX1_isRun_14 : decode cX1_isRun 14 = .ok (.iconst 0, 1) := by decide +kernel
theorem dX1_isRun_15 : decode cX1_isRun 15 = .ok (.ireturn, 1) := by decide +kernel
theorem dX1_classAt_0 : decode cX1_classAt 0 = .ok (.iload_n 1, 1) := by decide +kernel
theorem dX1_classAt_1 : decode cX1_classAt 1 = .ok (.ifCond .lt 20, 3) := by decide +kernel
theorem dX1_classAt_4 : decode cX1_classAt 4 = .ok (.iload_n 1, 1) := by decide +kernel
theorem dX1_classAt_5 : decode cX1_classAt 5 = .ok (.aload_n 0, 1) := by decide +kernel
theorem dX1_classAt_6 : decode cX1_classAt 6 = .ok (.getfield 26, 3) := by decide +kernel
theorem dX1_classAt_9 : decode cX1_classAt 9 = .ok (.if_icmp .ge 12, 3) := by decide +kernel
theorem dX1_classAt_12 : decode cX1_classAt 12 = .ok (.iload_n 1, 1) := by decide +kernel
theorem dX1_classAt_13 : decode cX1_classAt 13 = .ok (.aload_n 0, 1) := by decide +kernel
theorem dX1_classAt_14 : decode cX1_classAt 14 = .ok (.getfield 18, 3) := by decide +kernel
theorem dX1_classAt_17 : decode cX1_classAt 17 = .ok (.arraylength, 1) := by decide +kernel
theorem dX1_classAt_18 : decode cX1_classAt 18 = .ok (.if_icmp .lt 5, 3) := by decide +kernel
theorem dX1_classAt_21 : decode cX1_classAt 21 = .ok (.iconst 4, 1) := by decide +kernel
theorem dX1_classAt_22 : decode cX1_classAt 22 = .ok (.ireturn, 1) := by decide +kernel
theorem dX1_classAt_23 : decode cX1_classAt 23 = .ok (.aload_n 0, 1) := by decide +kernel
theorem dX1_classAt_24 : decode cX1_classAt 24 = .ok (.getfield 18, 3) := by decide +kernel
theorem dX1_classAt_27 : decode cX1_classAt 27 = .ok (.iload_n 1, 1) := by decide +kernel
theorem dX1_classAt_28 : decode cX1_classAt 28 = .ok (.baload, 1) := by decide +kernel
theorem dX1_classAt_29 : decode cX1_classAt 29 = .ok (.istore_n 2, 1) := by decide +kernel
theorem dX1_classAt_30 : decode cX1_classAt 30 = .ok (.iload_n 2, 1) := by decide +kernel
theorem dX1_classAt_31 : decode cX1_classAt 31 = .ok (.bipush 97, 2) := by decide +kernel
theorem dX1_classAt_33 : decode cX1_classAt 33 = .ok (.if_icmp .lt 11, 3) := by decide +kernel
theorem dX1_classAt_36 : decode cX1_classAt 36 = .ok (.iload_n 2, 1) := by decide +kernel
theorem dX1_classAt_37 : decode cX1_classAt 37 = .ok (.bipush 122, 2) := by decide +kernel
theorem dX1_classAt_39 : decode cX1_classAt 39 = .ok (.if_icmp .gt 5, 3) := by decide +kernel
theorem dX1_classAt_42 : decode cX1_classAt 42 = .ok (.iconst 1, 1) := by decide +kernel
theorem dX1_classAt_43 : decode cX1_classAt 43 = .ok (.ireturn, 1) := by decide +kernel
theorem dX1_classAt_44 : decode cX1_classAt 44 = .ok (.iload_n 2, 1) := by decide +kernel
theorem dX1_classAt_45 : decode cX1_classAt 45 = .ok (.bipush 48, 2) := by decide +kernel
theorem dX1_classAt_47 : decode cX1_classAt 47 = .ok (.if_icmp .lt 11, 3) := by decide +kernel
theorem dX1_classAt_50 : decode cX1_classAt 50 = .ok (.iload_n 2, 1) := by decide +kernel
theorem dX1_classAt_51 : decode cX1_classAt 51 = .ok (.bipush 57, 2) := by decide +kernel
theorem dX1_classAt_53 : decode cX1_classAt 53 = .ok (.if_icmp .gt 5, 3) := by decide +kernel
theorem dX1_classAt_56 : decode cX1_classAt 56 = .ok (.iconst 2, 1) := by decide +kernel
theorem dX1_classAt_57 : decode cX1_classAt 57 = .ok (.ireturn, 1) := by decide +kernel
theorem dX1_classAt_58 : decode cX1_classAt 58 = .ok (.iload_n 2, 1) := by decide +kernel
theorem dX1_classAt_59 : decode cX1_classAt 59 = .ok (.bipush 59, 2) := by decide +kernel
theorem dX1_classAt_61 : decode cX1_classAt 61 = .ok (.if_icmp .ne 5, 3) := by decide +kernel
theorem dX1_classAt_64 : decode cX1_classAt 64 = .ok (.iconst 3, 1) := by decide +kernel
theorem dX1_classAt_65 : decode cX1_classAt 65 = .ok (.ireturn, 1) := by decide +kernel
theorem dX1_classAt_66 : decode cX1_classAt 66 = .ok (.iload_n 2, 1) := by decide +kernel
theorem dX1_classAt_67 : decode cX1_classAt 67 = .ok (.bipush 32, 2) := by decide +kernel
theorem dX1_classAt_69 : decode cX1_classAt 69 = .ok (.if_icmp .eq 9, 3) := by decide +kernel
theorem dX1_classAt_72 : decode cX1_classAt 72 = .ok (.iload_n 2, 1) := by decide +kernel
theorem dX1_classAt_73 : decode cX1_classAt 73 = .ok (.bipush 10, 2) := by decide +kernel
theorem dX1_classAt_75 : decode cX1_classAt 75 = .ok (.if_icmp .ne 7, 3) := by decide +kernel
theorem dX1_classAt_78 : decode cX1_classAt 78 = .ok (.iconst 0, 1) := by decide +kernel
theorem dX1_classAt_79 : decode cX1_classAt 79 = .ok (.goto 4, 3) := by decide +kernel
theorem dX1_classAt_82 : decode cX1_classAt 82 = .ok (.iconst 5, 1) := by decide +kernel
theorem dX1_classAt_83 : decode cX1_classAt 83 = .ok (.ireturn, 1) := by decide +kernel
theorem dX1_tokenIs_0 : decode cX1_tokenIs 0 = .ok (.aload_n 0, 1) := by decide +kernel
theorem dX1_tokenIs_1 : decode cX1_tokenIs 1 = .ok (.getfield 35, 3) := by decide +kernel
theorem dX1_tokenIs_4 : decode cX1_tokenIs 4 = .ok (.iconst 1, 1) := by decide +kernel
theorem dX1_tokenIs_5 : decode cX1_tokenIs 5 = .ok (.if_icmp .ne 19, 3) := by decide +kernel
theorem dX1_tokenIs_8 : decode cX1_tokenIs 8 = .ok (.aload_n 0, 1) := by decide +kernel
theorem dX1_tokenIs_9 : decode cX1_tokenIs 9 = .ok (.getfield 41, 3) := by decide +kernel
theorem dX1_tokenIs_12 : decode cX1_tokenIs 12 = .ok (.aload_n 0, 1) := by decide +kernel
theorem dX1_tokenIs_13 : decode cX1_tokenIs 13 = .ok (.getfield 38, 3) := by decide +kernel
theorem dX1_tokenIs_16 : decode cX1_tokenIs 16 = .ok (.isub, 1) := by decide +kernel
theorem dX1_tokenIs_17 : decode cX1_tokenIs 17 = .ok (.aload_n 1, 1) := by decide +kernel
theorem dX1_tokenIs_18 : decode cX1_tokenIs 18 = .ok (.invokevirtual 181, 3) := by decide +kernel
theorem dX1_tokenIs_21 : decode cX1_tokenIs 21 = .ok (.if_icmp .eq 5, 3) := by decide +kernel
theorem dX1_tokenIs_24 : decode cX1_tokenIs 24 = .ok (.iconst 0, 1) := by decide +kernel
theorem dX1_tokenIs_25 : decode cX1_tokenIs 25 = .ok (.ireturn, 1) := by decide +kernel
theorem dX1_tokenIs_26 : decode cX1_tokenIs 26 = .ok (.iconst 0, 1) := by decide +kernel
theorem dX1_tokenIs_27 : decode cX1_tokenIs 27 = .ok (.istore_n 2, 1) := by decide +kernel
theorem dX1_tokenIs_28 : decode cX1_tokenIs 28 = .ok (.iload_n 2, 1) := by decide +kernel
theorem dX1_tokenIs_29 : decode cX1_tokenIs 29 = .ok (.aload_n 1, 1) := by decide +kernel
theorem dX1_tokenIs_30 : decode cX1_tokenIs 30 = .ok (.invokevirtual 181, 3) := by decide +kernel
theorem dX1_tokenIs_33 : decode cX1_tokenIs 33 = .ok (.if_icmp .ge 29, 3) := by decide +kernel
theorem dX1_tokenIs_36 : decode cX1_tokenIs 36 = .ok (.aload_n 0, 1) := by decide +kernel
theorem dX1_tokenIs_37 : decode cX1_tokenIs 37 = .ok (.aload_n 0, 1) := by decide +kernel
theorem dX1_tokenIs_38 : decode cX1_tokenIs 38 = .ok (.getfield 38, 3) := by decide +kernel
theorem dX1_tokenIs_41 : decode cX1_tokenIs 41 = .ok (.iload_n 2, 1) := by decide +kernel
theorem dX1_tokenIs_42 : decode cX1_tokenIs 42 = .ok (.iadd, 1) := by decide +kernel
theorem dX1_tokenIs_43 : decode cX1_tokenIs 43 = .ok (.invokevirtual 171, 3) := by decide +kernel
theorem dX1_tokenIs_46 : decode cX1_tokenIs 46 = .ok (.aload_n 1, 1) := by decide +kernel
theorem dX1_tokenIs_47 : decode cX1_tokenIs 47 = .ok (.iload_n 2, 1) := by decide +kernel
theorem dX1_tokenIs_48 : decode cX1_tokenIs 48 = .ok (.invokevirtual 185, 3) := by decide +kernel
theorem dX1_tokenIs_51 : decode cX1_tokenIs 51 = .ok (.if_icmp .eq 5, 3) := by decide +kernel
theorem dX1_tokenIs_54 : decode cX1_tokenIs 54 = .ok (.iconst 0, 1) := by decide +kernel
theorem dX1_tokenIs_55 : decode cX1_tokenIs 55 = .ok (.ireturn, 1) := by decide +kernel
theorem dX1_tokenIs_56 : decode cX1_tokenIs 56 = .ok (.iinc 2 1, 3) := by decide +kernel
theorem dX1_tokenIs_59 : decode cX1_tokenIs 59 = .ok (.goto (-31), 3) := by decide +kernel
theorem dX1_tokenIs_62 : decode cX1_tokenIs 62 = .ok (.iconst 1, 1) := by decide +kernel
theorem dX1_tokenIs_63 : decode cX1_tokenIs 63 = .ok (.ireturn, 1) := by decide +kernel
theorem dX1_byteAt_0 : decode cX1_byteAt 0 = .ok (.iload_n 1, 1) := by decide +kernel
theorem dX1_byteAt_1 : decode cX1_byteAt 1 = .ok (.ifCond .lt 21, 3) := by decide +kernel
theorem dX1_byteAt_4 : decode cX1_byteAt 4 = .ok (.iload_n 1, 1) := by decide +kernel
theorem dX1_byteAt_5 : decode cX1_byteAt 5 = .ok (.aload_n 0, 1) := by decide +kernel
theorem dX1_byteAt_6 : decode cX1_byteAt 6 = .ok (.getfield 18, 3) := by decide +kernel
theorem dX1_byteAt_9 : decode cX1_byteAt 9 = .ok (.arraylength, 1) := by decide +kernel
theorem dX1_byteAt_10 : decode cX1_byteAt 10 = .ok (.if_icmp .ge 12, 3) := by decide +kernel
theorem dX1_byteAt_13 : decode cX1_byteAt 13 = .ok (.aload_n 0, 1) := by decide +kernel
theorem dX1_byteAt_14 : decode cX1_byteAt 14 = .ok (.getfield 18, 3) := by decide +kernel
theorem dX1_byteAt_17 : decode cX1_byteAt 17 = .ok (.iload_n 1, 1) := by decide +kernel
theorem dX1_byteAt_18 : decode cX1_byteAt 18 = .ok (.baload, 1) := by decide +kernel
theorem dX1_byteAt_19 : decode cX1_byteAt 19 = .ok (.goto 4, 3) := by decide +kernel
theorem dX1_byteAt_22 : decode cX1_byteAt 22 = .ok (.iconst 0, 1) := by decide +kernel
theorem dX1_byteAt_23 : decode cX1_byteAt 23 = .ok (.ireturn, 1) := by decide +kernel
theorem dX2_init_0 : decode cX2_init 0 = .ok (.aload_n 0, 1) := by decide +kernel
theorem dX2_init_1 : decode cX2_init 1 = .ok (.invokespecial 3, 3) := by decide +kernel
theorem dX2_init_4 : decode cX2_init 4 = .ok (.aload_n 0, 1) := by decide +kernel
theorem dX2_init_5 : decode cX2_init 5 = .ok (.bipush 6, 2) := by decide +kernel
theorem dX2_init_7 : decode cX2_init 7 = .ok (.newarray .int, 2) := by decide +kernel
theorem dX2_init_9 : decode cX2_init 9 = .ok (.putfield 9, 3) := by decide +kernel
theorem dX2_init_12 : decode cX2_init 12 = .ok (.aload_n 0, 1) := by decide +kernel
theorem dX2_init_13 : decode cX2_init 13 = .ok (.iconst 4, 1) := by decide +kernel
theorem dX2_init_14 : decode cX2_init 14 = .ok (.newarray .int, 2) := by decide +kernel
theorem dX2_init_16 : decode cX2_init 16 = .ok (.putfield 15, 3) := by decide +kernel
theorem dX2_init_19 : decode cX2_init 19 = .ok (.aload_n 0, 1) := by decide +kernel
theorem dX2_init_20 : decode cX2_init 20 = .ok (.bipush 10, 2) := by decide +kernel
theorem dX2_init_22 : decode cX2_init 22 = .ok (.newarray .int, 2) := by decide +kernel
theorem dX2_init_24 : decode cX2_init 24 = .ok (.putfield 18, 3) := by decide +kernel
theorem dX2_init_27 : decode cX2_init 27 = .ok (.aload_n 0, 1) := by decide +kernel
theorem dX2_init_28 : decode cX2_init 28 = .ok (.bipush 10, 2) := by decide +kernel
theorem dX2_init_30 : decode cX2_init 30 = .ok (.newarray .int, 2) := by decide +kernel
theorem dX2_init_32 : decode cX2_init 32 = .ok (.putfield 21, 3) := by decide +kernel
theorem dX2_init_35 : decode cX2_init 35 = .ok (.aload_n 0, 1) := by decide +kernel
theorem dX2_init_36 : decode cX2_init 36 = .ok (.bipush 10, 2) := by decide +kernel
theorem dX2_init_38 : decode cX2_init 38 = .ok (.newarray .int, 2) := by decide +kernel
theorem dX2_init_40 : decode cX2_init 40 = .ok (.putfield 24, 3) := by decide +kernel
theorem dX2_init_43 : decode cX2_init 43 = .ok (.aload_n 0, 1) := by decide +kernel
theorem dX2_init_44 : decode cX2_init 44 = .ok (.bipush 10, 2) := by decide +kernel
theorem dX2_init_46 : decode cX2_init 46 = .ok (.newarray .int, 2) := by decide +kernel
theorem dX2_init_48 : decode cX2_init 48 = .ok (.putfield 27, 3) := by decide +kernel
theorem dX2_init_51 : decode cX2_init 51 = .ok (.aload_n 0, 1) := by decide +kernel
theorem dX2_init_52 : decode cX2_init 52 = .ok (.bipush 10, 2) := by decide +kernel
theorem dX2_init_54 : decode cX2_init 54 = .ok (.newarray .int, 2) := by decide +kernel
theorem dX2_init_56 : decode cX2_init 56 = .ok (.putfield 30, 3) := by decide +kernel
theorem dX2_init_59 : decode cX2_init 59 = .ok (.aload_n 0, 1) := by decide +kernel
theorem dX2_init_60 : decode cX2_init 60 = .ok (.bipush 10, 2) := by decide +kernel
theorem dX2_init_62 : decode cX2_init 62 = .ok (.newarray .int, 2) := by decide +kernel
theorem dX2_init_64 : decode cX2_init 64 = .ok (.putfield 33, 3) := by decide +kernel
theorem dX2_init_67 : decode cX2_init 67 = .ok (.aload_n 0, 1) := by decide +kernel
theorem dX2_init_68 : decode cX2_init 68 = .ok (.bipush 10, 2) := by decide +kernel
theorem dX2_init_70 : decode cX2_init 70 = .ok (.newarray .int, 2) := by decide +kernel
theorem dX2_init_72 : decode cX2_init 72 = .ok (.putfield 36, 3) := by decide +kernel
theorem dX2_init_75 : decode cX2_init 75 = .ok (.aload_n 0, 1) := by decide +kernel
theorem dX2_init_76 : decode cX2_init 76 = .ok (.bipush 10, 2) := by decide +kernel
theorem dX2_init_78 : decode cX2_init 78 = .ok (.newarray .int, 2) := by decide +kernel
theorem dX2_init_80 : decode cX2_init 80 = .ok (.putfield 39, 3) := by decide +kernel
theorem dX2_init_83 : decode cX2_init 83 = .ok (.return_, 1) := by decide +kernel
theorem dX2_begin_0 : decode cX2_begin 0 = .ok (.aload_n 0, 1) := by decide +kernel
theorem dX2_begin_1 : decode cX2_begin 1 = .ok (.iconst 0, 1) := by decide +kernel
theorem dX2_begin_2 : decode cX2_begin 2 = .ok (.putfield 42, 3) := by decide +kernel
theorem dX2_begin_5 : decode cX2_begin 5 = .ok (.aload_n 0, 1) := by decide +kernel
theorem dX2_begin_6 : decode cX2_begin 6 = .ok (.iconst 0, 1) := by decide +kernel
theorem dX2_begin_7 : decode cX2_begin 7 = .ok (.putfield 46, 3) := by decide +kernel
theorem dX2_begin_10 : decode cX2_begin 10 = .ok (.aload_n 0, 1) := by decide +kernel
theorem dX2_begin_11 : decode cX2_begin 11 = .ok (.iload_n 1, 1) := by decide +kernel
theorem dX2_begin_12 : decode cX2_begin 12 = .ok (.putfield 49, 3) := by decide +kernel
theorem dX2_begin_15 : decode cX2_begin 15 = .ok (.aload_n 0, 1) := by decide +kernel
theorem dX2_begin_16 : decode cX2_begin 16 = .ok (.iload_n 2, 1) := by decide +kernel
theorem dX2_begin_17 : decode cX2_begin 17 = .ok (.putfield 52, 3) := by decide +kernel
theorem dX2_begin_20 : decode cX2_begin 20 = .ok (.aload_n 0, 1) := by decide +kernel
theorem dX2_begin_21 : decode cX2_begin 21 = .ok (.iload_n 2, 1) := by decide +kernel
theorem dX2_begin_22 : decode cX2_begin 22 = .ok (.putfield 55, 3) := by decide +kernel
theorem dX2_begin_25 : decode cX2_begin 25 = .ok (.aload_n 0, 1) := by decide +kernel
theorem dX2_begin_26 : decode cX2_begin 26 = .ok (.iconst 0, 1) := by decide +kernel
theorem dX2_begin_27 : decode cX2_begin 27 = .ok (.putfield 58, 3) := by decide +kernel
theorem dX2_begin_30 : decode cX2_begin 30 = .ok (.aload_n 0, 1) := by decide +kernel
theorem dX2_begin_31 : decode cX2_begin 31 = .ok (.iconst 0, 1) := by decide +kernel
theorem dX2_begin_32 : decode cX2_begin 32 = .ok (.putfield 61, 3) := by decide +kernel
theorem dX2_begin_35 : decode cX2_begin 35 = .ok (.aload_n 0, 1) := by decide +kernel
theorem dX2_begin_36 : decode cX2_begin 36 = .ok (.iconst 0, 1) := by decide +kernel
theorem dX2_begin_37 : decode cX2_begin 37 = .ok (.putfield 64, 3) := by decide +kernel
theorem dX2_begin_40 : decode cX2_begin 40 = .ok (.aload_n 0, 1) := by decide +kernel
theorem dX2_begin_41 : decode cX2_begin 41 = .ok (.iconst 0, 1) := by decide +kernel
theorem dX2_begin_42 : decode cX2_begin 42 = .ok (.putfield 67, 3) := by decide +kernel
theorem dX2_begin_45 : decode cX2_begin 45 = .ok (.aload_n 0, 1) := by decide +kernel
theorem dX2_begin_46 : decode cX2_begin 46 = .ok (.iconst 0, 1) := by decide +kernel
theorem dX2_begin_47 : decode cX2_begin 47 = .ok (.putfield 70, 3) := by decide +kernel
theorem dX2_begin_50 : decode cX2_begin 50 = .ok (.aload_n 0, 1) := by decide +kernel
theorem dX2_begin_51 : decode cX2_begin 51 = .ok (.getfield 9, 3) := by decide +kernel
theorem dX2_begin_54 : decode cX2_begin 54 = .ok (.iconst 0, 1) := by decide +kernel
theorem dX2_begin_55 : decode cX2_begin 55 = .ok (.invokestatic 73, 3) := by decide +kernel
theorem dX2_begin_58 : decode cX2_begin 58 = .ok (.return_, 1) := by decide +kernel
theorem dX2_copyFrom_0 : decode cX2_copyFrom 0 = .ok (.aload_n 0, 1) := by decide +kernel
theorem dX2_copyFrom_1 : decode cX2_copyFrom 1 = .ok (.aload_n 1, 1) := by decide +kernel
theorem dX2_copyFrom_2 : decode cX2_copyFrom 2 = .ok (.getfield 42, 3) := by decide +kernel
theorem dX2_copyFrom_5 : decode cX2_copyFrom 5 = .ok (.putfield 42, 3) := by decide +kernel
theorem dX2_copyFrom_8 : decode cX2_copyFrom 8 = .ok (.aload_n 0, 1) := by decide +kernel
theorem dX2_copyFrom_9 : decode cX2_copyFrom 9 = .ok (.aload_n 1, 1) := by decide +kernel
theorem dX2_copyFrom_10 : decode cX2_copyFrom 10 = .ok (.getfield 46, 3) := by decide +kernel
theorem dX2_copyFrom_13 : decode cX2_copyFrom 13 = .ok (.putfield 46, 3) := by decide +kernel
theorem dX2_copyFrom_16 : decode cX2_copyFrom 16 = .ok (.aload_n 0, 1) := by decide +kernel
theorem dX2_copyFrom_17 : decode cX2_copyFrom 17 = .ok (.aload_n 1, 1) := by decide +kernel
theorem dX2_copyFrom_18 : decode cX2_copyFrom 18 = .ok (.getfield 49, 3) := by decide +kernel
theorem dX2_copyFrom_21 : decode cX2_copyFrom 21 = .ok (.putfield 49, 3) := by decide +kernel
theorem dX2_copyFrom_24 : decode cX2_copyFrom 24 = .ok (.aload_n 0, 1) := by decide +kernel
theorem dX2_copyFrom_25 : decode cX2_copyFrom 25 = .ok (.aload_n 1, 1) := by decide +kernel
theorem dX2_copyFrom_26 : decode cX2_copyFrom 26 = .ok (.getfield 52, 3) := by decide +kernel
theorem dX2_copyFrom_29 : decode cX2_copyFrom 29 = .ok (.putfield 52, 3) := by decide +kernel
theorem dX2_copyFrom_32 : decode cX2_copyFrom 32 = .ok (.aload_n 0, 1) := by decide +kernel
theorem dX2_copyFrom_33 : decode cX2_copyFrom 33 = .ok (.aload_n 1, 1) := by decide +kernel
theorem dX2_copyFrom_34 : decode cX2_copyFrom 34 = .ok (.getfield 55, 3) := by decide +kernel
theorem dX2_copyFrom_37 : decode cX2_copyFrom 37 = .ok (.putfield 55, 3) := by decide +kernel
theorem dX2_copyFrom_40 : decode cX2_copyFrom 40 = .ok (.aload_n 0, 1) := by decide +kernel
theorem dX2_copyFrom_41 : decode cX2_copyFrom 41 = .ok (.aload_n 1, 1) := by decide +kernel
theorem dX2_copyFrom_42 : decode cX2_copyFrom 42 = .ok (.getfield 58, 3) := by decide +kernel
theorem dX2_copyFrom_45 : decode cX2_copyFrom 45 = .ok (.putfield 58, 3) := by decide +kernel
theorem dX2_copyFrom_48 : decode cX2_copyFrom 48 = .ok (.aload_n 0, 1) := by decide +kernel
theorem dX2_copyFrom_49 : decode cX2_copyFrom 49 = .ok (.aload_n 1, 1) := by decide +kernel
theorem dX2_copyFrom_50 : decode cX2_copyFrom 50 = .ok (.getfield 61, 3) := by decide +kernel
theorem dX2_copyFrom_53 : decode cX2_copyFrom 53 = .ok (.putfield 61, 3) := by decide +kernel
theorem dX2_copyFrom_56 : decode cX2_copyFrom 56 = .ok (.aload_n 0, 1) := by decide +kernel
theorem dX2_copyFrom_57 : decode cX2_copyFrom 57 = .ok (.aload_n 1, 1) := by decide +kernel
theorem dX2_copyFrom_58 : decode cX2_copyFrom 58 = .ok (.getfield 64, 3) := by decide +kernel
theorem dX2_copyFrom_61 : decode cX2_copyFrom 61 = .ok (.putfield 64, 3) := by decide +kernel
theorem dX2_copyFrom_64 : decode cX2_copyFrom 64 = .ok (.aload_n 0, 1) := by decide +kernel
theorem dX2_copyFrom_65 : decode cX2_copyFrom 65 = .ok (.aload_n 1, 1) := by decide +kernel
theorem dX2_copyFrom_66 : decode cX2_copyFrom 66 = .ok (.getfield 67, 3) := by decide +kernel
theorem dX2_copyFrom_69 : decode cX2_copyFrom 69 = .ok (.putfield 67, 3) := by decide +kernel
theorem dX2_copyFrom_72 : decode cX2_copyFrom 72 = .ok (.aload_n 0, 1) := by decide +kernel
theorem dX2_copyFrom_73 : decode cX2_copyFrom 73 = .ok (.aload_n 1, 1) := by decide +kernel
theorem dX2_copyFrom_74 : decode cX2_copyFrom 74 = .ok (.getfield 70, 3) := by decide +kernel
theorem dX2_copyFrom_77 : decode cX2_copyFrom 77 = .ok (.putfield 70, 3) := by decide +kernel
theorem dX2_copyFrom_80 : decode cX2_copyFrom 80 = .ok (.aload_n 1, 1) := by decide +kernel
theorem dX2_copyFrom_81 : decode cX2_copyFrom 81 = .ok (.getfield 9, 3) := by decide +kernel
theorem dX2_copyFrom_84 : decode cX2_copyFrom 84 = .ok (.aload_n 0, 1) := by decide +kernel
theorem dX2_copyFrom_85 : decode cX2_copyFrom 85 = .ok (.getfield 9, 3) := by decide +kernel
theorem dX2_copyFrom_88 : decode cX2_copyFrom 88 = .ok (.invokestatic 79, 3) := by decide +kernel
theorem dX2_copyFrom_91 : decode cX2_copyFrom 91 = .ok (.aload_n 1, 1) := by decide +kernel
theorem dX2_copyFrom_92 : decode cX2_copyFrom 92 = .ok (.getfield 15, 3) := by decide +kernel
theorem dX2_copyFrom_95 : decode cX2_copyFrom 95 = .ok (.aload_n 0, 1) := by decide +kernel
theorem dX2_copyFrom_96 : decode cX2_copyFrom 96 = .ok (.getfield 15, 3) := by decide +kernel
theorem dX2_copyFrom_99 : decode cX2_copyFrom 99 = .ok (.invokestatic 79, 3) := by decide +kernel
theorem dX2_copyFrom_102 : decode cX2_copyFrom 102 = .ok (.aload_n 1, 1) := by decide +kernel
theorem dX2_copyFrom_103 : decode cX2_copyFrom 103 = .ok (.getfield 18, 3) := by decide +kernel
theorem dX2_copyFrom_106 : decode cX2_copyFrom 106 = .ok (.aload_n 0, 1) := by decide +kernel
theorem dX2_copyFrom_107 : decode cX2_copyFrom 107 = .ok (.getfield 18, 3) := by decide +kernel
theorem dX2_copyFrom_110 : decode cX2_copyFrom 110 = .ok (.invokestatic 79, 3) := by decide +kernel
theorem dX2_copyFrom_113 : decode cX2_copyFrom 113 = .ok (.aload_n 1, 1) := by decide +kernel
theorem dX2_copyFrom_114 : decode cX2_copyFrom 114 = .ok (.getfield 21, 3) := by decide +kernel
theorem dX2_copyFrom_117 : decode cX2_copyFrom 117 = .ok (.aload_n 0, 1) := by decide +kernel
theorem dX2_copyFrom_118 : decode cX2_copyFrom 118 = .ok (.getfield 21, 3) := by decide +kernel
theorem dX2_copyFrom_121 : decode cX2_copyFrom 121 = .ok (.invokestatic 79, 3) := by decide +kernel
theorem dX2_copyFrom_124 : decode cX2_copyFrom 124 = .ok (.aload_n 1, 1) := by decide +kernel
theorem dX2_copyFrom_125 : decode cX2_copyFrom 125 = .ok (.getfield 24, 3) := by decide +kernel
theorem dX2_copyFrom_128 : decode cX2_copyFrom 128 = .ok (.aload_n 0, 1) := by decide +kernel
theorem dX2_copyFrom_129 : decode cX2_copyFrom 129 = .ok (.getfield 24, 3) := by decide +kernel
theorem dX2_copyFrom_132 : decode cX2_copyFrom 132 = .ok (.invokestatic 79, 3) := by decide +kernel
theorem dX2_copyFrom_135 : decode cX2_copyFrom 135 = .ok (.aload_n 1, 1) := by decide +kernel
theorem dX2_copyFrom_136 : decode cX2_copyFrom 136 = .ok (.getfield 27, 3) := by decide +kernel
theorem dX2_copyFrom_139 : decode cX2_copyFrom 139 = .ok (.aload_n 0, 1) := by decide +kernel
theorem dX2_copyFrom_140 : decode cX2_copyFrom 140 = .ok (.getfield 27, 3) := by decide +kernel
theorem dX2_copyFrom_143 : decode cX2_copyFrom 143 = .ok (.invokestatic 79, 3) := by decide +kernel
theorem dX2_copyFrom_146 : decode cX2_copyFrom 146 = .ok (.aload_n 1, 1) := by decide +kernel
theorem dX2_copyFrom_147 : decode cX2_copyFrom 147 = .ok (.getfield 30, 3) := by decide +kernel
theorem dX2_copyFrom_150 : decode cX2_copyFrom 150 = .ok (.aload_n 0, 1) := by decide +kernel
theorem dX2_copyFrom_151 : decode cX2_copyFrom 151 = .ok (.getfield 30, 3) := by decide +kernel
theorem dX2_copyFrom_154 : decode cX2_copyFrom 154 = .ok (.invokestatic 79, 3) := by decide +kernel
theorem dX2_copyFrom_157 : decode cX2_copyFrom 157 = .ok (.aload_n 1, 1) := by decide +kernel
theorem dX2_copyFrom_158 : decode cX2_copyFrom 158 = .ok (.getfield 33, 3) := by decide +kernel
theorem dX2_copyFrom_161 : decode cX2_copyFrom 161 = .ok (.aload_n 0, 1) := by decide +kernel
theorem dX2_copyFrom_162 : decode cX2_copyFrom 162 = .ok (.getfield 33, 3) := by decide +kernel
theorem dX2_copyFrom_165 : decode cX2_copyFrom 165 = .ok (.invokestatic 79, 3) := by decide +kernel
theorem dX2_copyFrom_168 : decode cX2_copyFrom 168 = .ok (.aload_n 1, 1) := by decide +kernel
theorem dX2_copyFrom_169 : decode cX2_copyFrom 169 = .ok (.getfield 36, 3) := by decide +kernel
theorem dX2_copyFrom_172 : decode cX2_copyFrom 172 = .ok (.aload_n 0, 1) := by decide +kernel
theorem dX2_copyFrom_173 : decode cX2_copyFrom 173 = .ok (.getfield 36, 3) := by decide +kernel
theorem dX2_copyFrom_176 : decode cX2_copyFrom 176 = .ok (.invokestatic 79, 3) := by decide +kernel
theorem dX2_copyFrom_179 : decode cX2_copyFrom 179 = .ok (.aload_n 1, 1) := by decide +kernel
theorem dX2_copyFrom_180 : decode cX2_copyFrom 180 = .ok (.getfield 39, 3) := by decide +kernel
theorem dX2_copyFrom_183 : decode cX2_copyFrom 183 = .ok (.aload_n 0, 1) := by decide +kernel
theorem dX2_copyFrom_184 : decode cX2_copyFrom 184 = .ok (.getfield 39, 3) := by decide +kernel
theorem dX2_copyFrom_187 : decode cX2_copyFrom 187 = .ok (.invokestatic 79, 3) := by decide +kernel
theorem dX2_copyFrom_190 : decode cX2_copyFrom 190 = .ok (.return_, 1) := by decide +kernel
theorem dX2_addGarden_0 : decode cX2_addGarden 0 = .ok (.aload_n 0, 1) := by decide +kernel
theorem dX2_addGarden_1 : decode cX2_addGarden 1 = .ok (.getfield 67, 3) := by decide +kernel
theorem dX2_addGarden_4 : decode cX2_addGarden 4 = .ok (.iconst 4, 1) := by decide +kernel
theorem dX2_addGarden_5 : decode cX2_addGarden 5 = .ok (.if_icmp .ge 25, 3) := by decide +kernel
theorem dX2_addGarden_8 : decode cX2_addGarden 8 = .ok (.aload_n 0, 1) := by decide +kernel
theorem dX2_addGarden_9 : decode cX2_addGarden 9 = .ok (.getfield 15, 3) := by decide +kernel
theorem dX2_addGarden_12 : decode cX2_addGarden 12 = .ok (.aload_n 0, 1) := by decide +kernel
theorem dX2_addGarden_13 : decode cX2_addGarden 13 = .ok (.getfield 67, 3) := by decide +kernel
theorem dX2_addGarden_16 : decode cX2_addGarden 16 = .ok (.iload_n 1, 1) := by decide +kernel
theorem dX2_addGarden_17 : decode cX2_addGarden 17 = .ok (.invokestatic 83, 3) := by decide +kernel
theorem dX2_addGarden_20 : decode cX2_addGarden 20 = .ok (.aload_n 0, 1) := by decide +kernel
theorem dX2_addGarden_21 : decode cX2_addGarden 21 = .ok (.dup, 1) := by decide +kernel
theorem dX2_addGarden_22 : decode cX2_addGarden 22 = .ok (.getfield 67, 3) := by decide +kernel
theorem dX2_addGarden_25 : decode cX2_addGarden 25 = .ok (.iconst 1, 1) := by decide +kernel
theorem dX2_addGarden_26 : decode cX2_addGarden 26 = .ok (.iadd, 1) := by decide +kernel
theorem dX2_addGarden_27 : decode cX2_addGarden 27 = .ok (.putfield 67, 3) := by decide +kernel
theorem dX2_addGarden_30 : decode cX2_addGarden 30 = .ok (.return_, 1) := by decide +kernel
theorem dX2_addChild_0 : decode cX2_addChild 0 = .ok (.aload_n 0, 1) := by decide +kernel
theorem dX2_addChild_1 : decode cX2_addChild 1 = .ok (.getfield 70, 3) := by decide +kernel
theorem dX2_addChild_4 : decode cX2_addChild 4 = .ok (.bipush 10, 2) := by decide +kernel
theorem dX2_addChild_6 : decode cX2_addChild 6 = .ok (.if_icmp .ge 111, 3) := by decide +kernel
theorem dX2_addChild_9 : decode cX2_addChild 9 = .ok (.aload_n 0, 1) := by decide +kernel
theorem dX2_addChild_10 : decode cX2_addChild 10 = .ok (.getfield 18, 3) := by decide +kernel
theorem dX2_addChild_13 : decode cX2_addChild 13 = .ok (.aload_n 0, 1) := by decide +kernel
theorem dX2_addChild_14 : decode cX2_addChild 14 = .ok (.getfield 70, 3) := by decide +kernel
theorem dX2_addChild_17 : decode cX2_addChild 17 = .ok (.iload_n 1, 1) := by decide +kernel
theorem dX2_addChild_18 : decode cX2_addChild 18 = .ok (.invokestatic 83, 3) := by decide +kernel
theorem dX2_addChild_21 : decode cX2_addChild 21 = .ok (.aload_n 0, 1) := by decide +kernel
theorem dX2_addChild_22 : decode cX2_addChild 22 = .ok (.getfield 21, 3) := by decide +kernel
theorem dX2_addChild_25 : decode cX2_addChild 25 = .ok (.aload_n 0, 1) := by decide +kernel
theorem dX2_addChild_26 : decode cX2_addChild 26 = .ok (.getfield 70, 3) := by decide +kernel
theorem dX2_addChild_29 : decode cX2_addChild 29 = .ok (.iload_n 2, 1) := by decide +kernel
theorem dX2_addChild_30 : decode cX2_addChild 30 = .ok (.invokestatic 83, 3) := by decide +kernel
theorem dX2_addChild_33 : decode cX2_addChild 33 = .ok (.aload_n 0, 1) := by decide +kernel
theorem dX2_addChild_34 : decode cX2_addChild 34 = .ok (.getfield 24, 3) := by decide +kernel
theorem dX2_addChild_37 : decode cX2_addChild 37 = .ok (.aload_n 0, 1) := by decide +kernel
theorem dX2_addChild_38 : decode cX2_addChild 38 = .ok (.getfield 70, 3) := by decide +kernel
theorem dX2_addChild_41 : decode cX2_addChild 41 = .ok (.iload_n 3, 1) := by decide +kernel
theorem dX2_addChild_42 : decode cX2_addChild 42 = .ok (.invokestatic 83, 3) := by decide +kernel
theorem dX2_addChild_45 : decode cX2_addChild 45 = .ok (.aload_n 0, 1) := by decide +kernel
theorem dX2_addChild_46 : decode cX2_addChild 46 = .ok (.getfield 27, 3) := by decide +kernel
theorem dX2_addChild_49 : decode cX2_addChild 49 = .ok (.aload_n 0, 1) := by decide +kernel
theorem dX2_addChild_50 : decode cX2_addChild 50 = .ok (.getfield 70, 3) := by decide +kernel
theorem dX2_addChild_53 : decode cX2_addChild 53 = .ok (.iload 4, 2) := by decide +kernel
theorem dX2_addChild_55 : decode cX2_addChild 55 = .ok (.invokestatic 83, 3) := by decide +kernel
theorem dX2_addChild_58 : decode cX2_addChild 58 = .ok (.aload_n 0, 1) := by decide +kernel
theorem dX2_addChild_59 : decode cX2_addChild 59 = .ok (.getfield 30, 3) := by decide +kernel
theorem dX2_addChild_62 : decode cX2_addChild 62 = .ok (.aload_n 0, 1) := by decide +kernel
theorem dX2_addChild_63 : decode cX2_addChild 63 = .ok (.getfield 70, 3) := by decide +kernel
theorem dX2_addChild_66 : decode cX2_addChild 66 = .ok (.iload 5, 2) := by decide +kernel
theorem dX2_addChild_68 : decode cX2_addChild 68 = .ok (.invokestatic 83, 3) := by decide +kernel
theorem dX2_addChild_71 : decode cX2_addChild 71 = .ok (.aload_n 0, 1) := by decide +kernel
theorem dX2_addChild_72 : decode cX2_addChild 72 = .ok (.getfield 33, 3) := by decide +kernel
theorem dX2_addChild_75 : decode cX2_addChild 75 = .ok (.aload_n 0, 1) := by decide +kernel
theorem dX2_addChild_76 : decode cX2_addChild 76 = .ok (.getfield 70, 3) := by decide +kernel
theorem dX2_addChild_79 : decode cX2_addChild 79 = .ok (.iconst (-1), 1) := by decide +kernel
theorem dX2_addChild_80 : decode cX2_addChild 80 = .ok (.invokestatic 83, 3) := by decide +kernel
theorem dX2_addChild_83 : decode cX2_addChild 83 = .ok (.aload_n 0, 1) := by decide +kernel
theorem dX2_addChild_84 : decode cX2_addChild 84 = .ok (.getfield 36, 3) := by decide +kernel
theorem dX2_addChild_87 : decode cX2_addChild 87 = .ok (.aload_n 0, 1) := by decide +kernel
theorem dX2_addChild_88 : decode cX2_addChild 88 = .ok (.getfield 70, 3) := by decide +kernel
theorem dX2_addChild_91 : decode cX2_addChild 91 = .ok (.iconst 0, 1) := by decide +kernel
theorem dX2_addChild_92 : decode cX2_addChild 92 = .ok (.invokestatic 83, 3) := by decide +kernel
theorem dX2_addChild_95 : decode cX2_addChild 95 = .ok (.aload_n 0, 1) := by decide +kernel
theorem dX2_addChild_96 : decode cX2_addChild 96 = .ok (.getfield 39, 3) := by decide +kernel
theorem dX2_addChild_99 : decode cX2_addChild 99 = .ok (.aload_n 0, 1) := by decide +kernel
theorem dX2_addChild_100 : decode cX2_addChild 100 = .ok (.getfield 70, 3) := by decide +kernel
theorem dX2_addChild_103 : decode cX2_addChild 103 = .ok (.iconst 0, 1) := by decide +kernel
theorem dX2_addChild_104 : decode cX2_addChild 104 = .ok (.invokestatic 83, 3) := by decide +kernel
theorem dX2_addChild_107 : decode cX2_addChild 107 = .ok (.aload_n 0, 1) := by decide +kernel
theorem dX2_addChild_108 : decode cX2_addChild 108 = .ok (.dup, 1) := by decide +kernel
theorem dX2_addChild_109 : decode cX2_addChild 109 = .ok (.getfield 70, 3) := by decide +kernel
theorem dX2_addChild_112 : decode cX2_addChild 112 = .ok (.iconst 1, 1) := by decide +kernel
theorem dX2_addChild_113 : decode cX2_addChild 113 = .ok (.iadd, 1) := by decide +kernel
theorem dX2_addChild_114 : decode cX2_addChild 114 = .ok (.putfield 70, 3) := by decide +kernel
theorem dX2_addChild_117 : decode cX2_addChild 117 = .ok (.return_, 1) := by decide +kernel
theorem dX2_childNamed_0 : decode cX2_childNamed 0 = .ok (.iconst 0, 1) := by decide +kernel
theorem dX2_childNamed_1 : decode cX2_childNamed 1 = .ok (.istore_n 2, 1) := by decide +kernel
theorem dX2_childNamed_2 : decode cX2_childNamed 2 = .ok (.iload_n 2, 1) := by decide +kernel
theorem dX2_childNamed_3 : decode cX2_childNamed 3 = .ok (.aload_n 0, 1) := by decide +kernel
theorem dX2_childNamed_4 : decode cX2_childNamed 4 = .ok (.getfield 70, 3) := by decide +kernel
theorem dX2_childNamed_7 : decode cX2_childNamed 7 = .ok (.if_icmp .ge 23, 3) := by decide +kernel
theorem dX2_childNamed_10 : decode cX2_childNamed 10 = .ok (.aload_n 0, 1) := by decide +kernel
theorem dX2_childNamed_11 : decode cX2_childNamed 11 = .ok (.getfield 18, 3) := by decide +kernel
theorem dX2_childNamed_14 : decode cX2_childNamed 14 = .ok (.iload_n 2, 1) := by decide +kernel
theorem dX2_childNamed_15 : decode cX2_childNamed 15 = .ok (.invokestatic 87, 3) := by decide +kernel
theorem dX2_childNamed_18 : decode cX2_childNamed 18 = .ok (.iload_n 1, 1) := by decide +kernel
theorem dX2_childNamed_19 : decode cX2_childNamed 19 = .ok (.if_icmp .ne 5, 3) := by decide +kernel
theorem dX2_childNamed_22 : decode cX2_childNamed 22 = .ok (.iload_n 2, 1) := by decide +kernel
theorem dX2_childNamed_23 : decode cX2_childNamed 23 = .ok (.ireturn, 1) := by decide +kernel
theorem dX2_childNamed_24 : decode cX2_childNamed 24 = .ok (.iinc 2 1, 3) := by decide +kernel
theorem dX2_childNamed_27 : decode cX2_childNamed 27 = .ok (.goto (-25), 3) := by decide +kernel
theorem dX2_childNamed_30 : decode cX2_childNamed 30 = .ok (.iconst (-1), 1) := by decide +kernel
theorem dX2_childNamed_31 : decode cX2_childNamed 31 = .ok (.ireturn, 1) := by decide +kernel
theorem dX2_countFans_0 : decode cX2_countFans 0 = .ok (.iload_n 1, 1) := by decide +kernel
theorem dX2_countFans_1 : decode cX2_countFans 1 = .ok (.aload_n 0, 1) := by decide +kernel
theorem dX2_countFans_2 : decode cX2_countFans 2 = .ok (.getfield 21, 3) := by decide +kernel
theorem dX2_countFans_5 : decode cX2_countFans 5 = .ok (.aload_n 0, 1) := by decide +kernel
theorem dX2_countFans_6 : decode cX2_countFans 6 = .ok (.getfield 70, 3) := by decide +kernel
theorem dX2_countFans_9 : decode cX2_countFans 9 = .ok (.invokestatic 91, 3) := by decide +kernel
theorem dX2_countFans_12 : decode cX2_countFans 12 = .ok (.ireturn, 1) := by decide +kernel
theorem dX2_daysUntil_0 : decode cX2_daysUntil 0 = .ok (.iload_n 1, 1) := by decide +kernel
theorem dX2_daysUntil_1 : decode cX2_daysUntil 1 = .ok (.aload_n 0, 1) := by decide +kernel
theorem dX2_daysUntil_2 : decode cX2_daysUntil 2 = .ok (.getfield 46, 3) := by decide +kernel
theorem dX2_daysUntil_5 : decode cX2_daysUntil 5 = .ok (.if_icmp .le 12, 3) := by decide +kernel
theorem dX2_daysUntil_8 : decode cX2_daysUntil 8 = .ok (.iload_n 1, 1) := by decide +kernel
theorem dX2_daysUntil_9 : decode cX2_daysUntil 9 = .ok (.aload_n 0, 1) := by decide +kernel
theorem dX2_daysUntil_10 : decode cX2_daysUntil 10 = .ok (.getfield 46, 3) := by decide +kernel
theorem dX2_daysUntil_13 : decode cX2_daysUntil 13 = .ok (.isub, 1) := by decide +kernel
theorem dX2_daysUntil_14 : decode cX2_daysUntil 14 = .ok (.goto 13, 3) := by decide +kernel
theorem dX2_daysUntil_17 : decode cX2_daysUntil 17 = .ok (.iload_n 1, 1) := by decide +kernel
theorem dX2_daysUntil_18 : decode cX2_daysUntil 18 = .ok (.aload_n 0, 1) := by decide +kernel
theorem dX2_daysUntil_19 : decode cX2_daysUntil 19 = .ok (.getfield 46, 3) := by decide +kernel
theorem dX2_daysUntil_22 : decode cX2_daysUntil 22 = .ok (.isub, 1) := by decide +kernel
theorem dX2_daysUntil_23 : decode cX2_daysUntil 23 = .ok (.sipush 360, 3) := by decide +kernel
theorem dX2_daysUntil_26 : decode cX2_daysUntil 26 = .ok (.iadd, 1) := by decide +kernel
theorem dX2_daysUntil_27 : decode cX2_daysUntil 27 = .ok (.ireturn, 1) := by decide +kernel
theorem dX2_daysLeft_0 : decode cX2_daysLeft 0 = .ok (.bipush 99, 2) := by decide +kernel
theorem dX2_daysLeft_2 : decode cX2_daysLeft 2 = .ok (.aload_n 0, 1) := by decide +kernel
theorem dX2_daysLeft_3 : decode cX2_daysLeft 3 = .ok (.getfield 42, 3) := by decide +kernel
theorem dX2_daysLeft_6 : decode cX2_daysLeft 6 = .ok (.isub, 1) := by decide +kernel
theorem dX2_daysLeft_7 : decode cX2_daysLeft 7 = .ok (.sipush 360, 3) := by decide +kernel
theorem dX2_daysLeft_10 : decode cX2_daysLeft 10 = .ok (.imul, 1) := by decide +kernel
theorem dX2_daysLeft_11 : decode cX2_daysLeft 11 = .ok (.sipush 360, 3) := by decide +kernel
theorem dX2_daysLeft_14 : decode cX2_daysLeft 14 = .ok (.iadd, 1) := by decide +kernel
theorem dX2_daysLeft_15 : decode cX2_daysLeft 15 = .ok (.iconst 1, 1) := by decide +kernel
theorem dX2_daysLeft_16 : decode cX2_daysLeft 16 = .ok (.isub, 1) := by decide +kernel
theorem dX2_daysLeft_17 : decode cX2_daysLeft 17 = .ok (.aload_n 0, 1) := by decide +kernel
theorem dX2_daysLeft_18 : decode cX2_daysLeft 18 = .ok (.getfield 46, 3) := by decide +kernel
theorem dX2_daysLeft_21 : decode cX2_daysLeft 21 = .ok (.isub, 1) := by decide +kernel
theorem dX2_daysLeft_22 : decode cX2_daysLeft 22 = .ok (.ireturn, 1) := by decide +kernel
theorem dX2_reasonAgainst_0 : decode cX2_reasonAgainst 0 = .ok (.iconst 0, 1) := by decide +kernel
theorem dX2_reasonAgainst_1 : decode cX2_reasonAgainst 1 = .ok (.istore 4, 2) := by decide +kernel
theorem dX2_reasonAgainst_3 : decode cX2_reasonAgainst 3 = .ok (.iload 4, 2) := by decide +kernel
theorem dX2_reasonAgainst_5 : decode cX2_reasonAgainst 5 = .ok (.aload_n 0, 1) := by decide +kernel
theorem dX2_reasonAgainst_6 : decode cX2_reasonAgainst 6 = .ok (.getfield 70, 3) := by decide +kernel
theorem dX2_reasonAgainst_9 : decode cX2_reasonAgainst 9 = .ok (.if_icmp .ge 43, 3) := by decide +kernel
theorem dX2_reasonAgainst_12 : decode cX2_reasonAgainst 12 = .ok (.iload 4, 2) := by decide +kernel
theorem dX2_reasonAgainst_14 : decode cX2_reasonAgainst 14 = .ok (.iload_n 1, 1) := by decide +kernel
theorem dX2_reasonAgainst_15 : decode cX2_reasonAgainst 15 = .ok (.if_icmp .eq 31, 3) := by decide +kernel
theorem dX2_reasonAgainst_18 : decode cX2_reasonAgainst 18 = .ok (.aload_n 0, 1) := by decide +kernel
theorem dX2_reasonAgainst_19 : decode cX2_reasonAgainst 19 = .ok (.getfield 30, 3) := by decide +kernel
theorem dX2_reasonAgainst_22 : decode cX2_reasonAgainst 22 = .ok (.iload 4, 2) := by decide +kernel
theorem dX2_reasonAgainst_24 : decode cX2_reasonAgainst 24 = .ok (.invokestatic 87, 3) := by decide +kernel
theorem dX2_reasonAgainst_27 : decode cX2_reasonAgainst 27 = .ok (.iload_n 2, 1) := by decide +kernel
theorem dX2_reasonAgainst_28 : decode cX2_reasonAgainst 28 = .ok (.if_icmp .ne 18, 3) := by decide +kernel
theorem dX2_reasonAgainst_31 : decode cX2_reasonAgainst 31 = .ok (.aload_n 0, 1) := by decide +kernel
theorem dX2_reasonAgainst_32 : decode cX2_reasonAgainst 32 = .ok (.getfield 33, 3) := by decide +kernel
theorem dX2_reasonAgainst_35 : decode cX2_reasonAgainst 35 = .ok (.iload 4, 2) := by decide +kernel
theorem dX2_reasonAgainst_37 : decode cX2_reasonAgainst 37 = .ok (.invokestatic 87, 3) := by decide +kernel
theorem dX2_reasonAgainst_40 : decode cX2_reasonAgainst 40 = .ok (.iload_n 3, 1) := by decide +kernel
theorem dX2_reasonAgainst_41 : decode cX2_reasonAgainst 41 = .ok (.if_icmp .ne 5, 3) := by decide +kernel
theorem dX2_reasonAgainst_44 : decode cX2_reasonAgainst 44 = .ok (.iconst 1, 1) := by decide +kernel
theorem dX2_reasonAgainst_45 : decode cX2_reasonAgainst 45 = .ok (.ireturn, 1) := by decide +kernel
theorem dX2_reasonAgainst_46 : decode cX2_reasonAgainst 46 = .ok (.iinc 4 1, 3) := by decide +kernel
theorem dX2_reasonAgainst_49 : decode cX2_reasonAgainst 49 = .ok (.goto (-46), 3) := by decide +kernel
theorem dX2_reasonAgainst_52 : decode cX2_reasonAgainst 52 = .ok (.aload_n 0, 1) := by decide +kernel
theorem dX2_reasonAgainst_53 : decode cX2_reasonAgainst 53 = .ok (.getfield 15, 3) := by decide +kernel
theorem dX2_reasonAgainst_56 : decode cX2_reasonAgainst 56 = .ok (.iload_n 2, 1) := by decide +kernel
theorem dX2_reasonAgainst_57 : decode cX2_reasonAgainst 57 = .ok (.invokestatic 87, 3) := by decide +kernel
theorem dX2_reasonAgainst_60 : decode cX2_reasonAgainst 60 = .ok (.aload_n 0, 1) := by decide +kernel
theorem dX2_reasonAgainst_61 : decode cX2_reasonAgainst 61 = .ok (.aload_n 0, 1) := by decide +kernel
theorem dX2_reasonAgainst_62 : decode cX2_reasonAgainst 62 = .ok (.getfield 21, 3) := by decide +kernel
theorem dX2_reasonAgainst_65 : decode cX2_reasonAgainst 65 = .ok (.iload_n 1, 1) := by decide +kernel
theorem dX2_reasonAgainst_66 : decode cX2_reasonAgainst 66 = .ok (.invokestatic 87, 3) := by decide +kernel
theorem dX2_reasonAgainst_69 : decode cX2_reasonAgainst 69 = .ok (.invokevirtual 95, 3) := by decide +kernel
theorem dX2_reasonAgainst_72 : decode cX2_reasonAgainst 72 = .ok (.if_icmp .ge 7, 3) := by decide +kernel
theorem dX2_reasonAgainst_75 : decode cX2_reasonAgainst 75 = .ok (.iconst 2, 1) := by decide +kernel
theorem dX2_reasonAgainst_76 : decode cX2_reasonAgainst 76 = .ok (.goto 4, 3) := by decide +kernel
theorem dX2_reasonAgainst_79 : decode cX2_reasonAgainst 79 = .ok (.iconst 0, 1) := by decide +kernel
theorem dX2_reasonAgainst_80 : decode cX2_reasonAgainst 80 = .ok (.ireturn, 1) := by decide +kernel
theorem dX2_countDraws_0 : decode cX2_countDraws 0 = .ok (.aload_n 0, 1) := by decide +kernel
theorem dX2_countDraws_1 : decode cX2_countDraws 1 = .ok (.getfield 30, 3) := by decide +kernel
theorem dX2_countDraws_4 : decode cX2_countDraws 4 = .ok (.iload_n 1, 1) := by decide +kernel
theorem dX2_countDraws_5 : decode cX2_countDraws 5 = .ok (.invokestatic 87, 3) := by decide +kernel
theorem dX2_countDraws_8 : decode cX2_countDraws 8 = .ok (.istore_n 2, 1) := by decide +kernel
theorem dX2_countDraws_9 : decode cX2_countDraws 9 = .ok (.aload_n 0, 1) := by decide +kernel
theorem dX2_countDraws_10 : decode cX2_countDraws 10 = .ok (.getfield 49, 3) := by decide +kernel
theorem dX2_countDraws_13 : decode cX2_countDraws 13 = .ok (.istore_n 3, 1) := by decide +kernel
theorem dX2_countDraws_14 : decode cX2_countDraws 14 = .ok (.iconst 1, 1) := by decide +kernel
theorem dX2_countDraws_15 : decode cX2_countDraws 15 = .ok (.istore 4, 2) := by decide +kernel
theorem dX2_countDraws_17 : decode cX2_countDraws 17 = .ok (.iload 4, 2) := by decide +kernel
theorem dX2_countDraws_19 : decode cX2_countDraws 19 = .ok (.bipush 20, 2) := by decide +kernel
theorem dX2_countDraws_21 : decode cX2_countDraws 21 = .ok (.if_icmp .gt 31, 3) := by decide +kernel
theorem dX2_countDraws_24 : decode cX2_countDraws 24 = .ok (.iload_n 3, 1) := by decide +kernel
theorem dX2_countDraws_25 : decode cX2_countDraws 25 = .ok (.invokestatic 99, 3) := by decide +kernel
theorem dX2_countDraws_28 : decode cX2_countDraws 28 = .ok (.istore_n 3, 1) := by decide +kernel
theorem dX2_countDraws_29 : decode cX2_countDraws 29 = .ok (.aload_n 0, 1) := by decide +kernel
theorem dX2_countDraws_30 : decode cX2_countDraws 30 = .ok (.iload_n 1, 1) := by decide +kernel
theorem dX2_countDraws_31 : decode cX2_countDraws 31 = .ok (.iload_n 2, 1) := by decide +kernel
theorem dX2_countDraws_32 : decode cX2_countDraws 32 = .ok (.iload_n 3, 1) := by decide +kernel
theorem dX2_countDraws_33 : decode cX2_countDraws 33 = .ok (.sipush 360, 3) := by decide +kernel
theorem dX2_countDraws_36 : decode cX2_countDraws 36 = .ok (.irem, 1) := by decide +kernel
theorem dX2_countDraws_37 : decode cX2_countDraws 37 = .ok (.invokevirtual 102, 3) := by decide +kernel
theorem dX2_countDraws_40 : decode cX2_countDraws 40 = .ok (.ifCond .ne 6, 3) := by decide +kernel
theorem dX2_countDraws_43 : decode cX2_countDraws 43 = .ok (.iload 4, 2) := by decide +kernel
theorem dX2_countDraws_45 : decode cX2_countDraws 45 = .ok (.ireturn, 1) := by decide +kernel
theorem dX2_countDraws_46 : decode cX2_countDraws 46 = .ok (.iinc 4 1, 3) := by decide +kernel
theorem dX2_countDraws_49 : decode cX2_countDraws 49 = .ok (.goto (-32), 3) := by decide +kernel
theorem dX2_countDraws_52 : decode cX2_countDraws 52 = .ok (.iconst (-1), 1) := by decide +kernel
theorem dX2_countDraws_53 : decode cX2_countDraws 53 = .ok (.ireturn, 1) := by decide +kernel
theorem dX2_drawBirthday_0 : decode cX2_drawBirthday 0 = .ok (.iconst 0, 1) := by decide +kernel
theorem dX2_drawBirthday_1 : decode cX2_drawBirthday 1 = .ok (.istore_n 3, 1) := by decide +kernel
theorem dX2_drawBirthday_2 : decode cX2_drawBirthday 2 = .ok (.iload_n 3, 1) := by decide +kernel
theorem dX2_drawBirthday_3 : decode cX2_drawBirthday 3 = .ok (.iload_n 2, 1) := by decide +kernel
theorem dX2_drawBirthday_4 : decode cX2_drawBirthday 4 = .ok (.if_icmp .ge 20, 3) := by decide +kernel
theorem dX2_drawBirthday_7 : decode cX2_drawBirthday 7 = .ok (.aload_n 0, 1) := by decide +kernel
theorem dX2_drawBirthday_8 : decode cX2_drawBirthday 8 = .ok (.aload_n 0, 1) := by decide +kernel
theorem dX2_drawBirthday_9 : decode cX2_drawBirthday 9 = .ok (.getfield 49, 3) := by decide +kernel
theorem dX2_drawBirthday_12 : decode cX2_drawBirthday 12 = .ok (.invokestatic 99, 3) := by decide +kernel
theorem dX2_drawBirthday_15 : decode cX2_drawBirthday 15 = .ok (.putfield 49, 3) := by decide +kernel
theorem dX2_drawBirthday_18 : decode cX2_drawBirthday 18 = .ok (.iinc 3 1, 3) := by decide +kernel
theorem dX2_drawBirthday_21 : decode cX2_drawBirthday 21 = .ok (.goto (-19), 3) := by decide +kernel
theorem dX2_drawBirthday_24 : decode cX2_drawBirthday 24 = .ok (.aload_n 0, 1) := by decide +kernel
theorem dX2_drawBirthday_25 : decode cX2_drawBirthday 25 = .ok (.getfield 33, 3) := by decide +kernel
theorem dX2_drawBirthday_28 : decode cX2_drawBirthday 28 = .ok (.iload_n 1, 1) := by decide +kernel
theorem dX2_drawBirthday_29 : decode cX2_drawBirthday 29 = .ok (.aload_n 0, 1) := by decide +kernel
theorem dX2_drawBirthday_30 : decode cX2_drawBirthday 30 = .ok (.getfield 49, 3) := by decide +kernel
theorem dX2_drawBirthday_33 : decode cX2_drawBirthday 33 = .ok (.sipush 360, 3) := by decide +kernel
theorem dX2_drawBirthday_36 : decode cX2_drawBirthday 36 = .ok (.irem, 1) := by decide +kernel
theorem dX2_drawBirthday_37 : decode cX2_drawBirthday 37 = .ok (.invokestatic 83, 3) := by decide +kernel
theorem dX2_drawBirthday_40 : decode cX2_drawBirthday 40 = .ok (.return_, 1) := by decide +kernel
theorem dX2_pass_0 : decode cX2_pass 0 = .ok (.iconst 0, 1) := by decide +kernel
theorem dX2_pass_1 : decode cX2_pass 1 = .ok (.istore_n 2, 1) := by decide +kernel
theorem dX2_pass_2 : decode cX2_pass 2 = .ok (.iconst 0, 1) := by decide +kernel
theorem dX2_pass_3 : decode cX2_pass 3 = .ok (.istore_n 3, 1) := by decide +kernel
theorem dX2_pass_4 : decode cX2_pass 4 = .ok (.iload_n 3, 1) := by decide +kernel
theorem dX2_pass_5 : decode cX2_pass 5 = .ok (.iload_n 1, 1) := by decide +kernel
theorem dX2_pass_6 : decode cX2_pass 6 = .ok (.if_icmp .ge 59, 3) := by decide +kernel
theorem dX2_pass_9 : decode cX2_pass 9 = .ok (.aload_n 0, 1) := by decide +kernel
theorem dX2_pass_10 : decode cX2_pass 10 = .ok (.invokevirtual 106, 3) := by decide +kernel
theorem dX2_pass_13 : decode cX2_pass 13 = .ok (.iconst 0, 1) := by decide +kernel
theorem dX2_pass_14 : decode cX2_pass 14 = .ok (.istore 4, 2) := by decide +kernel
theorem dX2_pass_16 : decode cX2_pass 16 = .ok (.iload 4, 2) := by decide +kernel
theorem dX2_pass_18 : decode cX2_pass 18 = .ok (.aload_n 0, 1) := by decide +kernel
theorem dX2_pass_19 : decode cX2_pass 19 = .ok (.getfield 70, 3) := by decide +kernel
theorem dX2_pass_22 : decode cX2_pass 22 = .ok (.if_icmp .ge 37, 3) := by decide +kernel
theorem dX2_pass_25 : decode cX2_pass 25 = .ok (.aload_n 0, 1) := by decide +kernel
theorem dX2_pass_26 : decode cX2_pass 26 = .ok (.getfield 33, 3) := by decide +kernel
theorem dX2_pass_29 : decode cX2_pass 29 = .ok (.iload 4, 2) := by decide +kernel
theorem dX2_pass_31 : decode cX2_pass 31 = .ok (.invokestatic 87, 3) := by decide +kernel
theorem dX2_pass_34 : decode cX2_pass 34 = .ok (.aload_n 0, 1) := by decide +kernel
theorem dX2_pass_35 : decode cX2_pass 35 = .ok (.getfield 46, 3) := by decide +kernel
theorem dX2_pass_38 : decode cX2_pass 38 = .ok (.if_icmp .ne 15, 3) := by decide +kernel
theorem dX2_pass_41 : decode cX2_pass 41 = .ok (.aload_n 0, 1) := by decide +kernel
theorem dX2_pass_42 : decode cX2_pass 42 = .ok (.iload 4, 2) := by decide +kernel
theorem dX2_pass_44 : decode cX2_pass 44 = .ok (.invokevirtual 109, 3) := by decide +kernel
theorem dX2_pass_47 : decode cX2_pass 47 = .ok (.ifCond .eq 6, 3) := by decide +kernel
theorem dX2_pass_50 : decode cX2_pass 50 = .ok (.iinc 2 1, 3) := by decide +kernel
theorem dX2_pass_53 : decode cX2_pass 53 = .ok (.iinc 4 1, 3) := by decide +kernel
theorem dX2_pass_56 : decode cX2_pass 56 = .ok (.goto (-40), 3) := by decide +kernel
theorem dX2_pass_59 : decode cX2_pass 59 = .ok (.iinc 3 1, 3) := by decide +kernel
theorem dX2_pass_62 : decode cX2_pass 62 = .ok (.goto (-58), 3) := by decide +kernel
theorem dX2_pass_65 : decode cX2_pass 65 = .ok (.iload_n 2, 1) := by decide +kernel
theorem dX2_pass_66 : decode cX2_pass 66 = .ok (.ireturn, 1) := by decide +kernel
theorem dX2_beginNextDate_0 : decode cX2_beginNextDate 0 = .ok (.aload_n 0, 1) := by decide +kernel
theorem dX2_beginNextDate_1 : decode cX2_beginNextDate 1 = .ok (.dup, 1) := by decide +kernel
theorem dX2_beginNextDate_2 : decode cX2_beginNextDate 2 = .ok (.getfield 46, 3) := by decide +kernel
theorem dX2_beginNextDate_5 : decode cX2_beginNextDate 5 = .ok (.iconst 1, 1) := by decide +kernel
theorem dX2_beginNextDate_6 : decode cX2_beginNextDate 6 = .ok (.iadd, 1) := by decide +kernel
theorem dX2_beginNextDate_7 : decode cX2_beginNextDate 7 = .ok (.putfield 46, 3) := by decide +kernel
theorem dX2_beginNextDate_10 : decode cX2_beginNextDate 10 = .ok (.aload_n 0, 1) := by decide +kernel
theorem dX2_beginNextDate_11 : decode cX2_beginNextDate 11 = .ok (.getfield 46, 3) := by decide +kernel
theorem dX2_beginNextDate_14 : decode cX2_beginNextDate 14 = .ok (.sipush 360, 3) := by decide +kernel
theorem dX2_beginNextDate_17 : decode cX2_beginNextDate 17 = .ok (.if_icmp .ne 18, 3) := by decide +kernel
theorem dX2_beginNextDate_20 : decode cX2_beginNextDate 20 = .ok (.aload_n 0, 1) := by decide +kernel
theorem dX2_beginNextDate_21 : decode cX2_beginNextDate 21 = .ok (.iconst 0, 1) := by decide +kernel
theorem dX2_beginNextDate_22 : decode cX2_beginNextDate 22 = .ok (.putfield 46, 3) := by decide +kernel
theorem dX2_beginNextDate_25 : decode cX2_beginNextDate 25 = .ok (.aload_n 0, 1) := by decide +kernel
theorem dX2_beginNextDate_26 : decode cX2_beginNextDate 26 = .ok (.dup, 1) := by decide +kernel
theorem dX2_beginNextDate_27 : decode cX2_beginNextDate 27 = .ok (.getfield 42, 3) := by decide +kernel
theorem dX2_beginNextDate_30 : decode cX2_beginNextDate 30 = .ok (.iconst 1, 1) := by decide +kernel
theorem dX2_beginNextDate_31 : decode cX2_beginNextDate 31 = .ok (.iadd, 1) := by decide +kernel
theorem dX2_beginNextDate_32 : decode cX2_beginNextDate 32 = .ok (.putfield 42, 3) := by decide +kernel
theorem dX2_beginNextDate_35 : decode cX2_beginNextDate 35 = .ok (.return_, 1) := by decide +kernel
theorem dX2_celebrate_0 : decode cX2_celebrate 0 = .ok (.aload_n 0, 1) := by decide +kernel
theorem dX2_celebrate_1 : decode cX2_celebrate 1 = .ok (.getfield 27, 3) := by decide +kernel
theorem dX2_celebrate_4 : decode cX2_celebrate 4 = .ok (.iload_n 1, 1) := by decide +kernel
theorem dX2_celebrate_5 : decode cX2_celebrate 5 = .ok (.iconst 1, 1) := by decide +kernel
theorem dX2_celebrate_6 : decode cX2_celebrate 6 = .ok (.invokestatic 113, 3) := by decide +kernel
theorem dX2_celebrate_9 : decode cX2_celebrate 9 = .ok (.aload_n 0, 1) := by decide +kernel
theorem dX2_celebrate_10 : decode cX2_celebrate 10 = .ok (.aload_n 0, 1) := by decide +kernel
theorem dX2_celebrate_11 : decode cX2_celebrate 11 = .ok (.getfield 21, 3) := by decide +kernel
theorem dX2_celebrate_14 : decode cX2_celebrate 14 = .ok (.iload_n 1, 1) := by decide +kernel
theorem dX2_celebrate_15 : decode cX2_celebrate 15 = .ok (.invokestatic 87, 3) := by decide +kernel
theorem dX2_celebrate_18 : decode cX2_celebrate 18 = .ok (.invokevirtual 116, 3) := by decide +kernel
theorem dX2_celebrate_21 : decode cX2_celebrate 21 = .ok (.istore_n 2, 1) := by decide +kernel
theorem dX2_celebrate_22 : decode cX2_celebrate 22 = .ok (.iload_n 2, 1) := by decide +kernel
theorem dX2_celebrate_23 : decode cX2_celebrate 23 = .ok (.iconst (-1), 1) := by decide +kernel
theorem dX2_celebrate_24 : decode cX2_celebrate 24 = .ok (.if_icmp .ne 15, 3) := by decide +kernel
theorem dX2_celebrate_27 : decode cX2_celebrate 27 = .ok (.aload_n 0, 1) := by decide +kernel
theorem dX2_celebrate_28 : decode cX2_celebrate 28 = .ok (.dup, 1) := by decide +kernel
theorem dX2_celebrate_29 : decode cX2_celebrate 29 = .ok (.getfield 64, 3) := by decide +kernel
theorem dX2_celebrate_32 : decode cX2_celebrate 32 = .ok (.iconst 1, 1) := by decide +kernel
theorem dX2_celebrate_33 : decode cX2_celebrate 33 = .ok (.iadd, 1) := by decide +kernel
theorem dX2_celebrate_34 : decode cX2_celebrate 34 = .ok (.putfield 64, 3) := by decide +kernel
theorem dX2_celebrate_37 : decode cX2_celebrate 37 = .ok (.iconst 0, 1) := by decide +kernel
theorem dX2_celebrate_38 : decode cX2_celebrate 38 = .ok (.ireturn, 1) := by decide +kernel
theorem dX2_celebrate_39 : decode cX2_celebrate 39 = .ok (.aload_n 0, 1) := by decide +kernel
theorem dX2_celebrate_40 : decode cX2_celebrate 40 = .ok (.getfield 27, 3) := by decide +kernel
theorem dX2_celebrate_43 : decode cX2_celebrate 43 = .ok (.iload_n 1, 1) := by decide +kernel
theorem dX2_celebrate_44 : decode cX2_celebrate 44 = .ok (.invokestatic 87, 3) := by decide +kernel
theorem dX2_celebrate_47 : decode cX2_celebrate 47 = .ok (.istore_n 3, 1) := by decide +kernel
theorem dX2_celebrate_48 : decode cX2_celebrate 48 = .ok (.iload_n 3, 1) := by decide +kernel
theorem dX2_celebrate_49 : decode cX2_celebrate 49 = .ok (.aload_n 0, 1) := by decide +kernel
theorem dX2_celebrate_50 : decode cX2_celebrate 50 = .ok (.getfield 52, 3) := by decide +kernel
theorem dX2_celebrate_53 : decode cX2_celebrate 53 = .ok (.invokestatic 119, 3) := by decide +kernel
theorem dX2_celebrate_56 : decode cX2_celebrate 56 = .ok (.istore 4, 2) := by decide +kernel
theorem dX2_celebrate_58 : decode cX2_celebrate 58 = .ok (.aload_n 0, 1) := by decide +kernel
theorem dX2_celebrate_59 : decode cX2_celebrate 59 = .ok (.getfield 9, 3) := by decide +kernel
theorem dX2_celebrate_62 : decode cX2_celebrate 62 = .ok (.iload_n 2, 1) := by decide +kernel
theorem dX2_celebrate_63 : decode cX2_celebrate 63 = .ok (.iconst (-1), 1) := by decide +kernel
theorem dX2_celebrate_64 : decode cX2_celebrate 64 = .ok (.invokestatic 113, 3) := by decide +kernel
theorem dX2_celebrate_67 : decode cX2_celebrate 67 = .ok (.aload_n 0, 1) := by decide +kernel
theorem dX2_celebrate_68 : decode cX2_celebrate 68 = .ok (.dup, 1) := by decide +kernel
theorem dX2_celebrate_69 : decode cX2_celebrate 69 = .ok (.getfield 52, 3) := by decide +kernel
theorem dX2_celebrate_72 : decode cX2_celebrate 72 = .ok (.iload 4, 2) := by decide +kernel
theorem dX2_celebrate_74 : decode cX2_celebrate 74 = .ok (.isub, 1) := by decide +kernel
theorem dX2_celebrate_75 : decode cX2_celebrate 75 = .ok (.putfield 52, 3) := by decide +kernel
theorem dX2_celebrate_78 : decode cX2_celebrate 78 = .ok (.aload_n 0, 1) := by decide +kernel
theorem dX2_celebrate_79 : decode cX2_celebrate 79 = .ok (.dup, 1) := by decide +kernel
theorem dX2_celebrate_80 : decode cX2_celebrate 80 = .ok (.getfield 61, 3) := by decide +kernel
theorem dX2_celebrate_83 : decode cX2_celebrate 83 = .ok (.iload 4, 2) := by decide +kernel
theorem dX2_celebrate_85 : decode cX2_celebrate 85 = .ok (.iadd, 1) := by decide +kernel
theorem dX2_celebrate_86 : decode cX2_celebrate 86 = .ok (.putfield 61, 3) := by decide +kernel
theorem dX2_celebrate_89 : decode cX2_celebrate 89 = .ok (.aload_n 0, 1) := by decide +kernel
theorem dX2_celebrate_90 : decode cX2_celebrate 90 = .ok (.getfield 36, 3) := by decide +kernel
theorem dX2_celebrate_93 : decode cX2_celebrate 93 = .ok (.iload_n 1, 1) := by decide +kernel
theorem dX2_celebrate_94 : decode cX2_celebrate 94 = .ok (.iconst 1, 1) := by decide +kernel
theorem dX2_celebrate_95 : decode cX2_celebrate 95 = .ok (.invokestatic 113, 3) := by decide +kernel
theorem dX2_celebrate_98 : decode cX2_celebrate 98 = .ok (.iload 4, 2) := by decide +kernel
theorem dX2_celebrate_100 : decode cX2_celebrate 100 = .ok (.iload_n 3, 1) := by decide +kernel
theorem dX2_celebrate_101 : decode cX2_celebrate 101 = .ok (.if_icmp .ne 23, 3) := by decide +kernel
theorem dX2_celebrate_104 : decode cX2_celebrate 104 = .ok (.aload_n 0, 1) := by decide +kernel
theorem dX2_celebrate_105 : decode cX2_celebrate 105 = .ok (.iload_n 1, 1) := by decide +kernel
theorem dX2_celebrate_106 : decode cX2_celebrate 106 = .ok (.iload_n 2, 1) := by decide +kernel
theorem dX2_celebrate_107 : decode cX2_celebrate 107 = .ok (.invokevirtual 125, 3) := by decide +kernel
theorem dX2_celebrate_110 : decode cX2_celebrate 110 = .ok (.iload 4, 2) := by decide +kernel
theorem dX2_celebrate_112 : decode cX2_celebrate 112 = .ok (.if_icmp .lt 12, 3) := by decide +kernel
theorem dX2_celebrate_115 : decode cX2_celebrate 115 = .ok (.aload_n 0, 1) := by decide +kernel
theorem dX2_celebrate_116 : decode cX2_celebrate 116 = .ok (.getfield 39, 3) := by decide +kernel
theorem dX2_celebrate_119 : decode cX2_celebrate 119 = .ok (.iload_n 1, 1) := by decide +kernel
theorem dX2_celebrate_120 : decode cX2_celebrate 120 = .ok (.iconst 1, 1) := by decide +kernel
theorem dX2_celebrate_121 : decode cX2_celebrate 121 = .ok (.invokestatic 113, 3) := by decide +kernel
theorem dX2_celebrate_124 : decode cX2_celebrate 124 = .ok (.iconst 1, 1) := by decide +kernel
theorem dX2_celebrate_125 : decode cX2_celebrate 125 = .ok (.ireturn, 1) := by decide +kernel
theorem dX2_cakeFor_0 : decode cX2_cakeFor 0 = .ok (.iconst 0, 1) := by decide +kernel
theorem dX2_cakeFor_1 : decode cX2_cakeFor 1 = .ok (.istore_n 2, 1) := by decide +kernel
theorem dX2_cakeFor_2 : decode cX2_cakeFor 2 = .ok (.iload_n 2, 1) := by decide +kernel
theorem dX2_cakeFor_3 : decode cX2_cakeFor 3 = .ok (.bipush 6, 2) := by decide +kernel
theorem dX2_cakeFor_5 : decode cX2_cakeFor 5 = .ok (.if_icmp .ge 29, 3) := by decide +kernel
theorem dX2_cakeFor_8 : decode cX2_cakeFor 8 = .ok (.iload_n 1, 1) := by decide +kernel
theorem dX2_cakeFor_9 : decode cX2_cakeFor 9 = .ok (.iload_n 2, 1) := by decide +kernel
theorem dX2_cakeFor_10 : decode cX2_cakeFor 10 = .ok (.iadd, 1) := by decide +kernel
theorem dX2_cakeFor_11 : decode cX2_cakeFor 11 = .ok (.bipush 6, 2) := by decide +kernel
theorem dX2_cakeFor_13 : decode cX2_cakeFor 13 = .ok (.irem, 1) := by decide +kernel
theorem dX2_cakeFor_14 : decode cX2_cakeFor 14 = .ok (.istore_n 3, 1) := by decide +kernel
theorem dX2_cakeFor_15 : decode cX2_cakeFor 15 = .ok (.aload_n 0, 1) := by decide +kernel
theorem dX2_cakeFor_16 : decode cX2_cakeFor 16 = .ok (.getfield 9, 3) := by decide +kernel
theorem dX2_cakeFor_19 : decode cX2_cakeFor 19 = .ok (.iload_n 3, 1) := by decide +kernel
theorem dX2_cakeFor_20 : decode cX2_cakeFor 20 = .ok (.invokestatic 87, 3) := by decide +kernel
theorem dX2_cakeFor_23 : decode cX2_cakeFor 23 = .ok (.ifCond .le 5, 3) := by decide +kernel
theorem dX2_cakeFor_26 : decode cX2_cakeFor 26 = .ok (.iload_n 3, 1) := by decide +kernel
theorem dX2_cakeFor_27 : decode cX2_cakeFor 27 = .ok (.ireturn, 1) := by decide +kernel
theorem dX2_cakeFor_28 : decode cX2_cakeFor 28 = .ok (.iinc 2 1, 3) := by decide +kernel
theorem dX2_cakeFor_31 : decode cX2_cakeFor 31 = .ok (.goto (-29), 3) := by decide +kernel
theorem dX2_cakeFor_34 : decode cX2_cakeFor 34 = .ok (.iconst (-1), 1) := by decide +kernel
theorem dX2_cakeFor_35 : decode cX2_cakeFor 35 = .ok (.ireturn, 1) := by decide +kernel
theorem dX2_partyStrength_0 : decode cX2_partyStrength 0 = .ok (.iload_n 2, 1) := by decide +kernel
theorem dX2_partyStrength_1 : decode cX2_partyStrength 1 = .ok (.aload_n 0, 1) := by decide +kernel
theorem dX2_partyStrength_2 : decode cX2_partyStrength 2 = .ok (.getfield 21, 3) := by decide +kernel
theorem dX2_partyStrength_5 : decode cX2_partyStrength 5 = .ok (.aload_n 0, 1) := by decide +kernel
theorem dX2_partyStrength_6 : decode cX2_partyStrength 6 = .ok (.getfield 70, 3) := by decide +kernel
theorem dX2_partyStrength_9 : decode cX2_partyStrength 9 = .ok (.invokestatic 91, 3) := by decide +kernel
theorem dX2_partyStrength_12 : decode cX2_partyStrength 12 = .ok (.istore_n 3, 1) := by decide +kernel
theorem dX2_partyStrength_13 : decode cX2_partyStrength 13 = .ok (.aload_n 0, 1) := by decide +kernel
theorem dX2_partyStrength_14 : decode cX2_partyStrength 14 = .ok (.getfield 21, 3) := by decide +kernel
theorem dX2_partyStrength_17 : decode cX2_partyStrength 17 = .ok (.iload_n 1, 1) := by decide +kernel
theorem dX2_partyStrength_18 : decode cX2_partyStrength 18 = .ok (.invokestatic 87, 3) := by decide +kernel
theorem dX2_partyStrength_21 : decode cX2_partyStrength 21 = .ok (.iload_n 2, 1) := by decide +kernel
theorem dX2_partyStrength_22 : decode cX2_partyStrength 22 = .ok (.if_icmp .ne 6, 3) := by decide +kernel
theorem dX2_partyStrength_25 : decode cX2_partyStrength 25 = .ok (.iinc 3 (-1), 3) := by decide +kernel
theorem dX2_partyStrength_28 : decode cX2_partyStrength 28 = .ok (.iload_n 3, 1) := by decide +kernel
theorem dX2_partyStrength_29 : decode cX2_partyStrength 29 = .ok (.aload_n 0, 1) := by decide +kernel
theorem dX2_partyStrength_30 : decode cX2_partyStrength 30 = .ok (.getfield 15, 3) := by decide +kernel
theorem dX2_partyStrength_33 : decode cX2_partyStrength 33 = .ok (.aload_n 0, 1) := by decide +kernel
theorem dX2_partyStrength_34 : decode cX2_partyStrength 34 = .ok (.getfield 30, 3) := by decide +kernel
theorem dX2_partyStrength_37 : decode cX2_partyStrength 37 = .ok (.iload_n 1, 1) := by decide +kernel
theorem dX2_partyStrength_38 : decode cX2_partyStrength 38 = .ok (.invokestatic 87, 3) := by decide +kernel
theorem dX2_partyStrength_41 : decode cX2_partyStrength 41 = .ok (.invokestatic 87, 3) := by decide +kernel
theorem dX2_partyStrength_44 : decode cX2_partyStrength 44 = .ok (.iconst 1, 1) := by decide +kernel
theorem dX2_partyStrength_45 : decode cX2_partyStrength 45 = .ok (.isub, 1) := by decide +kernel
theorem dX2_partyStrength_46 : decode cX2_partyStrength 46 = .ok (.invokestatic 119, 3) := by decide +kernel
theorem dX2_partyStrength_49 : decode cX2_partyStrength 49 = .ok (.istore 4, 2) := by decide +kernel
theorem dX2_partyStrength_51 : decode cX2_partyStrength 51 = .ok (.aload_n 0, 1) := by decide +kernel
theorem dX2_partyStrength_52 : decode cX2_partyStrength 52 = .ok (.getfield 24, 3) := by decide +kernel
theorem dX2_partyStrength_55 : decode cX2_partyStrength 55 = .ok (.iload_n 1, 1) := by decide +kernel
theorem dX2_partyStrength_56 : decode cX2_partyStrength 56 = .ok (.invokestatic 87, 3) := by decide +kernel
theorem dX2_partyStrength_59 : decode cX2_partyStrength 59 = .ok (.iload 4, 2) := by decide +kernel
theorem dX2_partyStrength_61 : decode cX2_partyStrength 61 = .ok (.iadd, 1) := by decide +kernel
theorem dX2_partyStrength_62 : decode cX2_partyStrength 62 = .ok (.ireturn, 1) := by decide +kernel
theorem dX3_init_0 : decode cX3_init 0 = .ok (.aload_n 0, 1) := by decide +kernel
theorem dX3_init_1 : decode cX3_init 1 = .ok (.invokespecial 1, 3) := by decide +kernel
theorem dX3_init_4 : decode cX3_init 4 = .ok (.aload_n 0, 1) := by decide +kernel
theorem dX3_init_5 : decode cX3_init 5 = .ok (.bipush 32, 2) := by decide +kernel
theorem dX3_init_7 : decode cX3_init 7 = .ok (.newarray .byte, 2) := by decide +kernel
theorem dX3_init_9 : decode cX3_init 9 = .ok (.putfield 9, 3) := by decide +kernel
theorem dX3_init_12 : decode cX3_init 12 = .ok (.aload_n 0, 1) := by decide +kernel
theorem dX3_init_13 : decode cX3_init 13 = .ok (.iconst (-1), 1) := by decide +kernel
theorem dX3_init_14 : decode cX3_init 14 = .ok (.putfield 13, 3) := by decide +kernel
theorem dX3_init_17 : decode cX3_init 17 = .ok (.aload_n 0, 1) := by decide +kernel
theorem dX3_init_18 : decode cX3_init 18 = .ok (.new 17, 3) := by decide +kernel
theorem dX3_init_21 : decode cX3_init 21 = .ok (.dup, 1) := by decide +kernel
theorem dX3_init_22 : decode cX3_init 22 = .ok (.invokespecial 19, 3) := by decide +kernel
theorem dX3_init_25 : decode cX3_init 25 = .ok (.putfield 20, 3) := by decide +kernel
theorem dX3_init_28 : decode cX3_init 28 = .ok (.aload_n 0, 1) := by decide +kernel
theorem dX3_init_29 : decode cX3_init 29 = .ok (.new 17, 3) := by decide +kernel
theorem dX3_init_32 : decode cX3_init 32 = .ok (.dup, 1) := by decide +kernel
theorem dX3_init_33 : decode cX3_init 33 = .ok (.invokespecial 19, 3) := by decide +kernel
theorem dX3_init_36 : decode cX3_init 36 = .ok (.putfield 24, 3) := by decide +kernel
theorem dX3_init_39 : decode cX3_init 39 = .ok (.aload_n 0, 1) := by decide +kernel
theorem dX3_init_40 : decode cX3_init 40 = .ok (.new 27, 3) := by decide +kernel
theorem dX3_init_43 : decode cX3_init 43 = .ok (.dup, 1) := by decide +kernel
theorem dX3_init_44 : decode cX3_init 44 = .ok (.invokespecial 29, 3) := by decide +kernel
theorem dX3_init_47 : decode cX3_init 47 = .ok (.putfield 30, 3) := by decide +kernel
theorem dX3_init_50 : decode cX3_init 50 = .ok (.aload_n 0, 1) := by decide +kernel
theorem dX3_init_51 : decode cX3_init 51 = .ok (.new 34, 3) := by decide +kernel
theorem dX3_init_54 : decode cX3_init 54 = .ok (.dup, 1) := by decide +kernel
theorem dX3_init_55 : decode cX3_init 55 = .ok (.invokespecial 36, 3) := by decide +kernel
theorem dX3_init_58 : decode cX3_init 58 = .ok (.putfield 37, 3) := by decide +kernel
theorem dX3_init_61 : decode cX3_init 61 = .ok (.aload_n 0, 1) := by decide +kernel
theorem dX3_init_62 : decode cX3_init 62 = .ok (.iconst 2, 1) := by decide +kernel
theorem dX3_init_63 : decode cX3_init 63 = .ok (.anewarray 17, 3) := by decide +kernel
theorem dX3_init_66 : decode cX3_init 66 = .ok (.putfield 41, 3) := by decide +kernel
theorem dX3_init_69 : decode cX3_init 69 = .ok (.aload_n 0, 1) := by decide +kernel
theorem dX3_init_70 : decode cX3_init 70 = .ok (.iconst 2, 1) := by decide +kernel
theorem dX3_init_71 : decode cX3_init 71 = .ok (.newarray .boolean, 2) := by decide +kernel
theorem dX3_init_73 : decode cX3_init 73 = .ok (.putfield 45, 3) := by decide +kernel
theorem dX3_init_76 : decode cX3_init 76 = .ok (.iconst 0, 1) := by decide +kernel
theorem dX3_init_77 : decode cX3_init 77 = .ok (.istore_n 1, 1) := by decide +kernel
theorem dX3_init_78 : decode cX3_init 78 = .ok (.iload_n 1, 1) := by decide +kernel
theorem dX3_init_79 : decode cX3_init 79 = .ok (.aload_n 0, 1) := by decide +kernel
theorem dX3_init_80 : decode cX3_init 80 = .ok (.getfield 41, 3) := by decide +kernel
theorem dX3_init_83 : decode cX3_init 83 = .ok (.arraylength, 1) := by decide +kernel
theorem dX3_init_84 : decode cX3_init 84 = .ok (.if_icmp .ge 22, 3) := by decide +kernel
theorem dX3_init_87 : decode cX3_init 87 = .ok (.aload_n 0, 1) := by decide +kernel
theorem dX3_init_88 : decode cX3_init 88 = .ok (.getfield 41, 3) := by decide +kernel
theorem dX3_init_91 : decode cX3_init 91 = .ok (.iload_n 1, 1) := by decide +kernel
theorem dX3_init_92 : decode cX3_init 92 = .ok (.new 17, 3) := by decide +kernel
theorem dX3_init_95 : decode cX3_init 95 = .ok (.dup, 1) := by decide +kernel
theorem dX3_init_96 : decode cX3_init 96 = .ok (.invokespecial 19, 3) := by decide +kernel
theorem dX3_init_99 : decode cX3_init 99 = .ok (.aastore, 1) := by decide +kernel
theorem dX3_init_100 : decode cX3_init 100 = .ok (.iinc 1 1, 3) := by decide +kernel
theorem dX3_init_103 : decode cX3_init 103 = .ok (.goto (-25), 3) := by decide +kernel
theorem dX3_init_106 : decode cX3_init 106 = .ok (.iconst 0, 1) := by decide +kernel
theorem dX3_init_107 : decode cX3_init 107 = .ok (.istore_n 1, 1) := by decide +kernel
theorem dX3_init_108 : decode cX3_init 108 = .ok (.iload_n 1, 1) := by decide +kernel
theorem dX3_init_109 : decode cX3_init 109 = .ok (.ldc 49, 2) := by decide +kernel
theorem dX3_init_111 : decode cX3_init 111 = .ok (.invokevirtual 51, 3) := by decide +kernel
theorem dX3_init_114 : decode cX3_init 114 = .ok (.if_icmp .ge 22, 3) := by decide +kernel
theorem dX3_init_117 : decode cX3_init 117 = .ok (.aload_n 0, 1) := by decide +kernel
theorem dX3_init_118 : decode cX3_init 118 = .ok (.getfield 30, 3) := by decide +kernel
theorem dX3_init_121 : decode cX3_init 121 = .ok (.ldc 49, 2) := by decide +kernel
theorem dX3_init_123 : decode cX3_init 123 = .ok (.iload_n 1, 1) := by decide +kernel
theorem dX3_init_124 : decode cX3_init 124 = .ok (.invokevirtual 57, 3) := by decide +kernel
theorem dX3_init_127 : decode cX3_init 127 = .ok (.invokevirtual 61, 3) := by decide +kernel
theorem dX3_init_130 : decode cX3_init 130 = .ok (.iinc 1 1, 3) := by decide +kernel
theorem dX3_init_133 : decode cX3_init 133 = .ok (.goto (-25), 3) := by decide +kernel
theorem dX3_init_136 : decode cX3_init 136 = .ok (.aload_n 0, 1) := by decide +kernel
theorem dX3_init_137 : decode cX3_init 137 = .ok (.getfield 30, 3) := by decide +kernel
theorem dX3_init_140 : decode cX3_init 140 = .ok (.aload_n 0, 1) := by decide +kernel
theorem dX3_init_141 : decode cX3_init 141 = .ok (.getfield 30, 3) := by decide +kernel
theorem dX3_init_144 : decode cX3_init 144 = .ok (.getfield 65, 3) := by decide +kernel
theorem dX3_init_147 : decode cX3_init 147 = .ok (.invokevirtual 68, 3) := by decide +kernel
theorem dX3_init_150 : decode cX3_init 150 = .ok (.aload_n 0, 1) := by decide +kernel
theorem dX3_init_151 : decode cX3_init 151 = .ok (.getfield 30, 3) := by decide +kernel
theorem dX3_init_154 : decode cX3_init 154 = .ok (.invokevirtual 71, 3) := by decide +kernel
theorem dX3_init_157 : decode cX3_init 157 = .ok (.aload_n 0, 1) := by decide +kernel
theorem dX3_init_158 : decode cX3_init 158 = .ok (.getfield 20, 3) := by decide +kernel
theorem dX3_init_161 : decode cX3_init 161 = .ok (.aload_n 0, 1) := by decide +kernel
theorem dX3_init_162 : decode cX3_init 162 = .ok (.getfield 30, 3) := by decide +kernel
theorem dX3_init_165 : decode cX3_init 165 = .ok (.getfield 74, 3) := by decide +kernel
theorem dX3_init_168 : decode cX3_init 168 = .ok (.invokevirtual 77, 3) := by decide +kernel
theorem dX3_init_171 : decode cX3_init 171 = .ok (.return_, 1) := by decide +kernel
theorem dX3_append_0 : decode cX3_append 0 = .ok (.aload_n 0, 1) := by decide +kernel
theorem dX3_append_1 : decode cX3_append 1 = .ok (.getfield 30, 3) := by decide +kernel
theorem dX3_append_4 : decode cX3_append 4 = .ok (.getfield 65, 3) := by decide +kernel
theorem dX3_append_7 : decode cX3_append 7 = .ok (.bipush 20, 2) := by decide +kernel
theorem dX3_append_9 : decode cX3_append 9 = .ok (.iadd, 1) := by decide +kernel
theorem dX3_append_10 : decode cX3_append 10 = .ok (.sipush 600, 3) := by decide +kernel
theorem dX3_append_13 : decode cX3_append 13 = .ok (.if_icmp .le 13, 3) := by decide +kernel
theorem dX3_append_16 : decode cX3_append 16 = .ok (.new 81, 3) := by decide +kernel
theorem dX3_append_19 : decode cX3_append 19 = .ok (.dup, 1) := by decide +kernel
theorem dX3_append_20 : decode cX3_append 20 = .ok (.ldc 83, 2) := by decide +kernel
theorem dX3_append_22 : decode cX3_append 22 = .ok (.invokespecial 85, 3) := by decide +kernel
theorem dX3_append_25 : decode cX3_append 25 = .ok (.athrow, 1) := by decide +kernel
theorem dX3_append_26 : decode cX3_append 26 = .ok (.aload_n 0, 1) := by decide +kernel
theorem dX3_append_27 : decode cX3_append 27 = .ok (.iload_n 1, 1) := by decide +kernel
theorem dX3_append_28 : decode cX3_append 28 = .ok (.invokevirtual 88, 3) := by decide +kernel
theorem dX3_append_31 : decode cX3_append 31 = .ok (.aload_n 0, 1) := by decide +kernel
theorem dX3_append_32 : decode cX3_append 32 = .ok (.iload_n 2, 1) := by decide +kernel
theorem dX3_append_33 : decode cX3_append 33 = .ok (.invokevirtual 88, 3) := by decide +kernel
theorem dX3_append_36 : decode cX3_append 36 = .ok (.aload_n 0, 1) := by decide +kernel
theorem dX3_append_37 : decode cX3_append 37 = .ok (.iload_n 3, 1) := by decide +kernel
theorem dX3_append_38 : decode cX3_append 38 = .ok (.invokevirtual 88, 3) := by decide +kernel
theorem dX3_append_41 : decode cX3_append 41 = .ok (.aload_n 0, 1) := by decide +kernel
theorem dX3_append_42 : decode cX3_append 42 = .ok (.iload 4, 2) := by decide +kernel
theorem dX3_append_44 : decode cX3_append 44 = .ok (.invokevirtual 88, 3) := by decide +kernel
theorem dX3_append_47 : decode cX3_append 47 = .ok (.aload_n 0, 1) := by decide +kernel
theorem dX3_append_48 : decode cX3_append 48 = .ok (.iload 5, 2) := by decide +kernel
theorem dX3_append_50 : decode cX3_append 50 = .ok (.invokevirtual 88, 3) := by decide +kernel
theorem dX3_append_53 : decode cX3_append 53 = .ok (.aload_n 0, 1) := by decide +kernel
theorem dX3_append_54 : decode cX3_append 54 = .ok (.getfield 30, 3) := by decide +kernel
theorem dX3_append_57 : decode cX3_append 57 = .ok (.getfield 65, 3) := by decide +kernel
theorem dX3_append_60 : decode cX3_append 60 = .ok (.ireturn, 1) := by decide +kernel
theorem dX3_appendFour_0 : decode cX3_appendFour 0 = .ok (.bipush 24, 2) := by decide +kernel
theorem dX3_appendFour_2 : decode cX3_appendFour 2 = .ok (.istore_n 2, 1) := by decide +kernel
theorem dX3_appendFour_3 : decode cX3_appendFour 3 = .ok (.iload_n 2, 1) := by decide +kernel
theorem dX3_appendFour_4 : decode cX3_appendFour 4 = .ok (.ifCond .lt 19, 3) := by decide +kernel
theorem dX3_appendFour_7 : decode cX3_appendFour 7 = .ok (.aload_n 0, 1) := by decide +kernel
theorem dX3_appendFour_8 : decode cX3_appendFour 8 = .ok (.getfield 30, 3) := by decide +kernel
theorem dX3_appendFour_11 : decode cX3_appendFour 11 = .ok (.iload_n 1, 1) := by decide +kernel
theorem dX3_appendFour_12 : decode cX3_appendFour 12 = .ok (.iload_n 2, 1) := by decide +kernel
theorem dX3_appendFour_13 : decode cX3_appendFour 13 = .ok (.ishr, 1) := by decide +kernel
theorem dX3_appendFour_14 : decode cX3_appendFour 14 = .ok (.invokevirtual 61, 3) := by decide +kernel
theorem dX3_appendFour_17 : decode cX3_appendFour 17 = .ok (.iinc 2 (-8), 3) := by decide +kernel
theorem dX3_appendFour_20 : decode cX3_appendFour 20 = .ok (.goto (-17), 3) := by decide +kernel
theorem dX3_appendFour_23 : decode cX3_appendFour 23 = .ok (.return_, 1) := by decide +kernel
theorem dX3_load_0 : decode cX3_load 0 = .ok (.iload_n 1, 1) := by decide +kernel
theorem dX3_load_1 : decode cX3_load 1 = .ok (.ifCond .lt 14, 3) := by decide +kernel
theorem dX3_load_4 : decode cX3_load 4 = .ok (.iload_n 1, 1) := by decide +kernel
theorem dX3_load_5 : decode cX3_load 5 = .ok (.aload_n 0, 1) := by decide +kernel
theorem dX3_load_6 : decode cX3_load 6 = .ok (.getfield 30, 3) := by decide +kernel
theorem dX3_load_9 : decode cX3_load 9 = .ok (.getfield 65, 3) := by decide +kernel
theorem dX3_load_12 : decode cX3_load 12 = .ok (.if_icmp .le 13, 3) := by decide +kernel
theorem dX3_load_15 : decode cX3_load 15 = .ok (.new 91, 3) := by decide +kernel
theorem dX3_load_18 : decode cX3_load 18 = .ok (.dup, 1) := by decide +kernel
theorem dX3_load_19 : decode cX3_load 19 = .ok (.ldc 93, 2) := by decide +kernel
theorem dX3_load_21 : decode cX3_load 21 = .ok (.invokespecial 95, 3) := by decide +kernel
theorem dX3_load_24 : decode cX3_load 24 = .ok (.athrow, 1) := by decide +kernel
theorem dX3_load_25 : decode cX3_load 25 = .ok (.aload_n 0, 1) := by decide +kernel
theorem dX3_load_26 : decode cX3_load 26 = .ok (.getfield 30, 3) := by decide +kernel
theorem dX3_load_29 : decode cX3_load 29 = .ok (.iload_n 1, 1) := by decide +kernel
theorem dX3_load_30 : decode cX3_load 30 = .ok (.invokevirtual 68, 3) := by decide +kernel
theorem dX3_load_33 : decode cX3_load 33 = .ok (.aload_n 0, 1) := by decide +kernel
theorem dX3_load_34 : decode cX3_load 34 = .ok (.getfield 30, 3) := by decide +kernel
theorem dX3_load_37 : decode cX3_load 37 = .ok (.invokevirtual 71, 3) := by decide +kernel
theorem dX3_load_40 : decode cX3_load 40 = .ok (.aload_n 0, 1) := by decide +kernel
theorem dX3_load_41 : decode cX3_load 41 = .ok (.aload_n 0, 1) := by decide +kernel
theorem dX3_load_42 : decode cX3_load 42 = .ok (.getfield 30, 3) := by decide +kernel
theorem dX3_load_45 : decode cX3_load 45 = .ok (.getfield 96, 3) := by decide +kernel
theorem dX3_load_48 : decode cX3_load 48 = .ok (.putfield 99, 3) := by decide +kernel
theorem dX3_load_51 : decode cX3_load 51 = .ok (.aload_n 0, 1) := by decide +kernel
theorem dX3_load_52 : decode cX3_load 52 = .ok (.aload_n 0, 1) := by decide +kernel
theorem dX3_load_53 : decode cX3_load 53 = .ok (.getfield 30, 3) := by decide +kernel
theorem dX3_load_56 : decode cX3_load 56 = .ok (.getfield 102, 3) := by decide +kernel
theorem dX3_load_59 : decode cX3_load 59 = .ok (.putfield 13, 3) := by decide +kernel
theorem dX3_load_62 : decode cX3_load 62 = .ok (.aload_n 0, 1) := by decide +kernel
theorem dX3_load_63 : decode cX3_load 63 = .ok (.getfield 99, 3) := by decide +kernel
theorem dX3_load_66 : decode cX3_load 66 = .ok (.ifCond .eq 13, 3) := by decide +kernel
theorem dX3_load_69 : decode cX3_load 69 = .ok (.new 105, 3) := by decide +kernel
theorem dX3_load_72 : decode cX3_load 72 = .ok (.dup, 1) := by decide +kernel
theorem dX3_load_73 : decode cX3_load 73 = .ok (.ldc 107, 2) := by decide +kernel
theorem dX3_load_75 : decode cX3_load 75 = .ok (.invokespecial 109, 3) := by decide +kernel
theorem dX3_load_78 : decode cX3_load 78 = .ok (.athrow, 1) := by decide +kernel
theorem dX3_load_79 : decode cX3_load 79 = .ok (.aload_n 0, 1) := by decide +kernel
theorem dX3_load_80 : decode cX3_load 80 = .ok (.getfield 20, 3) := by decide +kernel
theorem dX3_load_83 : decode cX3_load 83 = .ok (.aload_n 0, 1) := by decide +kernel
theorem dX3_load_84 : decode cX3_load 84 = .ok (.getfield 30, 3) := by decide +kernel
theorem dX3_load_87 : decode cX3_load 87 = .ok (.getfield 74, 3) := by decide +kernel
theorem dX3_load_90 : decode cX3_load 90 = .ok (.invokevirtual 77, 3) := by decide +kernel
theorem dX3_load_93 : decode cX3_load 93 = .ok (.aload_n 0, 1) := by decide +kernel
theorem dX3_load_94 : decode cX3_load 94 = .ok (.getfield 37, 3) := by decide +kernel
theorem dX3_load_97 : decode cX3_load 97 = .ok (.invokevirtual 110, 3) := by decide +kernel
theorem dX3_load_100 : decode cX3_load 100 = .ok (.iconst 0, 1) := by decide +kernel
theorem dX3_load_101 : decode cX3_load 101 = .ok (.istore_n 2, 1) := by decide +kernel
theorem dX3_load_102 : decode cX3_load 102 = .ok (.iload_n 2, 1) := by decide +kernel
theorem dX3_load_103 : decode cX3_load 103 = .ok (.aload_n 0, 1) := by decide +kernel
theorem dX3_load_104 : decode cX3_load 104 = .ok (.getfield 45, 3) := by decide +kernel
theorem dX3_load_107 : decode cX3_load 107 = .ok (.arraylength, 1) := by decide +kernel
theorem dX3_load_108 : decode cX3_load 108 = .ok (.if_icmp .ge 16, 3) := by decide +kernel
theorem dX3_load_111 : decode cX3_load 111 = .ok (.aload_n 0, 1) := by decide +kernel
theorem dX3_load_112 : decode cX3_load 112 = .ok (.getfield 45, 3) := by decide +kernel
theorem dX3_load_115 : decode cX3_load 115 = .ok (.iload_n 2, 1) := by decide +kernel
theorem dX3_load_116 : decode cX3_load 116 = .ok (.iconst 0, 1) := by decide +kernel
theorem dX3_load_117 : decode cX3_load 117 = .ok (.bastore, 1) := by decide +kernel
theorem dX3_load_118 : decode cX3_load 118 = .ok (.iinc 2 1, 3) := by decide +kernel
theorem dX3_load_121 : decode cX3_load 121 = .ok (.goto (-19), 3) := by decide +kernel
theorem dX3_load_124 : decode cX3_load 124 = .ok (.aload_n 0, 1) := by decide +kernel
theorem dX3_load_125 : decode cX3_load 125 = .ok (.getfield 20, 3) := by decide +kernel
theorem dX3_load_128 : decode cX3_load 128 = .ok (.getfield 113, 3) := by decide +kernel
theorem dX3_load_131 : decode cX3_load 131 = .ok (.ireturn, 1) := by decide +kernel
theorem dX3_year_0 : decode cX3_year 0 = .ok (.aload_n 0, 1) := by decide +kernel
theorem dX3_year_1 : decode cX3_year 1 = .ok (.getfield 20, 3) := by decide +kernel
theorem dX3_year_4 : decode cX3_year 4 = .ok (.getfield 116, 3) := by decide +kernel
theorem dX3_year_7 : decode cX3_year 7 = .ok (.ireturn, 1) := by decide +kernel
theorem dX3_month_0 : decode cX3_month 0 = .ok (.aload_n 0, 1) := by decide +kernel
theorem dX3_month_1 : decode cX3_month 1 = .ok (.getfield 20, 3) := by decide +kernel
theorem dX3_month_4 : decode cX3_month 4 = .ok (.getfield 119, 3) := by decide +kernel
theorem dX3_month_7 : decode cX3_month 7 = .ok (.invokestatic 122, 3) := by decide +kernel
theorem dX3_month_10 : decode cX3_month 10 = .ok (.ireturn, 1) := by decide +kernel
theorem dX3_dayOfMonth_0 : decode cX3_dayOfMonth 0 = .ok (.aload_n 0, 1) := by decide +kernel
theorem dX3_dayOfMonth_1 : decode cX3_dayOfMonth 1 = .ok (.getfield 20, 3) := by decide +kernel
theorem dX3_dayOfMonth_4 : decode cX3_dayOfMonth 4 = .ok (.getfield 119, 3) := by decide +kernel
theorem dX3_dayOfMonth_7 : decode cX3_dayOfMonth 7 = .ok (.invokestatic 126, 3) := by decide +kernel
theorem dX3_dayOfMonth_10 : decode cX3_dayOfMonth 10 = .ok (.ireturn, 1) := by decide +kernel
theorem dX3_seed_0 : decode cX3_seed 0 = .ok (.aload_n 0, 1) := by decide +kernel
theorem dX3_seed_1 : decode cX3_seed 1 = .ok (.getfield 20, 3) := by decide +kernel
theorem dX3_seed_4 : decode cX3_seed 4 = .ok (.getfield 129, 3) := by decide +kernel
theorem dX3_seed_7 : decode cX3_seed 7 = .ok (.ireturn, 1) := by decide +kernel
theorem dX3_nextDraw_0 : decode cX3_nextDraw 0 = .ok (.aload_n 0, 1) := by decide +kernel
theorem dX3_nextDraw_1 : decode cX3_nextDraw 1 = .ok (.getfield 20, 3) := by decide +kernel
theorem dX3_nextDraw_4 : decode cX3_nextDraw 4 = .ok (.getfield 129, 3) := by decide +kernel
theorem dX3_nextDraw_7 : decode cX3_nextDraw 7 = .ok (.invokestatic 132, 3) := by decide +kernel
theorem dX3_nextDraw_10 : decode cX3_nextDraw 10 = .ok (.sipush 360, 3) := by decide +kernel
theorem dX3_nextDraw_13 : decode cX3_nextDraw 13 = .ok (.irem, 1) := by decide +kernel
theorem dX3_nextDraw_14 : decode cX3_nextDraw 14 = .ok (.ireturn, 1) := by decide +kernel
theorem dX3_candles_0 : decode cX3_candles 0 = .ok (.aload_n 0, 1) := by decide +kernel
theorem dX3_candles_1 : decode cX3_candles 1 = .ok (.getfield 20, 3) := by decide +kernel
theorem dX3_candles_4 : decode cX3_candles 4 = .ok (.getfield 135, 3) := by decide +kernel
theorem dX3_candles_7 : decode cX3_candles 7 = .ok (.ireturn, 1) := by decide +kernel
theorem dX3_cakes_0 : decode cX3_cakes 0 = .ok (.iload_n 1, 1) := by decide +kernel
theorem dX3_cakes_1 : decode cX3_cakes 1 = .ok (.invokestatic 138, 3) := by decide +kernel
theorem dX3_cakes_4 : decode cX3_cakes 4 = .ok (.aload_n 0, 1) := by decide +kernel
theorem dX3_cakes_5 : decode cX3_cakes 5 = .ok (.getfield 20, 3) := by decide +kernel
theorem dX3_cakes_8 : decode cX3_cakes 8 = .ok (.getfield 141, 3) := by decide +kernel
theorem dX3_cakes_11 : decode cX3_cakes 11 = .ok (.iload_n 1, 1) := by decide +kernel
theorem dX3_cakes_12 : decode cX3_cakes 12 = .ok (.invokestatic 145, 3) := by decide +kernel
theorem dX3_cakes_15 : decode cX3_cakes 15 = .ok (.ireturn, 1) := by decide +kernel
theorem dX3_mostWantedCake_0 : decode cX3_mostWantedCake 0 = .ok (.iconst 0, 1) := by decide +kernel
theorem dX3_mostWantedCake_1 : decode cX3_mostWantedCake 1 = .ok (.istore_n 1, 1) := by decide +kernel
theorem dX3_mostWantedCake_2 : decode cX3_mostWantedCake 2 = .ok (.iconst 1, 1) := by decide +kernel
theorem dX3_mostWantedCake_3 : decode cX3_mostWantedCake 3 = .ok (.istore_n 2, 1) := by decide +kernel
theorem dX3_mostWantedCake_4 : decode cX3_mostWantedCake 4 = .ok (.iload_n 2, 1) := by decide +kernel
theorem dX3_mostWantedCake_5 : decode cX3_mostWantedCake 5 = .ok (.bipush 6, 2) := by decide +kernel
theorem dX3_mostWantedCake_7 : decode cX3_mostWantedCake 7 = .ok (.if_icmp .ge 30, 3) := by decide +kernel
theorem dX3_mostWantedCake_10 : decode cX3_mostWantedCake 10 = .ok (.aload_n 0, 1) := by decide +kernel
theorem dX3_mostWantedCake_11 : decode cX3_mostWantedCake 11 = .ok (.getfield 20, 3) := by decide +kernel
theorem dX3_mostWantedCake_14 : decode cX3_mostWantedCake 14 = .ok (.iload_n 2, 1) := by decide +kernel
theorem dX3_mostWantedCake_15 : decode cX3_mostWantedCake 15 = .ok (.invokevirtual 149, 3) := by decide +kernel
theorem dX3_mostWantedCake_18 : decode cX3_mostWantedCake 18 = .ok (.aload_n 0, 1) := by decide +kernel
theorem dX3_mostWantedCake_19 : decode cX3_mostWantedCake 19 = .ok (.getfield 20, 3) := by decide +kernel
theorem dX3_mostWantedCake_22 : decode cX3_mostWantedCake 22 = .ok (.iload_n 1, 1) := by decide +kernel
theorem dX3_mostWantedCake_23 : decode cX3_mostWantedCake 23 = .ok (.invokevirtual 149, 3) := by decide +kernel
theorem dX3_mostWantedCake_26 : decode cX3_mostWantedCake 26 = .ok (.if_icmp .le 5, 3) := by decide +kernel
theorem dX3_mostWantedCake_29 : decode cX3_mostWantedCake 29 = .ok (.iload_n 2, 1) := by decide +kernel
theorem dX3_mostWantedCake_30 : decode cX3_mostWantedCake 30 = .ok (.istore_n 1, 1) := by decide +kernel
theorem dX3_mostWantedCake_31 : decode cX3_mostWantedCake 31 = .ok (.iinc 2 1, 3) := by decide +kernel
theorem dX3_mostWantedCake_34 : decode cX3_mostWantedCake 34 = .ok (.goto (-30), 3) := by decide +kernel
theorem dX3_mostWantedCake_37 : decode cX3_mostWantedCake 37 = .ok (.iload_n 1, 1) := by decide +kernel
theorem dX3_mostWantedCake_38 : decode cX3_mostWantedCake 38 = .ok (.ireturn, 1) := by decide +kernel
theorem dX3_gardenCount_0 : decode cX3_gardenCount 0 = .ok (.aload_n 0, 1) := by decide +kernel
theorem dX3_gardenCount_1 : decode cX3_gardenCount 1 = .ok (.getfield 20, 3) := by decide +kernel
theorem dX3_gardenCount_4 : decode cX3_gardenCount 4 = .ok (.getfield 152, 3) := by decide +kernel
theorem dX3_gardenCount_7 : decode cX3_gardenCount 7 = .ok (.ireturn, 1) := by decide +kernel
theorem dX3_seatsOf_0 : decode cX3_seatsOf 0 = .ok (.aload_n 0, 1) := by decide +kernel
theorem dX3_seatsOf_1 : decode cX3_seatsOf 1 = .ok (.iload_n 1, 1) := by decide +kernel
theorem dX3_seatsOf_2 : decode cX3_seatsOf 2 = .ok (.invokevirtual 155, 3) := by decide +kernel
theorem dX3_seatsOf_5 : decode cX3_seatsOf 5 = .ok (.aload_n 0, 1) := by decide +kernel
theorem dX3_seatsOf_6 : decode cX3_seatsOf 6 = .ok (.getfield 20, 3) := by decide +kernel
theorem dX3_seatsOf_9 : decode cX3_seatsOf 9 = .ok (.getfield 158, 3) := by decide +kernel
theorem dX3_seatsOf_12 : decode cX3_seatsOf 12 = .ok (.iload_n 1, 1) := by decide +kernel
theorem dX3_seatsOf_13 : decode cX3_seatsOf 13 = .ok (.invokestatic 145, 3) := by decide +kernel
theorem dX3_seatsOf_16 : decode cX3_seatsOf 16 = .ok (.ireturn, 1) := by decide +kernel
theorem dX3_partyIn_0 : decode cX3_partyIn 0 = .ok (.aload_n 0, 1) := by decide +kernel
theorem dX3_partyIn_1 : decode cX3_partyIn 1 = .ok (.iload_n 1, 1) := by decide +kernel
theorem dX3_partyIn_2 : decode cX3_partyIn 2 = .ok (.invokevirtual 155, 3) := by decide +kernel
theorem dX3_partyIn_5 : decode cX3_partyIn 5 = .ok (.iload_n 2, 1) := by decide +kernel
theorem dX3_partyIn_6 : decode cX3_partyIn 6 = .ok (.iload_n 3, 1) := by decide +kernel
theorem dX3_partyIn_7 : decode cX3_partyIn 7 = .ok (.invokestatic 168, 3) := by decide +kernel
theorem dX3_partyIn_10 : decode cX3_partyIn 10 = .ok (.iload_n 2, 1) := by decide +kernel
theorem dX3_partyIn_11 : decode cX3_partyIn 11 = .ok (.iload_n 3, 1) := by decide +kernel
theorem dX3_partyIn_12 : decode cX3_partyIn 12 = .ok (.invokestatic 172, 3) := by decide +kernel
theorem dX3_partyIn_15 : decode cX3_partyIn 15 = .ok (.istore 4, 2) := by decide +kernel
theorem dX3_partyIn_17 : decode cX3_partyIn 17 = .ok (.iconst 0, 1) := by decide +kernel
theorem dX3_partyIn_18 : decode cX3_partyIn 18 = .ok (.istore 5, 2) := by decide +kernel
theorem dX3_partyIn_20 : decode cX3_partyIn 20 = .ok (.iload 5, 2) := by decide +kernel
theorem dX3_partyIn_22 : decode cX3_partyIn 22 = .ok (.aload_n 0, 1) := by decide +kernel
theorem dX3_partyIn_23 : decode cX3_partyIn 23 = .ok (.getfield 20, 3) := by decide +kernel
theorem dX3_partyIn_26 : decode cX3_partyIn 26 = .ok (.getfield 113, 3) := by decide +kernel
theorem dX3_partyIn_29 : decode cX3_partyIn 29 = .ok (.if_icmp .ge 45, 3) := by decide +kernel
theorem dX3_partyIn_32 : decode cX3_partyIn 32 = .ok (.aload_n 0, 1) := by decide +kernel
theorem dX3_partyIn_33 : decode cX3_partyIn 33 = .ok (.getfield 20, 3) := by decide +kernel
theorem dX3_partyIn_36 : decode cX3_partyIn 36 = .ok (.getfield 161, 3) := by decide +kernel
theorem dX3_partyIn_39 : decode cX3_partyIn 39 = .ok (.iload 5, 2) := by decide +kernel
theorem dX3_partyIn_41 : decode cX3_partyIn 41 = .ok (.invokestatic 145, 3) := by decide +kernel
theorem dX3_partyIn_44 : decode cX3_partyIn 44 = .ok (.iload_n 1, 1) := by decide +kernel
theorem dX3_partyIn_45 : decode cX3_partyIn 45 = .ok (.if_icmp .ne 23, 3) := by decide +kernel
theorem dX3_partyIn_48 : decode cX3_partyIn 48 = .ok (.aload_n 0, 1) := by decide +kernel
theorem dX3_partyIn_49 : decode cX3_partyIn 49 = .ok (.getfield 20, 3) := by decide +kernel
theorem dX3_partyIn_52 : decode cX3_partyIn 52 = .ok (.getfield 176, 3) := by decide +kernel
theorem dX3_partyIn_55 : decode cX3_partyIn 55 = .ok (.iload 5, 2) := by decide +kernel
theorem dX3_partyIn_57 : decode cX3_partyIn 57 = .ok (.invokestatic 145, 3) := by decide +kernel
theorem dX3_partyIn_60 : decode cX3_partyIn 60 = .ok (.iload 4, 2) := by decide +kernel
theorem dX3_partyIn_62 : decode cX3_partyIn 62 = .ok (.if_icmp .ne 6, 3) := by decide +kernel
theorem dX3_partyIn_65 : decode cX3_partyIn 65 = .ok (.iload 5, 2) := by decide +kernel
theorem dX3_partyIn_67 : decode cX3_partyIn 67 = .ok (.ireturn, 1) := by decide +kernel
theorem dX3_partyIn_68 : decode cX3_partyIn 68 = .ok (.iinc 5 1, 3) := by decide +kernel
theorem dX3_partyIn_71 : decode cX3_partyIn 71 = .ok (.goto (-51), 3) := by decide +kernel
theorem dX3_partyIn_74 : decode cX3_partyIn 74 = .ok (.iconst (-1), 1) := by decide +kernel
theorem dX3_partyIn_75 : decode cX3_partyIn 75 = .ok (.ireturn, 1) := by decide +kernel
theorem dX3_childCount_0 : decode cX3_childCount 0 = .ok (.aload_n 0, 1) := by decide +kernel
theorem dX3_childCount_1 : decode cX3_childCount 1 = .ok (.getfield 20, 3) := by decide +kernel
theorem dX3_childCount_4 : decode cX3_childCount 4 = .ok (.getfield 113, 3) := by decide +kernel
theorem dX3_childCount_7 : decode cX3_childCount 7 = .ok (.ireturn, 1) := by decide +kernel
theorem dX3_cakeOf_0 : decode cX3_cakeOf 0 = .ok (.aload_n 0, 1) := by decide +kernel
theorem dX3_cakeOf_1 : decode cX3_cakeOf 1 = .ok (.iload_n 1, 1) := by decide +kernel
theorem dX3_cakeOf_2 : decode cX3_cakeOf 2 = .ok (.invokevirtual 179, 3) := by decide +kernel
theorem dX3_cakeOf_5 : decode cX3_cakeOf 5 = .ok (.aload_n 0, 1) := by decide +kernel
theorem dX3_cakeOf_6 : decode cX3_cakeOf 6 = .ok (.getfield 20, 3) := by decide +kernel
theorem dX3_cakeOf_9 : decode cX3_cakeOf 9 = .ok (.getfield 182, 3) := by decide +kernel
theorem dX3_cakeOf_12 : decode cX3_cakeOf 12 = .ok (.iload_n 1, 1) := by decide +kernel
theorem dX3_cakeOf_13 : decode cX3_cakeOf 13 = .ok (.invokestatic 145, 3) := by decide +kernel
theorem dX3_cakeOf_16 : decode cX3_cakeOf 16 = .ok (.ireturn, 1) := by decide +kernel
theorem dX3_breathOf_0 : decode cX3_breathOf 0 = .ok (.aload_n 0, 1) := by decide +kernel
theorem dX3_breathOf_1 : decode cX3_breathOf 1 = .ok (.iload_n 1, 1) := by decide +kernel
theorem dX3_breathOf_2 : decode cX3_breathOf 2 = .ok (.invokevirtual 179, 3) := by decide +kernel
theorem dX3_breathOf_5 : decode cX3_breathOf 5 = .ok (.aload_n 0, 1) := by decide +kernel
theorem dX3_breathOf_6 : decode cX3_breathOf 6 = .ok (.getfield 20, 3) := by decide +kernel
theorem dX3_breathOf_9 : decode cX3_breathOf 9 = .ok (.getfield 185, 3) := by decide +kernel
theorem dX3_breathOf_12 : decode cX3_breathOf 12 = .ok (.iload_n 1, 1) := by decide +kernel
theorem dX3_breathOf_13 : decode cX3_breathOf 13 = .ok (.invokestatic 145, 3) := by decide +kernel
theorem dX3_breathOf_16 : decode cX3_breathOf 16 = .ok (.ireturn, 1) := by decide +kernel
theorem dX3_ageOf_0 : decode cX3_ageOf 0 = .ok (.aload_n 0, 1) := by decide +kernel
theorem dX3_ageOf_1 : decode cX3_ageOf 1 = .ok (.iload_n 1, 1) := by decide +kernel
theorem dX3_ageOf_2 : decode cX3_ageOf 2 = .ok (.invokevirtual 179, 3) := by decide +kernel
theorem dX3_ageOf_5 : decode cX3_ageOf 5 = .ok (.aload_n 0, 1) := by decide +kernel
theorem dX3_ageOf_6 : decode cX3_ageOf 6 = .ok (.getfield 20, 3) := by decide +kernel
theorem dX3_ageOf_9 : decode cX3_ageOf 9 = .ok (.getfield 188, 3) := by decide +kernel
theorem dX3_ageOf_12 : decode cX3_ageOf 12 = .ok (.iload_n 1, 1) := by decide +kernel
theorem dX3_ageOf_13 : decode cX3_ageOf 13 = .ok (.invokestatic 145, 3) := by decide +kernel
theorem dX3_ageOf_16 : decode cX3_ageOf 16 = .ok (.ireturn, 1) := by decide +kernel
theorem dX3_gardenOf_0 : decode cX3_gardenOf 0 = .ok (.aload_n 0, 1) := by decide +kernel
theorem dX3_gardenOf_1 : decode cX3_gardenOf 1 = .ok (.iload_n 1, 1) := by decide +kernel
theorem dX3_gardenOf_2 : decode cX3_gardenOf 2 = .ok (.invokevirtual 179, 3) := by decide +kernel
theorem dX3_gardenOf_5 : decode cX3_gardenOf 5 = .ok (.aload_n 0, 1) := by decide +kernel
theorem dX3_gardenOf_6 : decode cX3_gardenOf 6 = .ok (.getfield 20, 3) := by decide +kernel
theorem dX3_gardenOf_9 : decode cX3_gardenOf 9 = .ok (.getfield 161, 3) := by decide +kernel
theorem dX3_gardenOf_12 : decode cX3_gardenOf 12 = .ok (.iload_n 1, 1) := by decide +kernel
theorem dX3_gardenOf_13 : decode cX3_gardenOf 13 = .ok (.invokestatic 145, 3) := by decide +kernel
theorem dX3_gardenOf_16 : decode cX3_gardenOf 16 = .ok (.ireturn, 1) := by decide +kernel
theorem dX3_birthdayOf_0 : decode cX3_birthdayOf 0 = .ok (.aload_n 0, 1) := by decide +kernel
theorem dX3_birthdayOf_1 : decode cX3_birthdayOf 1 = .ok (.iload_n 1, 1) := by decide +kernel
theorem dX3_birthdayOf_2 : decode cX3_birthdayOf 2 = .ok (.invokevirtual 179, 3) := by decide +kernel
theorem dX3_birthdayOf_5 : decode cX3_birthdayOf 5 = .ok (.aload_n 0, 1) := by decide +kernel
theorem dX3_birthdayOf_6 : decode cX3_birthdayOf 6 = .ok (.getfield 20, 3) := by decide +kernel
theorem dX3_birthdayOf_9 : decode cX3_birthdayOf 9 = .ok (.getfield 176, 3) := by decide +kernel
theorem dX3_birthdayOf_12 : decode cX3_birthdayOf 12 = .ok (.iload_n 1, 1) := by decide +kernel
theorem dX3_birthdayOf_13 : decode cX3_birthdayOf 13 = .ok (.invokestatic 145, 3) := by decide +kernel
theorem dX3_birthdayOf_16 : decode cX3_birthdayOf 16 = .ok (.ireturn, 1) := by decide +kernel
theorem dX3_daysUntilBirthday_0 : decode cX3_daysUntilBirthday 0 = .ok (.aload_n 0, 1) := by decide +kernel
theorem dX3_daysUntilBirthday_1 : decode cX3_daysUntilBirthday 1 = .ok (.iload_n 1, 1) := by decide +kernel
theorem dX3_daysUntilBirthday_2 : decode cX3_daysUntilBirthday 2 = .ok (.invokevirtual 179, 3) := by decide +kernel
theorem dX3_daysUntilBirthday_5 : decode cX3_daysUntilBirthday 5 = .ok (.aload_n 0, 1) := by decide +kernel
theorem dX3_daysUntilBirthday_6 : decode cX3_daysUntilBirthday 6 = .ok (.getfield 20, 3) := by decide +kernel
theorem dX3_daysUntilBirthday_9 : decode cX3_daysUntilBirthday 9 = .ok (.getfield 176, 3) := by decide +kernel
theorem dX3_daysUntilBirthday_12 : decode cX3_daysUntilBirthday 12 = .ok (.iload_n 1, 1) := by decide +kernel
theorem dX3_daysUntilBirthday_13 : decode cX3_daysUntilBirthday 13 = .ok (.invokestatic 145, 3) := by decide +kernel
theorem dX3_daysUntilBirthday_16 : decode cX3_daysUntilBirthday 16 = .ok (.istore_n 2, 1) := by decide +kernel
theorem dX3_daysUntilBirthday_17 : decode cX3_daysUntilBirthday 17 = .ok (.iload_n 2, 1) := by decide +kernel
theorem dX3_daysUntilBirthday_18 : decode cX3_daysUntilBirthday 18 = .ok (.iconst (-1), 1) := by decide +kernel
theorem dX3_daysUntilBirthday_19 : decode cX3_daysUntilBirthday 19 = .ok (.if_icmp .ne 7, 3) := by decide +kernel
theorem dX3_daysUntilBirthday_22 : decode cX3_daysUntilBirthday 22 = .ok (.iconst (-1), 1) := by decide +kernel
theorem dX3_daysUntilBirthday_23 : decode cX3_daysUntilBirthday 23 = .ok (.goto 11, 3) := by decide +kernel
theorem dX3_daysUntilBirthday_26 : decode cX3_daysUntilBirthday 26 = .ok (.aload_n 0, 1) := by decide +kernel
theorem dX3_daysUntilBirthday_27 : decode cX3_daysUntilBirthday 27 = .ok (.getfield 20, 3) := by decide +kernel
theorem dX3_daysUntilBirthday_30 : decode cX3_daysUntilBirthday 30 = .ok (.iload_n 2, 1) := by decide +kernel
theorem dX3_daysUntilBirthday_31 : decode cX3_daysUntilBirthday 31 = .ok (.invokevirtual 191, 3) := by decide +kernel
theorem dX3_daysUntilBirthday_34 : decode cX3_daysUntilBirthday 34 = .ok (.ireturn, 1) := by decide +kernel
theorem dX3_partiesOf_0 : decode cX3_partiesOf 0 = .ok (.aload_n 0, 1) := by decide +kernel
theorem dX3_partiesOf_1 : decode cX3_partiesOf 1 = .ok (.iload_n 1, 1) := by decide +kernel
theorem dX3_partiesOf_2 : decode cX3_partiesOf 2 = .ok (.invokevirtual 179, 3) := by decide +kernel
theorem dX3_partiesOf_5 : decode cX3_partiesOf 5 = .ok (.aload_n 0, 1) := by decide +kernel
theorem dX3_partiesOf_6 : decode cX3_partiesOf 6 = .ok (.getfield 20, 3) := by decide +kernel
theorem dX3_partiesOf_9 : decode cX3_partiesOf 9 = .ok (.getfield 194, 3) := by decide +kernel
theorem dX3_partiesOf_12 : decode cX3_partiesOf 12 = .ok (.iload_n 1, 1) := by decide +kernel
theorem dX3_partiesOf_13 : decode cX3_partiesOf 13 = .ok (.invokestatic 145, 3) := by decide +kernel
theorem dX3_partiesOf_16 : decode cX3_partiesOf 16 = .ok (.ireturn, 1) := by decide +kernel
theorem dX3_wishesOf_0 : decode cX3_wishesOf 0 = .ok (.aload_n 0, 1) := by decide +kernel
theorem dX3_wishesOf_1 : decode cX3_wishesOf 1 = .ok (.iload_n 1, 1) := by decide +kernel
theorem dX3_wishesOf_2 : decode cX3_wishesOf 2 = .ok (.invokevirtual 179, 3) := by decide +kernel
theorem dX3_wishesOf_5 : decode cX3_wishesOf 5 = .ok (.aload_n 0, 1) := by decide +kernel
theorem dX3_wishesOf_6 : decode cX3_wishesOf 6 = .ok (.getfield 20, 3) := by decide +kernel
theorem dX3_wishesOf_9 : decode cX3_wishesOf 9 = .ok (.getfield 197, 3) := by decide +kernel
theorem dX3_wishesOf_12 : decode cX3_wishesOf 12 = .ok (.iload_n 1, 1) := by decide +kernel
theorem dX3_wishesOf_13 : decode cX3_wishesOf 13 = .ok (.invokestatic 145, 3) := by decide +kernel
theorem dX3_wishesOf_16 : decode cX3_wishesOf 16 = .ok (.ireturn, 1) := by decide +kernel
theorem dX3_strengthOf_0 : decode cX3_strengthOf 0 = .ok (.aload_n 0, 1) := by decide +kernel
theorem dX3_strengthOf_1 : decode cX3_strengthOf 1 = .ok (.iload_n 1, 1) := by decide +kernel
theorem dX3_strengthOf_2 : decode cX3_strengthOf 2 = .ok (.invokevirtual 179, 3) := by decide +kernel
theorem dX3_strengthOf_5 : decode cX3_strengthOf 5 = .ok (.aload_n 0, 1) := by decide +kernel
theorem dX3_strengthOf_6 : decode cX3_strengthOf 6 = .ok (.getfield 20, 3) := by decide +kernel
theorem dX3_strengthOf_9 : decode cX3_strengthOf 9 = .ok (.iload_n 1, 1) := by decide +kernel
theorem dX3_strengthOf_10 : decode cX3_strengthOf 10 = .ok (.aload_n 0, 1) := by decide +kernel
theorem dX3_strengthOf_11 : decode cX3_strengthOf 11 = .ok (.getfield 20, 3) := by decide +kernel
theorem dX3_strengthOf_14 : decode cX3_strengthOf 14 = .ok (.getfield 182, 3) := by decide +kernel
theorem dX3_strengthOf_17 : decode cX3_strengthOf 17 = .ok (.iload_n 1, 1) := by decide +kernel
theorem dX3_strengthOf_18 : decode cX3_strengthOf 18 = .ok (.invokestatic 145, 3) := by decide +kernel
theorem dX3_strengthOf_21 : decode cX3_strengthOf 21 = .ok (.invokevirtual 200, 3) := by decide +kernel
theorem dX3_strengthOf_24 : decode cX3_strengthOf 24 = .ok (.ireturn, 1) := by decide +kernel
theorem dX3_nextChild_0 : decode cX3_nextChild 0 = .ok (.iconst (-1), 1) := by decide +kernel
theorem dX3_nextChild_1 : decode cX3_nextChild 1 = .ok (.istore_n 1, 1) := by decide +kernel
theorem dX3_nextChild_2 : decode cX3_nextChild 2 = .ok (.sipush 361, 3) := by decide +kernel
theorem dX3_nextChild_5 : decode cX3_nextChild 5 = .ok (.istore_n 2, 1) := by decide +kernel
theorem dX3_nextChild_6 : decode cX3_nextChild 6 = .ok (.iconst 0, 1) := by decide +kernel
theorem dX3_nextChild_7 : decode cX3_nextChild 7 = .ok (.istore_n 3, 1) := by decide +kernel
theorem dX3_nextChild_8 : decode cX3_nextChild 8 = .ok (.iload_n 3, 1) := by decide +kernel
theorem dX3_nextChild_9 : decode cX3_nextChild 9 = .ok (.aload_n 0, 1) := by decide +kernel
theorem dX3_nextChild_10 : decode cX3_nextChild 10 = .ok (.getfield 20, 3) := by decide +kernel
theorem dX3_nextChild_13 : decode cX3_nextChild 13 = .ok (.getfield 113, 3) := by decide +kernel
theorem dX3_nextChild_16 : decode cX3_nextChild 16 = .ok (.if_icmp .ge 53, 3) := by decide +kernel
theorem dX3_nextChild_19 : decode cX3_nextChild 19 = .ok (.aload_n 0, 1) := by decide +kernel
theorem dX3_nextChild_20 : decode cX3_nextChild 20 = .ok (.getfield 20, 3) := by decide +kernel
theorem dX3_nextChild_23 : decode cX3_nextChild 23 = .ok (.getfield 176, 3) := by decide +kernel
theorem dX3_nextChild_26 : decode cX3_nextChild 26 = .ok (.iload_n 3, 1) := by decide +kernel
theorem dX3_nextChild_27 : decode cX3_nextChild 27 = .ok (.invokestatic 145, 3) := by decide +kernel
theorem dX3_nextChild_30 : decode cX3_nextChild 30 = .ok (.istore 4, 2) := by decide +kernel
theorem dX3_nextChild_32 : decode cX3_nextChild 32 = .ok (.iload 4, 2) := by decide +kernel
theorem dX3_nextChild_34 : decode cX3_nextChild 34 = .ok (.iconst (-1), 1) := by decide +kernel
theorem dX3_nextChild_35 : decode cX3_nextChild 35 = .ok (.if_icmp .eq 28, 3) := by decide +kernel
theorem dX3_nextChild_38 : decode cX3_nextChild 38 = .ok (.aload_n 0, 1) := by decide +kernel
theorem dX3_nextChild_39 : decode cX3_nextChild 39 = .ok (.getfield 20, 3) := by decide +kernel
theorem dX3_nextChild_42 : decode cX3_nextChild 42 = .ok (.iload 4, 2) := by decide +kernel
theorem dX3_nextChild_44 : decode cX3_nextChild 44 = .ok (.invokevirtual 191, 3) := by decide +kernel
theorem dX3_nextChild_47 : decode cX3_nextChild 47 = .ok (.iload_n 2, 1) := by decide +kernel
theorem dX3_nextChild_48 : decode cX3_nextChild 48 = .ok (.if_icmp .ge 15, 3) := by decide +kernel
theorem dX3_nextChild_51 : decode cX3_nextChild 51 = .ok (.iload_n 3, 1) := by decide +kernel
theorem dX3_nextChild_52 : decode cX3_nextChild 52 = .ok (.istore_n 1, 1) := by decide +kernel
theorem dX3_nextChild_53 : decode cX3_nextChild 53 = .ok (.aload_n 0, 1) := by decide +kernel
theorem dX3_nextChild_54 : decode cX3_nextChild 54 = .ok (.getfield 20, 3) := by decide +kernel
theorem dX3_nextChild_57 : decode cX3_nextChild 57 = .ok (.iload 4, 2) := by decide +kernel
theorem dX3_nextChild_59 : decode cX3_nextChild 59 = .ok (.invokevirtual 191, 3) := by decide +kernel
theorem dX3_nextChild_62 : decode cX3_nextChild 62 = .ok (.istore_n 2, 1) := by decide +kernel
theorem dX3_nextChild_63 : decode cX3_nextChild 63 = .ok (.iinc 3 1, 3) := by decide +kernel
theorem dX3_nextChild_66 : decode cX3_nextChild 66 = .ok (.goto (-58), 3) := by decide +kernel
theorem dX3_nextChild_69 : decode cX3_nextChild 69 = .ok (.iload_n 1, 1) := by decide +kernel
theorem dX3_nextChild_70 : decode cX3_nextChild 70 = .ok (.ireturn, 1) := by decide +kernel
theorem dX3_childrenOn_0 : decode cX3_childrenOn 0 = .ok (.iload_n 1, 1) := by decide +kernel
theorem dX3_childrenOn_1 : decode cX3_childrenOn 1 = .ok (.iload_n 2, 1) := by decide +kernel
theorem dX3_childrenOn_2 : decode cX3_childrenOn 2 = .ok (.invokestatic 168, 3) := by decide +kernel
theorem dX3_childrenOn_5 : decode cX3_childrenOn 5 = .ok (.iload_n 1, 1) := by decide +kernel
theorem dX3_childrenOn_6 : decode cX3_childrenOn 6 = .ok (.iload_n 2, 1) := by decide +kernel
theorem dX3_childrenOn_7 : decode cX3_childrenOn 7 = .ok (.invokestatic 172, 3) := by decide +kernel
theorem dX3_childrenOn_10 : decode cX3_childrenOn 10 = .ok (.aload_n 0, 1) := by decide +kernel
theorem dX3_childrenOn_11 : decode cX3_childrenOn 11 = .ok (.getfield 20, 3) := by decide +kernel
theorem dX3_childrenOn_14 : decode cX3_childrenOn 14 = .ok (.getfield 176, 3) := by decide +kernel
theorem dX3_childrenOn_17 : decode cX3_childrenOn 17 = .ok (.aload_n 0, 1) := by decide +kernel
theorem dX3_childrenOn_18 : decode cX3_childrenOn 18 = .ok (.getfield 20, 3) := by decide +kernel
theorem dX3_childrenOn_21 : decode cX3_childrenOn 21 = .ok (.getfield 113, 3) := by decide +kernel
theorem dX3_childrenOn_24 : decode cX3_childrenOn 24 = .ok (.invokestatic 164, 3) := by decide +kernel
theorem dX3_childrenOn_27 : decode cX3_childrenOn 27 = .ok (.ireturn, 1) := by decide +kernel
theorem dX3_differentDates_0 : decode cX3_differentDates 0 = .ok (.iconst 0, 1) := by decide +kernel
theorem dX3_differentDates_1 : decode cX3_differentDates 1 = .ok (.istore_n 1, 1) := by decide +kernel
theorem dX3_differentDates_2 : decode cX3_differentDates 2 = .ok (.iconst 0, 1) := by decide +kernel
theorem dX3_differentDates_3 : decode cX3_differentDates 3 = .ok (.istore_n 2, 1) := by decide +kernel
theorem dX3_differentDates_4 : decode cX3_differentDates 4 = .ok (.iload_n 2, 1) := by decide +kernel
theorem dX3_differentDates_5 : decode cX3_differentDates 5 = .ok (.aload_n 0, 1) := by decide +kernel
theorem dX3_differentDates_6 : decode cX3_differentDates 6 = .ok (.getfield 20, 3) := by decide +kernel
theorem dX3_differentDates_9 : decode cX3_differentDates 9 = .ok (.getfield 113, 3) := by decide +kernel
theorem dX3_differentDates_12 : decode cX3_differentDates 12 = .ok (.if_icmp .ge 20, 3) := by decide +kernel
theorem dX3_differentDates_15 : decode cX3_differentDates 15 = .ok (.aload_n 0, 1) := by decide +kernel
theorem dX3_differentDates_16 : decode cX3_differentDates 16 = .ok (.iload_n 2, 1) := by decide +kernel
theorem dX3_differentDates_17 : decode cX3_differentDates 17 = .ok (.invokevirtual 203, 3) := by decide +kernel
theorem dX3_differentDates_20 : decode cX3_differentDates 20 = .ok (.ifCond .eq 6, 3) := by decide +kernel
theorem dX3_differentDates_23 : decode cX3_differentDates 23 = .ok (.iinc 1 1, 3) := by decide +kernel
theorem dX3_differentDates_26 : decode cX3_differentDates 26 = .ok (.iinc 2 1, 3) := by decide +kernel
theorem dX3_differentDates_29 : decode cX3_differentDates 29 = .ok (.goto (-25), 3) := by decide +kernel
theorem dX3_differentDates_32 : decode cX3_differentDates 32 = .ok (.iload_n 1, 1) := by decide +kernel
theorem dX3_differentDates_33 : decode cX3_differentDates 33 = .ok (.ireturn, 1) := by decide +kernel
theorem dX3_dateAt_0 : decode cX3_dateAt 0 = .ok (.iconst 0, 1) := by decide +kernel
theorem dX3_dateAt_1 : decode cX3_dateAt 1 = .ok (.istore_n 2, 1) := by decide +kernel
theorem dX3_dateAt_2 : decode cX3_dateAt 2 = .ok (.iconst 0, 1) := by decide +kernel
theorem dX3_dateAt_3 : decode cX3_dateAt 3 = .ok (.istore_n 3, 1) := by decide +kernel
theorem dX3_dateAt_4 : decode cX3_dateAt 4 = .ok (.iload_n 3, 1) := by decide +kernel
theorem dX3_dateAt_5 : decode cX3_dateAt 5 = .ok (.aload_n 0, 1) := by decide +kernel
theorem dX3_dateAt_6 : decode cX3_dateAt 6 = .ok (.getfield 20, 3) := by decide +kernel
theorem dX3_dateAt_9 : decode cX3_dateAt 9 = .ok (.getfield 113, 3) := by decide +kernel
theorem dX3_dateAt_12 : decode cX3_dateAt 12 = .ok (.if_icmp .ge 37, 3) := by decide +kernel
theorem dX3_dateAt_15 : decode cX3_dateAt 15 = .ok (.aload_n 0, 1) := by decide +kernel
theorem dX3_dateAt_16 : decode cX3_dateAt 16 = .ok (.iload_n 3, 1) := by decide +kernel
theorem dX3_dateAt_17 : decode cX3_dateAt 17 = .ok (.invokevirtual 203, 3) := by decide +kernel
theorem dX3_dateAt_20 : decode cX3_dateAt 20 = .ok (.ifCond .eq 23, 3) := by decide +kernel
theorem dX3_dateAt_23 : decode cX3_dateAt 23 = .ok (.iload_n 2, 1) := by decide +kernel
theorem dX3_dateAt_24 : decode cX3_dateAt 24 = .ok (.iload_n 1, 1) := by decide +kernel
theorem dX3_dateAt_25 : decode cX3_dateAt 25 = .ok (.if_icmp .ne 15, 3) := by decide +kernel
theorem dX3_dateAt_28 : decode cX3_dateAt 28 = .ok (.aload_n 0, 1) := by decide +kernel
theorem dX3_dateAt_29 : decode cX3_dateAt 29 = .ok (.getfield 20, 3) := by decide +kernel
theorem dX3_dateAt_32 : decode cX3_dateAt 32 = .ok (.getfield 176, 3) := by decide +kernel
theorem dX3_dateAt_35 : decode cX3_dateAt 35 = .ok (.iload_n 3, 1) := by decide +kernel
theorem dX3_dateAt_36 : decode cX3_dateAt 36 = .ok (.invokestatic 145, 3) := by decide +kernel
theorem dX3_dateAt_39 : decode cX3_dateAt 39 = .ok (.ireturn, 1) := by decide +kernel
theorem dX3_dateAt_40 : decode cX3_dateAt 40 = .ok (.iinc 2 1, 3) := by decide +kernel
theorem dX3_dateAt_43 : decode cX3_dateAt 43 = .ok (.iinc 3 1, 3) := by decide +kernel
theorem dX3_dateAt_46 : decode cX3_dateAt 46 = .ok (.goto (-42), 3) := by decide +kernel
theorem dX3_dateAt_49 : decode cX3_dateAt 49 = .ok (.new 91, 3) := by decide +kernel
theorem dX3_dateAt_52 : decode cX3_dateAt 52 = .ok (.dup, 1) := by decide +kernel
theorem dX3_dateAt_53 : decode cX3_dateAt 53 = .ok (.ldc 207, 2) := by decide +kernel
theorem dX3_dateAt_55 : decode cX3_dateAt 55 = .ok (.invokespecial 95, 3) := by decide +kernel
theorem dX3_dateAt_58 : decode cX3_dateAt 58 = .ok (.athrow, 1) := by decide +kernel
theorem dX3_isFirstWithItsDate_0 : decode cX3_isFirstWithItsDate 0 = .ok (.aload_n 0, 1) := by decide +kernel
theorem dX3_isFirstWithItsDate_1 : decode cX3_isFirstWithItsDate 1 = .ok (.getfield 20, 3) := by decide +kernel
theorem dX3_isFirstWithItsDate_4 : decode cX3_isFirstWithItsDate 4 = .ok (.getfield 176, 3) := by decide +kernel
theorem dX3_isFirstWithItsDate_7 : decode cX3_isFirstWithItsDate 7 = .ok (.iload_n 1, 1) := by decide +kernel
theorem dX3_isFirstWithItsDate_8 : decode cX3_isFirstWithItsDate 8 = .ok (.invokestatic 145, 3) := by decide +kernel
theorem dX3_isFirstWithItsDate_11 : decode cX3_isFirstWithItsDate 11 = .ok (.istore_n 2, 1) := by decide +kernel
theorem dX3_isFirstWithItsDate_12 : decode cX3_isFirstWithItsDate 12 = .ok (.iconst 0, 1) := by decide +kernel
theorem dX3_isFirstWithItsDate_13 : decode cX3_isFirstWithItsDate 13 = .ok (.istore_n 3, 1) := by decide +kernel
theorem dX3_isFirstWithItsDate_14 : decode cX3_isFirstWithItsDate 14 = .ok (.iload_n 3, 1) := by decide +kernel
theorem dX3_isFirstWithItsDate_15 : decode cX3_isFirstWithItsDate 15 = .ok (.iload_n 1, 1) := by decide +kernel
theorem dX3_isFirstWithItsDate_16 : decode cX3_isFirstWithItsDate 16 = .ok (.if_icmp .ge 26, 3) := by decide +kernel
theorem dX3_isFirstWithItsDate_19 : decode cX3_isFirstWithItsDate 19 = .ok (.aload_n 0, 1) := by decide +kernel
theorem dX3_isFirstWithItsDate_20 : decode cX3_isFirstWithItsDate 20 = .ok (.getfield 20, 3) := by decide +kernel
theorem dX3_isFirstWithItsDate_23 : decode cX3_isFirstWithItsDate 23 = .ok (.getfield 176, 3) := by decide +kernel
theorem dX3_isFirstWithItsDate_26 : decode cX3_isFirstWithItsDate 26 = .ok (.iload_n 3, 1) := by decide +kernel
theorem dX3_isFirstWithItsDate_27 : decode cX3_isFirstWithItsDate 27 = .ok (.invokestatic 145, 3) := by decide +kernel
theorem dX3_isFirstWithItsDate_30 : decode cX3_isFirstWithItsDate 30 = .ok (.iload_n 2, 1) := by decide +kernel
theorem dX3_isFirstWithItsDate_31 : decode cX3_isFirstWithItsDate 31 = .ok (.if_icmp .ne 5, 3) := by decide +kernel
theorem dX3_isFirstWithItsDate_34 : decode cX3_isFirstWithItsDate 34 = .ok (.iconst 0, 1) := by decide +kernel
theorem dX3_isFirstWithItsDate_35 : decode cX3_isFirstWithItsDate 35 = .ok (.ireturn, 1) := by decide +kernel
theorem dX3_isFirstWithItsDate_36 : decode cX3_isFirstWithItsDate 36 = .ok (.iinc 3 1, 3) := by decide +kernel
theorem dX3_isFirstWithItsDate_39 : decode cX3_isFirstWithItsDate 39 = .ok (.goto (-25), 3) := by decide +kernel
theorem dX3_isFirstWithItsDate_42 : decode cX3_isFirstWithItsDate 42 = .ok (.iload_n 2, 1) := by decide +kernel
theorem dX3_isFirstWithItsDate_43 : decode cX3_isFirstWithItsDate 43 = .ok (.iconst (-1), 1) := by decide +kernel
theorem dX3_isFirstWithItsDate_44 : decode cX3_isFirstWithItsDate 44 = .ok (.if_icmp .eq 7, 3) := by decide +kernel
theorem dX3_isFirstWithItsDate_47 : decode cX3_isFirstWithItsDate 47 = .ok (.iconst 1, 1) := by decide +kernel
theorem dX3_isFirstWithItsDate_48 : decode cX3_isFirstWithItsDate 48 = .ok (.goto 4, 3) := by decide +kernel
theorem dX3_isFirstWithItsDate_51 : decode cX3_isFirstWithItsDate 51 = .ok (.iconst 0, 1) := by decide +kernel
theorem dX3_isFirstWithItsDate_52 : decode cX3_isFirstWithItsDate 52 = .ok (.ireturn, 1) := by decide +kernel
theorem dX3_busiestMonth_0 : decode cX3_busiestMonth 0 = .ok (.iconst (-1), 1) := by decide +kernel
theorem dX3_busiestMonth_1 : decode cX3_busiestMonth 1 = .ok (.istore_n 1, 1) := by decide +kernel
theorem dX3_busiestMonth_2 : decode cX3_busiestMonth 2 = .ok (.iconst 0, 1) := by decide +kernel
theorem dX3_busiestMonth_3 : decode cX3_busiestMonth 3 = .ok (.istore_n 2, 1) := by decide +kernel
theorem dX3_busiestMonth_4 : decode cX3_busiestMonth 4 = .ok (.iconst 1, 1) := by decide +kernel
theorem dX3_busiestMonth_5 : decode cX3_busiestMonth 5 = .ok (.istore_n 3, 1) := by decide +kernel
theorem dX3_busiestMonth_6 : decode cX3_busiestMonth 6 = .ok (.iload_n 3, 1) := by decide +kernel
theorem dX3_busiestMonth_7 : decode cX3_busiestMonth 7 = .ok (.bipush 12, 2) := by decide +kernel
theorem dX3_busiestMonth_9 : decode cX3_busiestMonth 9 = .ok (.if_icmp .gt 27, 3) := by decide +kernel
theorem dX3_busiestMonth_12 : decode cX3_busiestMonth 12 = .ok (.aload_n 0, 1) := by decide +kernel
theorem dX3_busiestMonth_13 : decode cX3_busiestMonth 13 = .ok (.iload_n 3, 1) := by decide +kernel
theorem dX3_busiestMonth_14 : decode cX3_busiestMonth 14 = .ok (.invokevirtual 209, 3) := by decide +kernel
theorem dX3_busiestMonth_17 : decode cX3_busiestMonth 17 = .ok (.istore 4, 2) := by decide +kernel
theorem dX3_busiestMonth_19 : decode cX3_busiestMonth 19 = .ok (.iload 4, 2) := by decide +kernel
theorem dX3_busiestMonth_21 : decode cX3_busiestMonth 21 = .ok (.iload_n 2, 1) := by decide +kernel
theorem dX3_busiestMonth_22 : decode cX3_busiestMonth 22 = .ok (.if_icmp .le 8, 3) := by decide +kernel
theorem dX3_busiestMonth_25 : decode cX3_busiestMonth 25 = .ok (.iload_n 3, 1) := by decide +kernel
theorem dX3_busiestMonth_26 : decode cX3_busiestMonth 26 = .ok (.istore_n 1, 1) := by decide +kernel
theorem dX3_busiestMonth_27 : decode cX3_busiestMonth 27 = .ok (.iload 4, 2) := by decide +kernel
theorem dX3_busiestMonth_29 : decode cX3_busiestMonth 29 = .ok (.istore_n 2, 1) := by decide +kernel
theorem dX3_busiestMonth_30 : decode cX3_busiestMonth 30 = .ok (.iinc 3 1, 3) := by decide +kernel
theorem dX3_busiestMonth_33 : decode cX3_busiestMonth 33 = .ok (.goto (-27), 3) := by decide +kernel
theorem dX3_busiestMonth_36 : decode cX3_busiestMonth 36 = .ok (.iload_n 1, 1) := by decide +kernel
theorem dX3_busiestMonth_37 : decode cX3_busiestMonth 37 = .ok (.ireturn, 1) := by decide +kernel
theorem dX3_countBirthdaysIn_0 : decode cX3_countBirthdaysIn 0 = .ok (.iconst 0, 1) := by decide +kernel
theorem dX3_countBirthdaysIn_1 : decode cX3_countBirthdaysIn 1 = .ok (.istore_n 2, 1) := by decide +kernel
theorem dX3_countBirthdaysIn_2 : decode cX3_countBirthdaysIn 2 = .ok (.iconst 0, 1) := by decide +kernel
theorem dX3_countBirthdaysIn_3 : decode cX3_countBirthdaysIn 3 = .ok (.istore_n 3, 1) := by decide +kernel
theorem dX3_countBirthdaysIn_4 : decode cX3_countBirthdaysIn 4 = .ok (.iload_n 3, 1) := by decide +kernel
theorem dX3_countBirthdaysIn_5 : decode cX3_countBirthdaysIn 5 = .ok (.aload_n 0, 1) := by decide +kernel
theorem dX3_countBirthdaysIn_6 : decode cX3_countBirthdaysIn 6 = .ok (.getfield 20, 3) := by decide +kernel
theorem dX3_countBirthdaysIn_9 : decode cX3_countBirthdaysIn 9 = .ok (.getfield 113, 3) := by decide +kernel
theorem dX3_countBirthdaysIn_12 : decode cX3_countBirthdaysIn 12 = .ok (.if_icmp .ge 40, 3) := by decide +kernel
theorem dX3_countBirthdaysIn_15 : decode cX3_countBirthdaysIn 15 = .ok (.aload_n 0, 1) := by decide +kernel
theorem dX3_countBirthdaysIn_16 : decode cX3_countBirthdaysIn 16 = .ok (.getfield 20, 3) := by decide +kernel
theorem dX3_countBirthdaysIn_19 : decode cX3_countBirthdaysIn 19 = .ok (.getfield 176, 3) := by decide +kernel
theorem dX3_countBirthdaysIn_22 : decode cX3_countBirthdaysIn 22 = .ok (.iload_n 3, 1) := by decide +kernel
theorem dX3_countBirthdaysIn_23 : decode cX3_countBirthdaysIn 23 = .ok (.invokestatic 145, 3) := by decide +kernel
theorem dX3_countBirthdaysIn_26 : decode cX3_countBirthdaysIn 26 = .ok (.istore 4, 2) := by decide +kernel
theorem dX3_countBirthdaysIn_28 : decode cX3_countBirthdaysIn 28 = .ok (.iload 4, 2) := by decide +kernel
theorem dX3_countBirthdaysIn_30 : decode cX3_countBirthdaysIn 30 = .ok (.iconst (-1), 1) := by decide +kernel
theorem dX3_countBirthdaysIn_31 : decode cX3_countBirthdaysIn 31 = .ok (.if_icmp .eq 15, 3) := by decide +kernel
theorem dX3_countBirthdaysIn_34 : decode cX3_countBirthdaysIn 34 = .ok (.iload 4, 2) := by decide +kernel
theorem dX3_countBirthdaysIn_36 : decode cX3_countBirthdaysIn 36 = .ok (.invokestatic 122, 3) := by decide +kernel
theorem dX3_countBirthdaysIn_39 : decode cX3_countBirthdaysIn 39 = .ok (.iload_n 1, 1) := by decide +kernel
theorem dX3_countBirthdaysIn_40 : decode cX3_countBirthdaysIn 40 = .ok (.if_icmp .ne 6, 3) := by decide +kernel
theorem dX3_countBirthdaysIn_43 : decode cX3_countBirthdaysIn 43 = .ok (.iinc 2 1, 3) := by decide +kernel
theorem dX3_countBirthdaysIn_46 : decode cX3_countBirthdaysIn 46 = .ok (.iinc 3 1, 3) := by decide +kernel
theorem dX3_countBirthdaysIn_49 : decode cX3_countBirthdaysIn 49 = .ok (.goto (-45), 3) := by decide +kernel
theorem dX3_countBirthdaysIn_52 : decode cX3_countBirthdaysIn 52 = .ok (.iload_n 2, 1) := by decide +kernel
theorem dX3_countBirthdaysIn_53 : decode cX3_countBirthdaysIn 53 = .ok (.ireturn, 1) := by decide +kernel
theorem dX3_obstacle_0 : decode cX3_obstacle 0 = .ok (.aload_n 0, 1) := by decide +kernel
theorem dX3_obstacle_1 : decode cX3_obstacle 1 = .ok (.iload_n 1, 1) := by decide +kernel
theorem dX3_obstacle_2 : decode cX3_obstacle 2 = .ok (.invokevirtual 179, 3) := by decide +kernel
theorem dX3_obstacle_5 : decode cX3_obstacle 5 = .ok (.aload_n 0, 1) := by decide +kernel
theorem dX3_obstacle_6 : decode cX3_obstacle 6 = .ok (.iload_n 2, 1) := by decide +kernel
theorem dX3_obstacle_7 : decode cX3_obstacle 7 = .ok (.invokevirtual 155, 3) := by decide +kernel
theorem dX3_obstacle_10 : decode cX3_obstacle 10 = .ok (.iload_n 3, 1) := by decide +kernel
theorem dX3_obstacle_11 : decode cX3_obstacle 11 = .ok (.iload 4, 2) := by decide +kernel
theorem dX3_obstacle_13 : decode cX3_obstacle 13 = .ok (.invokestatic 168, 3) := by decide +kernel
theorem dX3_obstacle_16 : decode cX3_obstacle 16 = .ok (.aload_n 0, 1) := by decide +kernel
theorem dX3_obstacle_17 : decode cX3_obstacle 17 = .ok (.getfield 20, 3) := by decide +kernel
theorem dX3_obstacle_20 : decode cX3_obstacle 20 = .ok (.iload_n 1, 1) := by decide +kernel
theorem dX3_obstacle_21 : decode cX3_obstacle 21 = .ok (.iload_n 2, 1) := by decide +kernel
theorem dX3_obstacle_22 : decode cX3_obstacle 22 = .ok (.iload_n 3, 1) := by decide +kernel
theorem dX3_obstacle_23 : decode cX3_obstacle 23 = .ok (.iload 4, 2) := by decide +kernel
theorem dX3_obstacle_25 : decode cX3_obstacle 25 = .ok (.invokestatic 172, 3) := by decide +kernel
theorem dX3_obstacle_28 : decode cX3_obstacle 28 = .ok (.invokevirtual 212, 3) := by decide +kernel
theorem dX3_obstacle_31 : decode cX3_obstacle 31 = .ok (.ireturn, 1) := by decide +kernel
theorem dX3_drawsNeeded_0 : decode cX3_drawsNeeded 0 = .ok (.aload_n 0, 1) := by decide +kernel
theorem dX3_drawsNeeded_1 : decode cX3_drawsNeeded 1 = .ok (.iload_n 1, 1) := by decide +kernel
theorem dX3_drawsNeeded_2 : decode cX3_drawsNeeded 2 = .ok (.invokevirtual 179, 3) := by decide +kernel
theorem dX3_drawsNeeded_5 : decode cX3_drawsNeeded 5 = .ok (.aload_n 0, 1) := by decide +kernel
theorem dX3_drawsNeeded_6 : decode cX3_drawsNeeded 6 = .ok (.getfield 20, 3) := by decide +kernel
theorem dX3_drawsNeeded_9 : decode cX3_drawsNeeded 9 = .ok (.iload_n 1, 1) := by decide +kernel
theorem dX3_drawsNeeded_10 : decode cX3_drawsNeeded 10 = .ok (.invokevirtual 216, 3) := by decide +kernel
theorem dX3_drawsNeeded_13 : decode cX3_drawsNeeded 13 = .ok (.ireturn, 1) := by decide +kernel
theorem dX3_candlesAfter_0 : decode cX3_candlesAfter 0 = .ok (.iload_n 1, 1) := by decide +kernel
theorem dX3_candlesAfter_1 : decode cX3_candlesAfter 1 = .ok (.invokestatic 219, 3) := by decide +kernel
theorem dX3_candlesAfter_4 : decode cX3_candlesAfter 4 = .ok (.aload_n 0, 1) := by decide +kernel
theorem dX3_candlesAfter_5 : decode cX3_candlesAfter 5 = .ok (.iload_n 1, 1) := by decide +kernel
theorem dX3_candlesAfter_6 : decode cX3_candlesAfter 6 = .ok (.invokevirtual 222, 3) := by decide +kernel
theorem dX3_candlesAfter_9 : decode cX3_candlesAfter 9 = .ok (.aload_n 0, 1) := by decide +kernel
theorem dX3_candlesAfter_10 : decode cX3_candlesAfter 10 = .ok (.getfield 24, 3) := by decide +kernel
theorem dX3_candlesAfter_13 : decode cX3_candlesAfter 13 = .ok (.getfield 135, 3) := by decide +kernel
theorem dX3_candlesAfter_16 : decode cX3_candlesAfter 16 = .ok (.ireturn, 1) := by decide +kernel
theorem dX3_wishesAfter_0 : decode cX3_wishesAfter 0 = .ok (.aload_n 0, 1) := by decide +kernel
theorem dX3_wishesAfter_1 : decode cX3_wishesAfter 1 = .ok (.iload_n 1, 1) := by decide +kernel
theorem dX3_wishesAfter_2 : decode cX3_wishesAfter 2 = .ok (.invokevirtual 179, 3) := by decide +kernel
theorem dX3_wishesAfter_5 : decode cX3_wishesAfter 5 = .ok (.iload_n 2, 1) := by decide +kernel
theorem dX3_wishesAfter_6 : decode cX3_wishesAfter 6 = .ok (.invokestatic 219, 3) := by decide +kernel
theorem dX3_wishesAfter_9 : decode cX3_wishesAfter 9 = .ok (.aload_n 0, 1) := by decide +kernel
theorem dX3_wishesAfter_10 : decode cX3_wishesAfter 10 = .ok (.iload_n 2, 1) := by decide +kernel
theorem dX3_wishesAfter_11 : decode cX3_wishesAfter 11 = .ok (.invokevirtual 222, 3) := by decide +kernel
theorem dX3_wishesAfter_14 : decode cX3_wishesAfter 14 = .ok (.aload_n 0, 1) := by decide +kernel
theorem dX3_wishesAfter_15 : decode cX3_wishesAfter 15 = .ok (.getfield 24, 3) := by decide +kernel
theorem dX3_wishesAfter_18 : decode cX3_wishesAfter 18 = .ok (.getfield 197, 3) := by decide +kernel
theorem dX3_wishesAfter_21 : decode cX3_wishesAfter 21 = .ok (.iload_n 1, 1) := by decide +kernel
theorem dX3_wishesAfter_22 : decode cX3_wishesAfter 22 = .ok (.invokestatic 145, 3) := by decide +kernel
theorem dX3_wishesAfter_25 : decode cX3_wishesAfter 25 = .ok (.ireturn, 1) := by decide +kernel
theorem dX3_forecastDays_0 : decode cX3_forecastDays 0 = .ok (.aload_n 0, 1) := by decide +kernel
theorem dX3_forecastDays_1 : decode cX3_forecastDays 1 = .ok (.getfield 24, 3) := by decide +kernel
theorem dX3_forecastDays_4 : decode cX3_forecastDays 4 = .ok (.aload_n 0, 1) := by decide +kernel
theorem dX3_forecastDays_5 : decode cX3_forecastDays 5 = .ok (.getfield 20, 3) := by decide +kernel
theorem dX3_forecastDays_8 : decode cX3_forecastDays 8 = .ok (.invokevirtual 77, 3) := by decide +kernel
theorem dX3_forecastDays_11 : decode cX3_forecastDays 11 = .ok (.aload_n 0, 1) := by decide +kernel
theorem dX3_forecastDays_12 : decode cX3_forecastDays 12 = .ok (.getfield 24, 3) := by decide +kernel
theorem dX3_forecastDays_15 : decode cX3_forecastDays 15 = .ok (.iload_n 1, 1) := by decide +kernel
theorem dX3_forecastDays_16 : decode cX3_forecastDays 16 = .ok (.invokevirtual 225, 3) := by decide +kernel
theorem dX3_forecastDays_19 : decode cX3_forecastDays 19 = .ok (.pop, 1) := by decide +kernel
theorem dX3_forecastDays_20 : decode cX3_forecastDays 20 = .ok (.return_, 1) := by decide +kernel
theorem dX3_heldParties_0 : decode cX3_heldParties 0 = .ok (.aload_n 0, 1) := by decide +kernel
theorem dX3_heldParties_1 : decode cX3_heldParties 1 = .ok (.getfield 20, 3) := by decide +kernel
theorem dX3_heldParties_4 : decode cX3_heldParties 4 = .ok (.getfield 194, 3) := by decide +kernel
theorem dX3_heldParties_7 : decode cX3_heldParties 7 = .ok (.aload_n 0, 1) := by decide +kernel
theorem dX3_heldParties_8 : decode cX3_heldParties 8 = .ok (.getfield 20, 3) := by decide +kernel
theorem dX3_heldParties_11 : decode cX3_heldParties 11 = .ok (.getfield 113, 3) := by decide +kernel
theorem dX3_heldParties_14 : decode cX3_heldParties 14 = .ok (.invokestatic 228, 3) := by decide +kernel
theorem dX3_heldParties_17 : decode cX3_heldParties 17 = .ok (.ireturn, 1) := by decide +kernel
theorem dX3_failedParties_0 : decode cX3_failedParties 0 = .ok (.aload_n 0, 1) := by decide +kernel
theorem dX3_failedParties_1 : decode cX3_failedParties 1 = .ok (.getfield 20, 3) := by decide +kernel
theorem dX3_failedParties_4 : decode cX3_failedParties 4 = .ok (.getfield 231, 3) := by decide +kernel
theorem dX3_failedParties_7 : decode cX3_failedParties 7 = .ok (.ireturn, 1) := by decide +kernel
theorem dX3_clashes_0 : decode cX3_clashes 0 = .ok (.iconst 0, 1) := by decide +kernel
theorem dX3_clashes_1 : decode cX3_clashes 1 = .ok (.istore_n 1, 1) := by decide +kernel
theorem dX3_clashes_2 : decode cX3_clashes 2 = .ok (.iconst 0, 1) := by decide +kernel
theorem dX3_clashes_3 : decode cX3_clashes 3 = .ok (.istore_n 2, 1) := by decide +kernel
theorem dX3_clashes_4 : decode cX3_clashes 4 = .ok (.iload_n 2, 1) := by decide +kernel
theorem dX3_clashes_5 : decode cX3_clashes 5 = .ok (.aload_n 0, 1) := by decide +kernel
theorem dX3_clashes_6 : decode cX3_clashes 6 = .ok (.getfield 20, 3) := by decide +kernel
theorem dX3_clashes_9 : decode cX3_clashes 9 = .ok (.getfield 113, 3) := by decide +kernel
theorem dX3_clashes_12 : decode cX3_clashes 12 = .ok (.if_icmp .ge 34, 3) := by decide +kernel
theorem dX3_clashes_15 : decode cX3_clashes 15 = .ok (.iconst 0, 1) := by decide +kernel
theorem dX3_clashes_16 : decode cX3_clashes 16 = .ok (.istore_n 3, 1) := by decide +kernel
theorem dX3_clashes_17 : decode cX3_clashes 17 = .ok (.iload_n 3, 1) := by decide +kernel
theorem dX3_clashes_18 : decode cX3_clashes 18 = .ok (.iload_n 2, 1) := by decide +kernel
theorem dX3_clashes_19 : decode cX3_clashes 19 = .ok (.if_icmp .ge 21, 3) := by decide +kernel
theorem dX3_clashes_22 : decode cX3_clashes 22 = .ok (.aload_n 0, 1) := by decide +kernel
theorem dX3_clashes_23 : decode cX3_clashes 23 = .ok (.iload_n 2, 1) := by decide +kernel
theorem dX3_clashes_24 : decode cX3_clashes 24 = .ok (.iload_n 3, 1) := by decide +kernel
theorem dX3_clashes_25 : decode cX3_clashes 25 = .ok (.invokevirtual 234, 3) := by decide +kernel
theorem dX3_clashes_28 : decode cX3_clashes 28 = .ok (.ifCond .eq 6, 3) := by decide +kernel
theorem dX3_clashes_31 : decode cX3_clashes 31 = .ok (.iinc 1 1, 3) := by decide +kernel
theorem dX3_clashes_34 : decode cX3_clashes 34 = .ok (.iinc 3 1, 3) := by decide +kernel
theorem dX3_clashes_37 : decode cX3_clashes 37 = .ok (.goto (-20), 3) := by decide +kernel
theorem dX3_clashes_40 : decode cX3_clashes 40 = .ok (.iinc 2 1, 3) := by decide +kernel
theorem dX3_clashes_43 : decode cX3_clashes 43 = .ok (.goto (-39), 3) := by decide +kernel
theorem dX3_clashes_46 : decode cX3_clashes 46 = .ok (.iload_n 1, 1) := by decide +kernel
theorem dX3_clashes_47 : decode cX3_clashes 47 = .ok (.ireturn, 1) := by decide +kernel
theorem dX3_clash_0 : decode cX3_clash 0 = .ok (.aload_n 0, 1) := by decide +kernel
theorem dX3_clash_1 : decode cX3_clash 1 = .ok (.getfield 20, 3) := by decide +kernel
theorem dX3_clash_4 : decode cX3_clash 4 = .ok (.getfield 176, 3) := by decide +kernel
theorem dX3_clash_7 : decode cX3_clash 7 = .ok (.iload_n 1, 1) := by decide +kernel
theorem dX3_clash_8 : decode cX3_clash 8 = .ok (.invokestatic 145, 3) := by decide +kernel
theorem dX3_clash_11 : decode cX3_clash 11 = .ok (.istore_n 3, 1) := by decide +kernel
theorem dX3_clash_12 : decode cX3_clash 12 = .ok (.iload_n 3, 1) := by decide +kernel
theorem dX3_clash_13 : decode cX3_clash 13 = .ok (.iconst (-1), 1) := by decide +kernel
theorem dX3_clash_14 : decode cX3_clash 14 = .ok (.if_icmp .eq 47, 3) := by decide +kernel
theorem dX3_clash_17 : decode cX3_clash 17 = .ok (.iload_n 3, 1) := by decide +kernel
theorem dX3_clash_18 : decode cX3_clash 18 = .ok (.aload_n 0, 1) := by decide +kernel
theorem dX3_clash_19 : decode cX3_clash 19 = .ok (.getfield 20, 3) := by decide +kernel
theorem dX3_clash_22 : decode cX3_clash 22 = .ok (.getfield 176, 3) := by decide +kernel
theorem dX3_clash_25 : decode cX3_clash 25 = .ok (.iload_n 2, 1) := by decide +kernel
theorem dX3_clash_26 : decode cX3_clash 26 = .ok (.invokestatic 145, 3) := by decide +kernel
theorem dX3_clash_29 : decode cX3_clash 29 = .ok (.if_icmp .ne 32, 3) := by decide +kernel
theorem dX3_clash_32 : decode cX3_clash 32 = .ok (.aload_n 0, 1) := by decide +kernel
theorem dX3_clash_33 : decode cX3_clash 33 = .ok (.getfield 20, 3) := by decide +kernel
theorem dX3_clash_36 : decode cX3_clash 36 = .ok (.getfield 161, 3) := by decide +kernel
theorem dX3_clash_39 : decode cX3_clash 39 = .ok (.iload_n 1, 1) := by decide +kernel
theorem dX3_clash_40 : decode cX3_clash 40 = .ok (.invokestatic 145, 3) := by decide +kernel
theorem dX3_clash_43 : decode cX3_clash 43 = .ok (.aload_n 0, 1) := by decide +kernel
theorem dX3_clash_44 : decode cX3_clash 44 = .ok (.getfield 20, 3) := by decide +kernel
theorem dX3_clash_47 : decode cX3_clash 47 = .ok (.getfield 161, 3) := by decide +kernel
theorem dX3_clash_50 : decode cX3_clash 50 = .ok (.iload_n 2, 1) := by decide +kernel
theorem dX3_clash_51 : decode cX3_clash 51 = .ok (.invokestatic 145, 3) := by decide +kernel
theorem dX3_clash_54 : decode cX3_clash 54 = .ok (.if_icmp .ne 7, 3) := by decide +kernel
theorem dX3_clash_57 : decode cX3_clash 57 = .ok (.iconst 1, 1) := by decide +kernel
theorem dX3_clash_58 : decode cX3_clash 58 = .ok (.goto 4, 3) := by decide +kernel
theorem dX3_clash_61 : decode cX3_clash 61 = .ok (.iconst 0, 1) := by decide +kernel
theorem dX3_clash_62 : decode cX3_clash 62 = .ok (.ireturn, 1) := by decide +kernel
theorem dX3_candleDifference_0 : decode cX3_candleDifference 0 = .ok (.aload_n 0, 1) := by decide +kernel
theorem dX3_candleDifference_1 : decode cX3_candleDifference 1 = .ok (.getfield 20, 3) := by decide +kernel
theorem dX3_candleDifference_4 : decode cX3_candleDifference 4 = .ok (.getfield 135, 3) := by decide +kernel
theorem dX3_candleDifference_7 : decode cX3_candleDifference 7 = .ok (.aload_n 0, 1) := by decide +kernel
theorem dX3_candleDifference_8 : decode cX3_candleDifference 8 = .ok (.getfield 20, 3) := by decide +kernel
theorem dX3_candleDifference_11 : decode cX3_candleDifference 11 = .ok (.getfield 238, 3) := by decide +kernel
theorem dX3_candleDifference_14 : decode cX3_candleDifference 14 = .ok (.isub, 1) := by decide +kernel
theorem dX3_candleDifference_15 : decode cX3_candleDifference 15 = .ok (.aload_n 0, 1) := by decide +kernel
theorem dX3_candleDifference_16 : decode cX3_candleDifference 16 = .ok (.getfield 20, 3) := by decide +kernel
theorem dX3_candleDifference_19 : decode cX3_candleDifference 19 = .ok (.getfield 241, 3) := by decide +kernel
theorem dX3_candleDifference_22 : decode cX3_candleDifference 22 = .ok (.isub, 1) := by decide +kernel
theorem dX3_candleDifference_23 : decode cX3_candleDifference 23 = .ok (.aload_n 0, 1) := by decide +kernel
theorem dX3_candleDifference_24 : decode cX3_candleDifference 24 = .ok (.getfield 20, 3) := by decide +kernel
theorem dX3_candleDifference_27 : decode cX3_candleDifference 27 = .ok (.getfield 244, 3) := by decide +kernel
theorem dX3_candleDifference_30 : decode cX3_candleDifference 30 = .ok (.iadd, 1) := by decide +kernel
theorem dX3_candleDifference_31 : decode cX3_candleDifference 31 = .ok (.istore_n 1, 1) := by decide +kernel
theorem dX3_candleDifference_32 : decode cX3_candleDifference 32 = .ok (.iload_n 1, 1) := by decide +kernel
theorem dX3_candleDifference_33 : decode cX3_candleDifference 33 = .ok (.ifCond .ge 8, 3) := by decide +kernel
theorem dX3_candleDifference_36 : decode cX3_candleDifference 36 = .ok (.iload_n 1, 1) := by decide +kernel
theorem dX3_candleDifference_37 : decode cX3_candleDifference 37 = .ok (.ineg, 1) := by decide +kernel
theorem dX3_candleDifference_38 : decode cX3_candleDifference 38 = .ok (.goto 4, 3) := by decide +kernel
theorem dX3_candleDifference_41 : decode cX3_candleDifference 41 = .ok (.iload_n 1, 1) := by decide +kernel
theorem dX3_candleDifference_42 : decode cX3_candleDifference 42 = .ok (.ireturn, 1) := by decide +kernel
theorem dX3_meanAge_0 : decode cX3_meanAge 0 = .ok (.aload_n 0, 1) := by decide +kernel
theorem dX3_meanAge_1 : decode cX3_meanAge 1 = .ok (.getfield 20, 3) := by decide +kernel
theorem dX3_meanAge_4 : decode cX3_meanAge 4 = .ok (.getfield 113, 3) := by decide +kernel
theorem dX3_meanAge_7 : decode cX3_meanAge 7 = .ok (.ifCond .ne 5, 3) := by decide +kernel
theorem dX3_meanAge_10 : decode cX3_meanAge 10 = .ok (.dconst 0, 1) := by decide +kernel
theorem dX3_meanAge_11 : decode cX3_meanAge 11 = .ok (.dreturn, 1) := by decide +kernel
theorem dX3_meanAge_12 : decode cX3_meanAge 12 = .ok (.aload_n 0, 1) := by decide +kernel
theorem dX3_meanAge_13 : decode cX3_meanAge 13 = .ok (.getfield 20, 3) := by decide +kernel
theorem dX3_meanAge_16 : decode cX3_meanAge 16 = .ok (.getfield 188, 3) := by decide +kernel
theorem dX3_meanAge_19 : decode cX3_meanAge 19 = .ok (.aload_n 0, 1) := by decide +kernel
theorem dX3_meanAge_20 : decode cX3_meanAge 20 = .ok (.getfield 20, 3) := by decide +kernel
theorem dX3_meanAge_23 : decode cX3_meanAge 23 = .ok (.getfield 113, 3) := by decide +kernel
theorem dX3_meanAge_26 : decode cX3_meanAge 26 = .ok (.invokestatic 228, 3) := by decide +kernel
theorem dX3_meanAge_29 : decode cX3_meanAge 29 = .ok (.i2d, 1) := by decide +kernel
theorem dX3_meanAge_30 : decode cX3_meanAge 30 = .ok (.aload_n 0, 1) := by decide +kernel
theorem dX3_meanAge_31 : decode cX3_meanAge 31 = .ok (.getfield 20, 3) := by decide +kernel
theorem dX3_meanAge_34 : decode cX3_meanAge 34 = .ok (.getfield 113, 3) := by decide +kernel
theorem dX3_meanAge_37 : decode cX3_meanAge 37 = .ok (.i2d, 1) := by decide +kernel
theorem dX3_meanAge_38 : decode cX3_meanAge 38 = .ok (.ddiv, 1) := by decide +kernel
theorem dX3_meanAge_39 : decode cX3_meanAge 39 = .ok (.dreturn, 1) := by decide +kernel
theorem dX3_wishShare_0 : decode cX3_wishShare 0 = .ok (.aload_n 0, 1) := by decide +kernel
theorem dX3_wishShare_1 : decode cX3_wishShare 1 = .ok (.getfield 20, 3) := by decide +kernel
theorem dX3_wishShare_4 : decode cX3_wishShare 4 = .ok (.getfield 194, 3) := by decide +kernel
theorem dX3_wishShare_7 : decode cX3_wishShare 7 = .ok (.aload_n 0, 1) := by decide +kernel
theorem dX3_wishShare_8 : decode cX3_wishShare 8 = .ok (.getfield 20, 3) := by decide +kernel
theorem dX3_wishShare_11 : decode cX3_wishShare 11 = .ok (.getfield 113, 3) := by decide +kernel
theorem dX3_wishShare_14 : decode cX3_wishShare 14 = .ok (.invokestatic 228, 3) := by decide +kernel
theorem dX3_wishShare_17 : decode cX3_wishShare 17 = .ok (.istore_n 1, 1) := by decide +kernel
theorem dX3_wishShare_18 : decode cX3_wishShare 18 = .ok (.iload_n 1, 1) := by decide +kernel
theorem dX3_wishShare_19 : decode cX3_wishShare 19 = .ok (.ifCond .ne 5, 3) := by decide +kernel
theorem dX3_wishShare_22 : decode cX3_wishShare 22 = .ok (.fconst 0, 1) := by decide +kernel
theorem dX3_wishShare_23 : decode cX3_wishShare 23 = .ok (.freturn, 1) := by decide +kernel
theorem dX3_wishShare_24 : decode cX3_wishShare 24 = .ok (.aload_n 0, 1) := by decide +kernel
theorem dX3_wishShare_25 : decode cX3_wishShare 25 = .ok (.getfield 20, 3) := by decide +kernel
theorem dX3_wishShare_28 : decode cX3_wishShare 28 = .ok (.getfield 197, 3) := by decide +kernel
theorem dX3_wishShare_31 : decode cX3_wishShare 31 = .ok (.aload_n 0, 1) := by decide +kernel
theorem dX3_wishShare_32 : decode cX3_wishShare 32 = .ok (.getfield 20, 3) := by decide +kernel
theorem dX3_wishShare_35 : decode cX3_wishShare 35 = .ok (.getfield 113, 3) := by decide +kernel
theorem dX3_wishShare_38 : decode cX3_wishShare 38 = .ok (.invokestatic 228, 3) := by decide +kernel
theorem dX3_wishShare_41 : decode cX3_wishShare 41 = .ok (.i2f, 1) := by decide +kernel
theorem dX3_wishShare_42 : decode cX3_wishShare 42 = .ok (.iload_n 1, 1) := by decide +kernel
theorem dX3_wishShare_43 : decode cX3_wishShare 43 = .ok (.i2f, 1) := by decide +kernel
theorem dX3_wishShare_44 : decode cX3_wishShare 44 = .ok (.fdiv, 1) := by decide +kernel
theorem dX3_wishShare_45 : decode cX3_wishShare 45 = .ok (.freturn, 1) := by decide +kernel
theorem dX3_advance_0 : decode cX3_advance 0 = .ok (.iload_n 1, 1) := by decide +kernel
theorem dX3_advance_1 : decode cX3_advance 1 = .ok (.iconst 1, 1) := by decide +kernel
theorem dX3_advance_2 : decode cX3_advance 2 = .ok (.if_icmp .lt 10, 3) := by decide +kernel
theorem dX3_advance_5 : decode cX3_advance 5 = .ok (.iload_n 1, 1) := by decide +kernel
theorem dX3_advance_6 : decode cX3_advance 6 = .ok (.sipush 720, 3) := by decide +kernel
theorem dX3_advance_9 : decode cX3_advance 9 = .ok (.if_icmp .le 13, 3) := by decide +kernel
theorem dX3_advance_12 : decode cX3_advance 12 = .ok (.new 105, 3) := by decide +kernel
theorem dX3_advance_15 : decode cX3_advance 15 = .ok (.dup, 1) := by decide +kernel
theorem dX3_advance_16 : decode cX3_advance 16 = .ok (.ldc 247, 2) := by decide +kernel
theorem dX3_advance_18 : decode cX3_advance 18 = .ok (.invokespecial 109, 3) := by decide +kernel
theorem dX3_advance_21 : decode cX3_advance 21 = .ok (.athrow, 1) := by decide +kernel
theorem dX3_advance_22 : decode cX3_advance 22 = .ok (.iload_n 1, 1) := by decide +kernel
theorem dX3_advance_23 : decode cX3_advance 23 = .ok (.aload_n 0, 1) := by decide +kernel
theorem dX3_advance_24 : decode cX3_advance 24 = .ok (.getfield 20, 3) := by decide +kernel
theorem dX3_advance_27 : decode cX3_advance 27 = .ok (.invokevirtual 249, 3) := by decide +kernel
theorem dX3_advance_30 : decode cX3_advance 30 = .ok (.if_icmp .le 13, 3) := by decide +kernel
theorem dX3_advance_33 : decode cX3_advance 33 = .ok (.new 81, 3) := by decide +kernel
theorem dX3_advance_36 : decode cX3_advance 36 = .ok (.dup, 1) := by decide +kernel
theorem dX3_advance_37 : decode cX3_advance 37 = .ok (.ldc 252, 2) := by decide +kernel
theorem dX3_advance_39 : decode cX3_advance 39 = .ok (.invokespecial 85, 3) := by decide +kernel
theorem dX3_advance_42 : decode cX3_advance 42 = .ok (.athrow, 1) := by decide +kernel
theorem dX3_advance_43 : decode cX3_advance 43 = .ok (.aload_n 0, 1) := by decide +kernel
theorem dX3_advance_44 : decode cX3_advance 44 = .ok (.getfield 37, 3) := by decide +kernel
theorem dX3_advance_47 : decode cX3_advance 47 = .ok (.aload_n 0, 1) := by decide +kernel
theorem dX3_advance_48 : decode cX3_advance 48 = .ok (.getfield 20, 3) := by decide +kernel
theorem dX3_advance_51 : decode cX3_advance 51 = .ok (.invokevirtual 254, 3) := by decide +kernel
theorem dX3_advance_54 : decode cX3_advance 54 = .ok (.aload_n 0, 1) := by decide +kernel
theorem dX3_advance_55 : decode cX3_advance 55 = .ok (.getfield 20, 3) := by decide +kernel
theorem dX3_advance_58 : decode cX3_advance 58 = .ok (.iload_n 1, 1) := by decide +kernel
theorem dX3_advance_59 : decode cX3_advance 59 = .ok (.invokevirtual 225, 3) := by decide +kernel
theorem dX3_advance_62 : decode cX3_advance 62 = .ok (.ireturn, 1) := by decide +kernel
theorem dX3_draw_0 : decode cX3_draw 0 = .ok (.aload_n 0, 1) := by decide +kernel
theorem dX3_draw_1 : decode cX3_draw 1 = .ok (.iload_n 1, 1) := by decide +kernel
theorem dX3_draw_2 : decode cX3_draw 2 = .ok (.invokevirtual 179, 3) := by decide +kernel
theorem dX3_draw_5 : decode cX3_draw 5 = .ok (.aload_n 0, 1) := by decide +kernel
theorem dX3_draw_6 : decode cX3_draw 6 = .ok (.getfield 20, 3) := by decide +kernel
theorem dX3_draw_9 : decode cX3_draw 9 = .ok (.iload_n 1, 1) := by decide +kernel
theorem dX3_draw_10 : decode cX3_draw 10 = .ok (.invokevirtual 216, 3) := by decide +kernel
theorem dX3_draw_13 : decode cX3_draw 13 = .ok (.istore_n 2, 1) := by decide +kernel
theorem dX3_draw_14 : decode cX3_draw 14 = .ok (.iload_n 2, 1) := by decide +kernel
theorem dX3_draw_15 : decode cX3_draw 15 = .ok (.iconst (-1), 1) := by decide +kernel
theorem dX3_draw_16 : decode cX3_draw 16 = .ok (.if_icmp .ne 14, 3) := by decide +kernel
theorem dX3_draw_19 : decode cX3_draw 19 = .ok (.new 81, 3) := by decide +kernel
theorem dX3_draw_22 : decode cX3_draw 22 = .ok (.dup, 1) := by decide +kernel
theorem dX3_draw_23 : decode cX3_draw 23 = .ok (.ldc_w 257, 3) := by decide +kernel
theorem dX3_draw_26 : decode cX3_draw 26 = .ok (.invokespecial 85, 3) := by decide +kernel
theorem dX3_draw_29 : decode cX3_draw 29 = .ok (.athrow, 1) := by decide +kernel
theorem dX3_draw_30 : decode cX3_draw 30 = .ok (.aload_n 0, 1) := by decide +kernel
theorem dX3_draw_31 : decode cX3_draw 31 = .ok (.getfield 37, 3) := by decide +kernel
theorem dX3_draw_34 : decode cX3_draw 34 = .ok (.aload_n 0, 1) := by decide +kernel
theorem dX3_draw_35 : decode cX3_draw 35 = .ok (.getfield 20, 3) := by decide +kernel
theorem dX3_draw_38 : decode cX3_draw 38 = .ok (.invokevirtual 254, 3) := by decide +kernel
theorem dX3_draw_41 : decode cX3_draw 41 = .ok (.aload_n 0, 1) := by decide +kernel
theorem dX3_draw_42 : decode cX3_draw 42 = .ok (.getfield 20, 3) := by decide +kernel
theorem dX3_draw_45 : decode cX3_draw 45 = .ok (.iload_n 1, 1) := by decide +kernel
theorem dX3_draw_46 : decode cX3_draw 46 = .ok (.iload_n 2, 1) := by decide +kernel
theorem dX3_draw_47 : decode cX3_draw 47 = .ok (.invokevirtual 259, 3) := by decide +kernel
theorem dX3_draw_50 : decode cX3_draw 50 = .ok (.iload_n 2, 1) := by decide +kernel
theorem dX3_draw_51 : decode cX3_draw 51 = .ok (.ireturn, 1) := by decide +kernel
theorem dX3_setBirthday_0 : decode cX3_setBirthday 0 = .ok (.aload_n 0, 1) := by decide +kernel
theorem dX3_setBirthday_1 : decode cX3_setBirthday 1 = .ok (.iload_n 1, 1) := by decide +kernel
theorem dX3_setBirthday_2 : decode cX3_setBirthday 2 = .ok (.invokevirtual 179, 3) := by decide +kernel
theorem dX3_setBirthday_5 : decode cX3_setBirthday 5 = .ok (.iload_n 2, 1) := by decide +kernel
theorem dX3_setBirthday_6 : decode cX3_setBirthday 6 = .ok (.iload_n 3, 1) := by decide +kernel
theorem dX3_setBirthday_7 : decode cX3_setBirthday 7 = .ok (.invokestatic 168, 3) := by decide +kernel
theorem dX3_setBirthday_10 : decode cX3_setBirthday 10 = .ok (.iload_n 2, 1) := by decide +kernel
theorem dX3_setBirthday_11 : decode cX3_setBirthday 11 = .ok (.iload_n 3, 1) := by decide +kernel
theorem dX3_setBirthday_12 : decode cX3_setBirthday 12 = .ok (.invokestatic 172, 3) := by decide +kernel
theorem dX3_setBirthday_15 : decode cX3_setBirthday 15 = .ok (.istore 4, 2) := by decide +kernel
theorem dX3_setBirthday_17 : decode cX3_setBirthday 17 = .ok (.aload_n 0, 1) := by decide +kernel
theorem dX3_setBirthday_18 : decode cX3_setBirthday 18 = .ok (.getfield 20, 3) := by decide +kernel
theorem dX3_setBirthday_21 : decode cX3_setBirthday 21 = .ok (.iload_n 1, 1) := by decide +kernel
theorem dX3_setBirthday_22 : decode cX3_setBirthday 22 = .ok (.aload_n 0, 1) := by decide +kernel
theorem dX3_setBirthday_23 : decode cX3_setBirthday 23 = .ok (.getfield 20, 3) := by decide +kernel
theorem dX3_setBirthday_26 : decode cX3_setBirthday 26 = .ok (.getfield 161, 3) := by decide +kernel
theorem dX3_setBirthday_29 : decode cX3_setBirthday 29 = .ok (.iload_n 1, 1) := by decide +kernel
theorem dX3_setBirthday_30 : decode cX3_setBirthday 30 = .ok (.invokestatic 145, 3) := by decide +kernel
theorem dX3_setBirthday_33 : decode cX3_setBirthday 33 = .ok (.iload 4, 2) := by decide +kernel
theorem dX3_setBirthday_35 : decode cX3_setBirthday 35 = .ok (.invokevirtual 212, 3) := by decide +kernel
theorem dX3_setBirthday_38 : decode cX3_setBirthday 38 = .ok (.ifCond .eq 14, 3) := by decide +kernel
theorem dX3_setBirthday_41 : decode cX3_setBirthday 41 = .ok (.new 81, 3) := by decide +kernel
theorem dX3_setBirthday_44 : decode cX3_setBirthday 44 = .ok (.dup, 1) := by decide +kernel
theorem dX3_setBirthday_45 : decode cX3_setBirthday 45 = .ok (.ldc_w 262, 3) := by decide +kernel
theorem dX3_setBirthday_48 : decode cX3_setBirthday 48 = .ok (.invokespecial 85, 3) := by decide +kernel
theorem dX3_setBirthday_51 : decode cX3_setBirthday 51 = .ok (.athrow, 1) := by decide +kernel
theorem dX3_setBirthday_52 : decode cX3_setBirthday 52 = .ok (.aload_n 0, 1) := by decide +kernel
theorem dX3_setBirthday_53 : decode cX3_setBirthday 53 = .ok (.getfield 37, 3) := by decide +kernel
theorem dX3_setBirthday_56 : decode cX3_setBirthday 56 = .ok (.aload_n 0, 1) := by decide +kernel
theorem dX3_setBirthday_57 : decode cX3_setBirthday 57 = .ok (.getfield 20, 3) := by decide +kernel
theorem dX3_setBirthday_60 : decode cX3_setBirthday 60 = .ok (.invokevirtual 254, 3) := by decide +kernel
theorem dX3_setBirthday_63 : decode cX3_setBirthday 63 = .ok (.aload_n 0, 1) := by decide +kernel
theorem dX3_setBirthday_64 : decode cX3_setBirthday 64 = .ok (.getfield 20, 3) := by decide +kernel
theorem dX3_setBirthday_67 : decode cX3_setBirthday 67 = .ok (.getfield 176, 3) := by decide +kernel
theorem dX3_setBirthday_70 : decode cX3_setBirthday 70 = .ok (.iload_n 1, 1) := by decide +kernel
theorem dX3_setBirthday_71 : decode cX3_setBirthday 71 = .ok (.iload 4, 2) := by decide +kernel
theorem dX3_setBirthday_73 : decode cX3_setBirthday 73 = .ok (.invokestatic 264, 3) := by decide +kernel
theorem dX3_setBirthday_76 : decode cX3_setBirthday 76 = .ok (.aload_n 0, 1) := by decide +kernel
theorem dX3_setBirthday_77 : decode cX3_setBirthday 77 = .ok (.getfield 20, 3) := by decide +kernel
theorem dX3_setBirthday_80 : decode cX3_setBirthday 80 = .ok (.iload 4, 2) := by decide +kernel
theorem dX3_setBirthday_82 : decode cX3_setBirthday 82 = .ok (.invokevirtual 191, 3) := by decide +kernel
theorem dX3_setBirthday_85 : decode cX3_setBirthday 85 = .ok (.ireturn, 1) := by decide +kernel
theorem dX3_forgetBirthday_0 : decode cX3_forgetBirthday 0 = .ok (.aload_n 0, 1) := by decide +kernel
theorem dX3_forgetBirthday_1 : decode cX3_forgetBirthday 1 = .ok (.iload_n 1, 1) := by decide +kernel
theorem dX3_forgetBirthday_2 : decode cX3_forgetBirthday 2 = .ok (.invokevirtual 179, 3) := by decide +kernel
theorem dX3_forgetBirthday_5 : decode cX3_forgetBirthday 5 = .ok (.aload_n 0, 1) := by decide +kernel
theorem dX3_forgetBirthday_6 : decode cX3_forgetBirthday 6 = .ok (.getfield 20, 3) := by decide +kernel
theorem dX3_forgetBirthday_9 : decode cX3_forgetBirthday 9 = .ok (.getfield 176, 3) := by decide +kernel
theorem dX3_forgetBirthday_12 : decode cX3_forgetBirthday 12 = .ok (.iload_n 1, 1) := by decide +kernel
theorem dX3_forgetBirthday_13 : decode cX3_forgetBirthday 13 = .ok (.invokestatic 145, 3) := by decide +kernel
theorem dX3_forgetBirthday_16 : decode cX3_forgetBirthday 16 = .ok (.istore_n 2, 1) := by decide +kernel
theorem dX3_forgetBirthday_17 : decode cX3_forgetBirthday 17 = .ok (.aload_n 0, 1) := by decide +kernel
theorem dX3_forgetBirthday_18 : decode cX3_forgetBirthday 18 = .ok (.getfield 37, 3) := by decide +kernel
theorem dX3_forgetBirthday_21 : decode cX3_forgetBirthday 21 = .ok (.aload_n 0, 1) := by decide +kernel
theorem dX3_forgetBirthday_22 : decode cX3_forgetBirthday 22 = .ok (.getfield 20, 3) := by decide +kernel
theorem dX3_forgetBirthday_25 : decode cX3_forgetBirthday 25 = .ok (.invokevirtual 254, 3) := by decide +kernel
theorem dX3_forgetBirthday_28 : decode cX3_forgetBirthday 28 = .ok (.aload_n 0, 1) := by decide +kernel
theorem dX3_forgetBirthday_29 : decode cX3_forgetBirthday 29 = .ok (.getfield 20, 3) := by decide +kernel
theorem dX3_forgetBirthday_32 : decode cX3_forgetBirthday 32 = .ok (.getfield 176, 3) := by decide +kernel
theorem dX3_forgetBirthday_35 : decode cX3_forgetBirthday 35 = .ok (.iload_n 1, 1) := by decide +kernel
theorem dX3_forgetBirthday_36 : decode cX3_forgetBirthday 36 = .ok (.iconst (-1), 1) := by decide +kernel
theorem dX3_forgetBirthday_37 : decode cX3_forgetBirthday 37 = .ok (.invokestatic 264, 3) := by decide +kernel
theorem dX3_forgetBirthday_40 : decode cX3_forgetBirthday 40 = .ok (.iload_n 2, 1) := by decide +kernel
theorem dX3_forgetBirthday_41 : decode cX3_forgetBirthday 41 = .ok (.ireturn, 1) := by decide +kernel
theorem dX3_moveTo_0 : decode cX3_moveTo 0 = .ok (.aload_n 0, 1) := by decide +kernel
theorem dX3_moveTo_1 : decode cX3_moveTo 1 = .ok (.iload_n 1, 1) := by decide +kernel
theorem dX3_moveTo_2 : decode cX3_moveTo 2 = .ok (.invokevirtual 179, 3) := by decide +kernel
theorem dX3_moveTo_5 : decode cX3_moveTo 5 = .ok (.aload_n 0, 1) := by decide +kernel
theorem dX3_moveTo_6 : decode cX3_moveTo 6 = .ok (.iload_n 2, 1) := by decide +kernel
theorem dX3_moveTo_7 : decode cX3_moveTo 7 = .ok (.invokevirtual 155, 3) := by decide +kernel
theorem dX3_moveTo_10 : decode cX3_moveTo 10 = .ok (.aload_n 0, 1) := by decide +kernel
theorem dX3_moveTo_11 : decode cX3_moveTo 11 = .ok (.getfield 20, 3) := by decide +kernel
theorem dX3_moveTo_14 : decode cX3_moveTo 14 = .ok (.getfield 176, 3) := by decide +kernel
theorem dX3_moveTo_17 : decode cX3_moveTo 17 = .ok (.iload_n 1, 1) := by decide +kernel
theorem dX3_moveTo_18 : decode cX3_moveTo 18 = .ok (.invokestatic 145, 3) := by decide +kernel
theorem dX3_moveTo_21 : decode cX3_moveTo 21 = .ok (.istore_n 3, 1) := by decide +kernel
theorem dX3_moveTo_22 : decode cX3_moveTo 22 = .ok (.iload_n 3, 1) := by decide +kernel
theorem dX3_moveTo_23 : decode cX3_moveTo 23 = .ok (.iconst (-1), 1) := by decide +kernel
theorem dX3_moveTo_24 : decode cX3_moveTo 24 = .ok (.if_icmp .eq 27, 3) := by decide +kernel
theorem dX3_moveTo_27 : decode cX3_moveTo 27 = .ok (.aload_n 0, 1) := by decide +kernel
theorem dX3_moveTo_28 : decode cX3_moveTo 28 = .ok (.getfield 20, 3) := by decide +kernel
theorem dX3_moveTo_31 : decode cX3_moveTo 31 = .ok (.iload_n 1, 1) := by decide +kernel
theorem dX3_moveTo_32 : decode cX3_moveTo 32 = .ok (.iload_n 2, 1) := by decide +kernel
theorem dX3_moveTo_33 : decode cX3_moveTo 33 = .ok (.iload_n 3, 1) := by decide +kernel
theorem dX3_moveTo_34 : decode cX3_moveTo 34 = .ok (.invokevirtual 212, 3) := by decide +kernel
theorem dX3_moveTo_37 : decode cX3_moveTo 37 = .ok (.ifCond .eq 14, 3) := by decide +kernel
theorem dX3_moveTo_40 : decode cX3_moveTo 40 = .ok (.new 81, 3) := by decide +kernel
theorem dX3_moveTo_43 : decode cX3_moveTo 43 = .ok (.dup, 1) := by decide +kernel
theorem dX3_moveTo_44 : decode cX3_moveTo 44 = .ok (.ldc_w 268, 3) := by decide +kernel
theorem dX3_moveTo_47 : decode cX3_moveTo 47 = .ok (.invokespecial 85, 3) := by decide +kernel
theorem dX3_moveTo_50 : decode cX3_moveTo 50 = .ok (.athrow, 1) := by decide +kernel
theorem dX3_moveTo_51 : decode cX3_moveTo 51 = .ok (.aload_n 0, 1) := by decide +kernel
theorem dX3_moveTo_52 : decode cX3_moveTo 52 = .ok (.getfield 20, 3) := by decide +kernel
theorem dX3_moveTo_55 : decode cX3_moveTo 55 = .ok (.getfield 161, 3) := by decide +kernel
theorem dX3_moveTo_58 : decode cX3_moveTo 58 = .ok (.iload_n 1, 1) := by decide +kernel
theorem dX3_moveTo_59 : decode cX3_moveTo 59 = .ok (.invokestatic 145, 3) := by decide +kernel
theorem dX3_moveTo_62 : decode cX3_moveTo 62 = .ok (.istore 4, 2) := by decide +kernel
theorem dX3_moveTo_64 : decode cX3_moveTo 64 = .ok (.aload_n 0, 1) := by decide +kernel
theorem dX3_moveTo_65 : decode cX3_moveTo 65 = .ok (.getfield 37, 3) := by decide +kernel
theorem dX3_moveTo_68 : decode cX3_moveTo 68 = .ok (.aload_n 0, 1) := by decide +kernel
theorem dX3_moveTo_69 : decode cX3_moveTo 69 = .ok (.getfield 20, 3) := by decide +kernel
theorem dX3_moveTo_72 : decode cX3_moveTo 72 = .ok (.invokevirtual 254, 3) := by decide +kernel
theorem dX3_moveTo_75 : decode cX3_moveTo 75 = .ok (.aload_n 0, 1) := by decide +kernel
theorem dX3_moveTo_76 : decode cX3_moveTo 76 = .ok (.getfield 20, 3) := by decide +kernel
theorem dX3_moveTo_79 : decode cX3_moveTo 79 = .ok (.getfield 161, 3) := by decide +kernel
theorem dX3_moveTo_82 : decode cX3_moveTo 82 = .ok (.iload_n 1, 1) := by decide +kernel
theorem dX3_moveTo_83 : decode cX3_moveTo 83 = .ok (.iload_n 2, 1) := by decide +kernel
theorem dX3_moveTo_84 : decode cX3_moveTo 84 = .ok (.invokestatic 264, 3) := by decide +kernel
theorem dX3_moveTo_87 : decode cX3_moveTo 87 = .ok (.iload 4, 2) := by decide +kernel
theorem dX3_moveTo_89 : decode cX3_moveTo 89 = .ok (.ireturn, 1) := by decide +kernel
theorem dX3_buyCandles_0 : decode cX3_buyCandles 0 = .ok (.iload_n 1, 1) := by decide +kernel
theorem dX3_buyCandles_1 : decode cX3_buyCandles 1 = .ok (.iconst 1, 1) := by decide +kernel
theorem dX3_buyCandles_2 : decode cX3_buyCandles 2 = .ok (.if_icmp .lt 10, 3) := by decide +kernel
theorem dX3_buyCandles_5 : decode cX3_buyCandles 5 = .ok (.iload_n 1, 1) := by decide +kernel
theorem dX3_buyCandles_6 : decode cX3_buyCandles 6 = .ok (.sipush 999, 3) := by decide +kernel
theorem dX3_buyCandles_9 : decode cX3_buyCandles 9 = .ok (.if_icmp .le 14, 3) := by decide +kernel
theorem dX3_buyCandles_12 : decode cX3_buyCandles 12 = .ok (.new 105, 3) := by decide +kernel
theorem dX3_buyCandles_15 : decode cX3_buyCandles 15 = .ok (.dup, 1) := by decide +kernel
theorem dX3_buyCandles_16 : decode cX3_buyCandles 16 = .ok (.ldc_w 270, 3) := by decide +kernel
theorem dX3_buyCandles_19 : decode cX3_buyCandles 19 = .ok (.invokespecial 109, 3) := by decide +kernel
theorem dX3_buyCandles_22 : decode cX3_buyCandles 22 = .ok (.athrow, 1) := by decide +kernel
theorem dX3_buyCandles_23 : decode cX3_buyCandles 23 = .ok (.aload_n 0, 1) := by decide +kernel
theorem dX3_buyCandles_24 : decode cX3_buyCandles 24 = .ok (.getfield 20, 3) := by decide +kernel
theorem dX3_buyCandles_27 : decode cX3_buyCandles 27 = .ok (.getfield 135, 3) := by decide +kernel
theorem dX3_buyCandles_30 : decode cX3_buyCandles 30 = .ok (.iload_n 1, 1) := by decide +kernel
theorem dX3_buyCandles_31 : decode cX3_buyCandles 31 = .ok (.iadd, 1) := by decide +kernel
theorem dX3_buyCandles_32 : decode cX3_buyCandles 32 = .ok (.sipush 9999, 3) := by decide +kernel
theorem dX3_buyCandles_35 : decode cX3_buyCandles 35 = .ok (.if_icmp .le 14, 3) := by decide +kernel
theorem dX3_buyCandles_38 : decode cX3_buyCandles 38 = .ok (.new 81, 3) := by decide +kernel
theorem dX3_buyCandles_41 : decode cX3_buyCandles 41 = .ok (.dup, 1) := by decide +kernel
theorem dX3_buyCandles_42 : decode cX3_buyCandles 42 = .ok (.ldc_w 272, 3) := by decide +kernel
theorem dX3_buyCandles_45 : decode cX3_buyCandles 45 = .ok (.invokespecial 85, 3) := by decide +kernel
theorem dX3_buyCandles_48 : decode cX3_buyCandles 48 = .ok (.athrow, 1) := by decide +kernel
theorem dX3_buyCandles_49 : decode cX3_buyCandles 49 = .ok (.aload_n 0, 1) := by decide +kernel
theorem dX3_buyCandles_50 : decode cX3_buyCandles 50 = .ok (.getfield 37, 3) := by decide +kernel
theorem dX3_buyCandles_53 : decode cX3_buyCandles 53 = .ok (.aload_n 0, 1) := by decide +kernel
theorem dX3_buyCandles_54 : decode cX3_buyCandles 54 = .ok (.getfield 20, 3) := by decide +kernel
theorem dX3_buyCandles_57 : decode cX3_buyCandles 57 = .ok (.invokevirtual 254, 3) := by decide +kernel
theorem dX3_buyCandles_60 : decode cX3_buyCandles 60 = .ok (.aload_n 0, 1) := by decide +kernel
theorem dX3_buyCandles_61 : decode cX3_buyCandles 61 = .ok (.getfield 20, 3) := by decide +kernel
theorem dX3_buyCandles_64 : decode cX3_buyCandles 64 = .ok (.dup, 1) := by decide +kernel
theorem dX3_buyCandles_65 : decode cX3_buyCandles 65 = .ok (.getfield 135, 3) := by decide +kernel
theorem dX3_buyCandles_68 : decode cX3_buyCandles 68 = .ok (.iload_n 1, 1) := by decide +kernel
theorem dX3_buyCandles_69 : decode cX3_buyCandles 69 = .ok (.iadd, 1) := by decide +kernel
theorem dX3_buyCandles_70 : decode cX3_buyCandles 70 = .ok (.putfield 135, 3) := by decide +kernel
theorem dX3_buyCandles_73 : decode cX3_buyCandles 73 = .ok (.aload_n 0, 1) := by decide +kernel
theorem dX3_buyCandles_74 : decode cX3_buyCandles 74 = .ok (.getfield 20, 3) := by decide +kernel
theorem dX3_buyCandles_77 : decode cX3_buyCandles 77 = .ok (.dup, 1) := by decide +kernel
theorem dX3_buyCandles_78 : decode cX3_buyCandles 78 = .ok (.getfield 241, 3) := by decide +kernel
theorem dX3_buyCandles_81 : decode cX3_buyCandles 81 = .ok (.iload_n 1, 1) := by decide +kernel
theorem dX3_buyCandles_82 : decode cX3_buyCandles 82 = .ok (.iadd, 1) := by decide +kernel
theorem dX3_buyCandles_83 : decode cX3_buyCandles 83 = .ok (.putfield 241, 3) := by decide +kernel
theorem dX3_buyCandles_86 : decode cX3_buyCandles 86 = .ok (.aload_n 0, 1) := by decide +kernel
theorem dX3_buyCandles_87 : decode cX3_buyCandles 87 = .ok (.getfield 20, 3) := by decide +kernel
theorem dX3_buyCandles_90 : decode cX3_buyCandles 90 = .ok (.getfield 135, 3) := by decide +kernel
theorem dX3_buyCandles_93 : decode cX3_buyCandles 93 = .ok (.ireturn, 1) := by decide +kernel
theorem dX3_bakeCakes_0 : decode cX3_bakeCakes 0 = .ok (.iload_n 1, 1) := by decide +kernel
theorem dX3_bakeCakes_1 : decode cX3_bakeCakes 1 = .ok (.invokestatic 138, 3) := by decide +kernel
theorem dX3_bakeCakes_4 : decode cX3_bakeCakes 4 = .ok (.iload_n 2, 1) := by decide +kernel
theorem dX3_bakeCakes_5 : decode cX3_bakeCakes 5 = .ok (.iconst 1, 1) := by decide +kernel
theorem dX3_bakeCakes_6 : decode cX3_bakeCakes 6 = .ok (.if_icmp .lt 9, 3) := by decide +kernel
theorem dX3_bakeCakes_9 : decode cX3_bakeCakes 9 = .ok (.iload_n 2, 1) := by decide +kernel
theorem dX3_bakeCakes_10 : decode cX3_bakeCakes 10 = .ok (.bipush 99, 2) := by decide +kernel
theorem dX3_bakeCakes_12 : decode cX3_bakeCakes 12 = .ok (.if_icmp .le 14, 3) := by decide +kernel
theorem dX3_bakeCakes_15 : decode cX3_bakeCakes 15 = .ok (.new 105, 3) := by decide +kernel
theorem dX3_bakeCakes_18 : decode cX3_bakeCakes 18 = .ok (.dup, 1) := by decide +kernel
theorem dX3_bakeCakes_19 : decode cX3_bakeCakes 19 = .ok (.ldc_w 270, 3) := by decide +kernel
theorem dX3_bakeCakes_22 : decode cX3_bakeCakes 22 = .ok (.invokespecial 109, 3) := by decide +kernel
theorem dX3_bakeCakes_25 : decode cX3_bakeCakes 25 = .ok (.athrow, 1) := by decide +kernel
theorem dX3_bakeCakes_26 : decode cX3_bakeCakes 26 = .ok (.aload_n 0, 1) := by decide +kernel
theorem dX3_bakeCakes_27 : decode cX3_bakeCakes 27 = .ok (.getfield 20, 3) := by decide +kernel
theorem dX3_bakeCakes_30 : decode cX3_bakeCakes 30 = .ok (.getfield 141, 3) := by decide +kernel
theorem dX3_bakeCakes_33 : decode cX3_bakeCakes 33 = .ok (.iload_n 1, 1) := by decide +kernel
theorem dX3_bakeCakes_34 : decode cX3_bakeCakes 34 = .ok (.invokestatic 145, 3) := by decide +kernel
theorem dX3_bakeCakes_37 : decode cX3_bakeCakes 37 = .ok (.iload_n 2, 1) := by decide +kernel
theorem dX3_bakeCakes_38 : decode cX3_bakeCakes 38 = .ok (.iadd, 1) := by decide +kernel
theorem dX3_bakeCakes_39 : decode cX3_bakeCakes 39 = .ok (.bipush 99, 2) := by decide +kernel
theorem dX3_bakeCakes_41 : decode cX3_bakeCakes 41 = .ok (.if_icmp .le 14, 3) := by decide +kernel
theorem dX3_bakeCakes_44 : decode cX3_bakeCakes 44 = .ok (.new 81, 3) := by decide +kernel
theorem dX3_bakeCakes_47 : decode cX3_bakeCakes 47 = .ok (.dup, 1) := by decide +kernel
theorem dX3_bakeCakes_48 : decode cX3_bakeCakes 48 = .ok (.ldc_w 274, 3) := by decide +kernel
theorem dX3_bakeCakes_51 : decode cX3_bakeCakes 51 = .ok (.invokespecial 85, 3) := by decide +kernel
theorem dX3_bakeCakes_54 : decode cX3_bakeCakes 54 = .ok (.athrow, 1) := by decide +kernel
theorem dX3_bakeCakes_55 : decode cX3_bakeCakes 55 = .ok (.aload_n 0, 1) := by decide +kernel
theorem dX3_bakeCakes_56 : decode cX3_bakeCakes 56 = .ok (.getfield 37, 3) := by decide +kernel
theorem dX3_bakeCakes_59 : decode cX3_bakeCakes 59 = .ok (.aload_n 0, 1) := by decide +kernel
theorem dX3_bakeCakes_60 : decode cX3_bakeCakes 60 = .ok (.getfield 20, 3) := by decide +kernel
theorem dX3_bakeCakes_63 : decode cX3_bakeCakes 63 = .ok (.invokevirtual 254, 3) := by decide +kernel
theorem dX3_bakeCakes_66 : decode cX3_bakeCakes 66 = .ok (.aload_n 0, 1) := by decide +kernel
theorem dX3_bakeCakes_67 : decode cX3_bakeCakes 67 = .ok (.getfield 20, 3) := by decide +kernel
theorem dX3_bakeCakes_70 : decode cX3_bakeCakes 70 = .ok (.getfield 141, 3) := by decide +kernel
theorem dX3_bakeCakes_73 : decode cX3_bakeCakes 73 = .ok (.iload_n 1, 1) := by decide +kernel
theorem dX3_bakeCakes_74 : decode cX3_bakeCakes 74 = .ok (.iload_n 2, 1) := by decide +kernel
theorem dX3_bakeCakes_75 : decode cX3_bakeCakes 75 = .ok (.invokestatic 276, 3) := by decide +kernel
theorem dX3_bakeCakes_78 : decode cX3_bakeCakes 78 = .ok (.aload_n 0, 1) := by decide +kernel
theorem dX3_bakeCakes_79 : decode cX3_bakeCakes 79 = .ok (.getfield 20, 3) := by decide +kernel
theorem dX3_bakeCakes_82 : decode cX3_bakeCakes 82 = .ok (.getfield 141, 3) := by decide +kernel
theorem dX3_bakeCakes_85 : decode cX3_bakeCakes 85 = .ok (.iload_n 1, 1) := by decide +kernel
theorem dX3_bakeCakes_86 : decode cX3_bakeCakes 86 = .ok (.invokestatic 145, 3) := by decide +kernel
theorem dX3_bakeCakes_89 : decode cX3_bakeCakes 89 = .ok (.ireturn, 1) := by decide +kernel
theorem dX3_restore_0 : decode cX3_restore 0 = .ok (.iload_n 1, 1) := by decide +kernel
theorem dX3_restore_1 : decode cX3_restore 1 = .ok (.invokestatic 279, 3) := by decide +kernel
theorem dX3_restore_4 : decode cX3_restore 4 = .ok (.aload_n 0, 1) := by decide +kernel
theorem dX3_restore_5 : decode cX3_restore 5 = .ok (.iload_n 1, 1) := by decide +kernel
theorem dX3_restore_6 : decode cX3_restore 6 = .ok (.invokevirtual 282, 3) := by decide +kernel
theorem dX3_restore_9 : decode cX3_restore 9 = .ok (.astore_n 2, 1) := by decide +kernel
theorem dX3_restore_10 : decode cX3_restore 10 = .ok (.aload_n 2, 1) := by decide +kernel
theorem dX3_restore_11 : decode cX3_restore 11 = .ok (.ifnull 11, 3) := by decide +kernel
theorem dX3_restore_14 : decode cX3_restore 14 = .ok (.aload_n 0, 1) := by decide +kernel
theorem dX3_restore_15 : decode cX3_restore 15 = .ok (.iload_n 1, 1) := by decide +kernel
theorem dX3_restore_16 : decode cX3_restore 16 = .ok (.invokevirtual 286, 3) := by decide +kernel
theorem dX3_restore_19 : decode cX3_restore 19 = .ok (.ifCond .ne 14, 3) := by decide +kernel
theorem dX3_restore_22 : decode cX3_restore 22 = .ok (.new 81, 3) := by decide +kernel
theorem dX3_restore_25 : decode cX3_restore 25 = .ok (.dup, 1) := by decide +kernel
theorem dX3_restore_26 : decode cX3_restore 26 = .ok (.ldc_w 289, 3) := by decide +kernel
theorem dX3_restore_29 : decode cX3_restore 29 = .ok (.invokespecial 85, 3) := by decide +kernel
theorem dX3_restore_32 : decode cX3_restore 32 = .ok (.athrow, 1) := by decide +kernel
theorem dX3_restore_33 : decode cX3_restore 33 = .ok (.aload_n 0, 1) := by decide +kernel
theorem dX3_restore_34 : decode cX3_restore 34 = .ok (.getfield 37, 3) := by decide +kernel
theorem dX3_restore_37 : decode cX3_restore 37 = .ok (.aload_n 0, 1) := by decide +kernel
theorem dX3_restore_38 : decode cX3_restore 38 = .ok (.getfield 20, 3) := by decide +kernel
theorem dX3_restore_41 : decode cX3_restore 41 = .ok (.invokevirtual 254, 3) := by decide +kernel
theorem dX3_restore_44 : decode cX3_restore 44 = .ok (.aload_n 0, 1) := by decide +kernel
theorem dX3_restore_45 : decode cX3_restore 45 = .ok (.getfield 20, 3) := by decide +kernel
theorem dX3_restore_48 : decode cX3_restore 48 = .ok (.aload_n 2, 1) := by decide +kernel
theorem dX3_restore_49 : decode cX3_restore 49 = .ok (.invokevirtual 77, 3) := by decide +kernel
theorem dX3_restore_52 : decode cX3_restore 52 = .ok (.aload_n 0, 1) := by decide +kernel
theorem dX3_restore_53 : decode cX3_restore 53 = .ok (.getfield 20, 3) := by decide +kernel
theorem dX3_restore_56 : decode cX3_restore 56 = .ok (.getfield 116, 3) := by decide +kernel
theorem dX3_restore_59 : decode cX3_restore 59 = .ok (.ireturn, 1) := by decide +kernel
theorem dX3_stateIn_0 : decode cX3_stateIn 0 = .ok (.iload_n 1, 1) := by decide +kernel
theorem dX3_stateIn_1 : decode cX3_stateIn 1 = .ok (.ifCond .lt 21, 3) := by decide +kernel
theorem dX3_stateIn_4 : decode cX3_stateIn 4 = .ok (.iload_n 1, 1) := by decide +kernel
theorem dX3_stateIn_5 : decode cX3_stateIn 5 = .ok (.aload_n 0, 1) := by decide +kernel
theorem dX3_stateIn_6 : decode cX3_stateIn 6 = .ok (.getfield 41, 3) := by decide +kernel
theorem dX3_stateIn_9 : decode cX3_stateIn 9 = .ok (.arraylength, 1) := by decide +kernel
theorem dX3_stateIn_10 : decode cX3_stateIn 10 = .ok (.if_icmp .ge 12, 3) := by decide +kernel
theorem dX3_stateIn_13 : decode cX3_stateIn 13 = .ok (.aload_n 0, 1) := by decide +kernel
theorem dX3_stateIn_14 : decode cX3_stateIn 14 = .ok (.getfield 41, 3) := by decide +kernel
theorem dX3_stateIn_17 : decode cX3_stateIn 17 = .ok (.iload_n 1, 1) := by decide +kernel
theorem dX3_stateIn_18 : decode cX3_stateIn 18 = .ok (.aaload, 1) := by decide +kernel
theorem dX3_stateIn_19 : decode cX3_stateIn 19 = .ok (.goto 4, 3) := by decide +kernel
theorem dX3_stateIn_22 : decode cX3_stateIn 22 = .ok (.aconst_null, 1) := by decide +kernel
theorem dX3_stateIn_23 : decode cX3_stateIn 23 = .ok (.areturn, 1) := by decide +kernel
theorem dX3_isFilled_0 : decode cX3_isFilled 0 = .ok (.iload_n 1, 1) := by decide +kernel
theorem dX3_isFilled_1 : decode cX3_isFilled 1 = .ok (.ifCond .lt 25, 3) := by decide +kernel
theorem dX3_isFilled_4 : decode cX3_isFilled 4 = .ok (.iload_n 1, 1) := by decide +kernel
theorem dX3_isFilled_5 : decode cX3_isFilled 5 = .ok (.aload_n 0, 1) := by decide +kernel
theorem dX3_isFilled_6 : decode cX3_isFilled 6 = .ok (.getfield 45, 3) := by decide +kernel
theorem dX3_isFilled_9 : decode cX3_isFilled 9 = .ok (.arraylength, 1) := by decide +kernel
theorem dX3_isFilled_10 : decode cX3_isFilled 10 = .ok (.if_icmp .ge 16, 3) := by decide +kernel
theorem dX3_isFilled_13 : decode cX3_isFilled 13 = .ok (.aload_n 0, 1) := by decide +kernel
theorem dX3_isFilled_14 : decode cX3_isFilled 14 = .ok (.getfield 45, 3) := by decide +kernel
theorem dX3_isFilled_17 : decode cX3_isFilled 17 = .ok (.iload_n 1, 1) := by decide +kernel
theorem dX3_isFilled_18 : decode cX3_isFilled 18 = .ok (.baload, 1) := by decide +kernel
theorem dX3_isFilled_19 : decode cX3_isFilled 19 = .ok (.ifCond .eq 7, 3) := by decide +kernel
theorem dX3_isFilled_22 : decode cX3_isFilled 22 = .ok (.iconst 1, 1) := by decide +kernel
theorem dX3_isFilled_23 : decode cX3_isFilled 23 = .ok (.goto 4, 3) := by decide +kernel
theorem dX3_isFilled_26 : decode cX3_isFilled 26 = .ok (.iconst 0, 1) := by decide +kernel
theorem dX3_isFilled_27 : decode cX3_isFilled 27 = .ok (.ireturn, 1) := by decide +kernel
theorem dX3_undo_0 : decode cX3_undo 0 = .ok (.aload_n 0, 1) := by decide +kernel
theorem dX3_undo_1 : decode cX3_undo 1 = .ok (.getfield 37, 3) := by decide +kernel
theorem dX3_undo_4 : decode cX3_undo 4 = .ok (.getfield 291, 3) := by decide +kernel
theorem dX3_undo_7 : decode cX3_undo 7 = .ok (.ifCond .ne 14, 3) := by decide +kernel
theorem dX3_undo_10 : decode cX3_undo 10 = .ok (.new 81, 3) := by decide +kernel
theorem dX3_undo_13 : decode cX3_undo 13 = .ok (.dup, 1) := by decide +kernel
theorem dX3_undo_14 : decode cX3_undo 14 = .ok (.ldc_w 294, 3) := by decide +kernel
theorem dX3_undo_17 : decode cX3_undo 17 = .ok (.invokespecial 85, 3) := by decide +kernel
theorem dX3_undo_20 : decode cX3_undo 20 = .ok (.athrow, 1) := by decide +kernel
theorem dX3_undo_21 : decode cX3_undo 21 = .ok (.aload_n 0, 1) := by decide +kernel
theorem dX3_undo_22 : decode cX3_undo 22 = .ok (.getfield 37, 3) := by decide +kernel
theorem dX3_undo_25 : decode cX3_undo 25 = .ok (.aload_n 0, 1) := by decide +kernel
theorem dX3_undo_26 : decode cX3_undo 26 = .ok (.getfield 20, 3) := by decide +kernel
theorem dX3_undo_29 : decode cX3_undo 29 = .ok (.invokevirtual 296, 3) := by decide +kernel
theorem dX3_undo_32 : decode cX3_undo 32 = .ok (.aload_n 0, 1) := by decide +kernel
theorem dX3_undo_33 : decode cX3_undo 33 = .ok (.getfield 37, 3) := by decide +kernel
theorem dX3_undo_36 : decode cX3_undo 36 = .ok (.getfield 291, 3) := by decide +kernel
theorem dX3_undo_39 : decode cX3_undo 39 = .ok (.ireturn, 1) := by decide +kernel
theorem dX3_save_0 : decode cX3_save 0 = .ok (.iload_n 1, 1) := by decide +kernel
theorem dX3_save_1 : decode cX3_save 1 = .ok (.invokestatic 279, 3) := by decide +kernel
theorem dX3_save_4 : decode cX3_save 4 = .ok (.aload_n 0, 1) := by decide +kernel
theorem dX3_save_5 : decode cX3_save 5 = .ok (.iload_n 1, 1) := by decide +kernel
theorem dX3_save_6 : decode cX3_save 6 = .ok (.invokevirtual 282, 3) := by decide +kernel
theorem dX3_save_9 : decode cX3_save 9 = .ok (.astore_n 2, 1) := by decide +kernel
theorem dX3_save_10 : decode cX3_save 10 = .ok (.aload_n 2, 1) := by decide +kernel
theorem dX3_save_11 : decode cX3_save 11 = .ok (.ifnull 31, 3) := by decide +kernel
theorem dX3_save_14 : decode cX3_save 14 = .ok (.iload_n 1, 1) := by decide +kernel
theorem dX3_save_15 : decode cX3_save 15 = .ok (.ifCond .lt 27, 3) := by decide +kernel
theorem dX3_save_18 : decode cX3_save 18 = .ok (.iload_n 1, 1) := by decide +kernel
theorem dX3_save_19 : decode cX3_save 19 = .ok (.aload_n 0, 1) := by decide +kernel
theorem dX3_save_20 : decode cX3_save 20 = .ok (.getfield 45, 3) := by decide +kernel
theorem dX3_save_23 : decode cX3_save 23 = .ok (.arraylength, 1) := by decide +kernel
theorem dX3_save_24 : decode cX3_save 24 = .ok (.if_icmp .ge 18, 3) := by decide +kernel
theorem dX3_save_27 : decode cX3_save 27 = .ok (.aload_n 2, 1) := by decide +kernel
theorem dX3_save_28 : decode cX3_save 28 = .ok (.aload_n 0, 1) := by decide +kernel
theorem dX3_save_29 : decode cX3_save 29 = .ok (.getfield 20, 3) := by decide +kernel
theorem dX3_save_32 : decode cX3_save 32 = .ok (.invokevirtual 77, 3) := by decide +kernel
theorem dX3_save_35 : decode cX3_save 35 = .ok (.aload_n 0, 1) := by decide +kernel
theorem dX3_save_36 : decode cX3_save 36 = .ok (.getfield 45, 3) := by decide +kernel
theorem dX3_save_39 : decode cX3_save 39 = .ok (.iload_n 1, 1) := by decide +kernel
theorem dX3_save_40 : decode cX3_save 40 = .ok (.iconst 1, 1) := by decide +kernel
theorem dX3_save_41 : decode cX3_save 41 = .ok (.bastore, 1) := by decide +kernel
theorem dX3_save_42 : decode cX3_save 42 = .ok (.aload_n 0, 1) := by decide +kernel
theorem dX3_save_43 : decode cX3_save 43 = .ok (.getfield 20, 3) := by decide +kernel
theorem dX3_save_46 : decode cX3_save 46 = .ok (.getfield 116, 3) := by decide +kernel
theorem dX3_save_49 : decode cX3_save 49 = .ok (.ireturn, 1) := by decide +kernel
theorem dX3_needChild_0 : decode cX3_needChild 0 = .ok (.iload_n 1, 1) := by decide +kernel
theorem dX3_needChild_1 : decode cX3_needChild 1 = .ok (.ifCond .lt 14, 3) := by decide +kernel
theorem dX3_needChild_4 : decode cX3_needChild 4 = .ok (.iload_n 1, 1) := by decide +kernel
theorem dX3_needChild_5 : decode cX3_needChild 5 = .ok (.aload_n 0, 1) := by decide +kernel
theorem dX3_needChild_6 : decode cX3_needChild 6 = .ok (.getfield 20, 3) := by decide +kernel
theorem dX3_needChild_9 : decode cX3_needChild 9 = .ok (.getfield 113, 3) := by decide +kernel
theorem dX3_needChild_12 : decode cX3_needChild 12 = .ok (.if_icmp .lt 14, 3) := by decide +kernel
theorem dX3_needChild_15 : decode cX3_needChild 15 = .ok (.new 91, 3) := by decide +kernel
theorem dX3_needChild_18 : decode cX3_needChild 18 = .ok (.dup, 1) := by decide +kernel
theorem dX3_needChild_19 : decode cX3_needChild 19 = .ok (.ldc_w 318, 3) := by decide +kernel
theorem dX3_needChild_22 : decode cX3_needChild 22 = .ok (.invokespecial 95, 3) := by decide +kernel
theorem dX3_needChild_25 : decode cX3_needChild 25 = .ok (.athrow, 1) := by decide +kernel
theorem dX3_needChild_26 : decode cX3_needChild 26 = .ok (.return_, 1) := by decide +kernel
theorem dX3_needGarden_0 : decode cX3_needGarden 0 = .ok (.iload_n 1, 1) := by decide +kernel
theorem dX3_needGarden_1 : decode cX3_needGarden 1 = .ok (.ifCond .lt 14, 3) := by decide +kernel
theorem dX3_needGarden_4 : decode cX3_needGarden 4 = .ok (.iload_n 1, 1) := by decide +kernel
theorem dX3_needGarden_5 : decode cX3_needGarden 5 = .ok (.aload_n 0, 1) := by decide +kernel
theorem dX3_needGarden_6 : decode cX3_needGarden 6 = .ok (.getfield 20, 3) := by decide +kernel
theorem dX3_needGarden_9 : decode cX3_needGarden 9 = .ok (.getfield 152, 3) := by decide +kernel
theorem dX3_needGarden_12 : decode cX3_needGarden 12 = .ok (.if_icmp .lt 14, 3) := by decide +kernel
theorem dX3_needGarden_15 : decode cX3_needGarden 15 = .ok (.new 91, 3) := by decide +kernel
theorem dX3_needGarden_18 : decode cX3_needGarden 18 = .ok (.dup, 1) := by decide +kernel
theorem dX3_needGarden_19 : decode cX3_needGarden 19 = .ok (.ldc_w 320, 3) := by decide +kernel
theorem dX3_needGarden_22 : decode cX3_needGarden 22 = .ok (.invokespecial 95, 3) := by decide +kernel
theorem dX3_needGarden_25 : decode cX3_needGarden 25 = .ok (.athrow, 1) := by decide +kernel
theorem dX3_needGarden_26 : decode cX3_needGarden 26 = .ok (.return_, 1) := by decide +kernel
theorem dX3_needSlot_0 : decode cX3_needSlot 0 = .ok (.iload_n 0, 1) := by decide +kernel
theorem dX3_needSlot_1 : decode cX3_needSlot 1 = .ok (.ifCond .lt 8, 3) := by decide +kernel
theorem dX3_needSlot_4 : decode cX3_needSlot 4 = .ok (.iload_n 0, 1) := by decide +kernel
theorem dX3_needSlot_5 : decode cX3_needSlot 5 = .ok (.iconst 2, 1) := by decide +kernel
theorem dX3_needSlot_6 : decode cX3_needSlot 6 = .ok (.if_icmp .lt 14, 3) := by decide +kernel
theorem dX3_needSlot_9 : decode cX3_needSlot 9 = .ok (.new 91, 3) := by decide +kernel
theorem dX3_needSlot_12 : decode cX3_needSlot 12 = .ok (.dup, 1) := by decide +kernel
theorem dX3_needSlot_13 : decode cX3_needSlot 13 = .ok (.ldc_w 322, 3) := by decide +kernel
theorem dX3_needSlot_16 : decode cX3_needSlot 16 = .ok (.invokespecial 95, 3) := by decide +kernel
theorem dX3_needSlot_19 : decode cX3_needSlot 19 = .ok (.athrow, 1) := by decide +kernel
theorem dX3_needSlot_20 : decode cX3_needSlot 20 = .ok (.return_, 1) := by decide +kernel
theorem dX3_needDate_0 : decode cX3_needDate 0 = .ok (.iload_n 0, 1) := by decide +kernel
theorem dX3_needDate_1 : decode cX3_needDate 1 = .ok (.iconst 1, 1) := by decide +kernel
theorem dX3_needDate_2 : decode cX3_needDate 2 = .ok (.if_icmp .lt 20, 3) := by decide +kernel
theorem dX3_needDate_5 : decode cX3_needDate 5 = .ok (.iload_n 0, 1) := by decide +kernel
theorem dX3_needDate_6 : decode cX3_needDate 6 = .ok (.bipush 12, 2) := by decide +kernel
theorem dX3_needDate_8 : decode cX3_needDate 8 = .ok (.if_icmp .gt 14, 3) := by decide +kernel
theorem dX3_needDate_11 : decode cX3_needDate 11 = .ok (.iload_n 1, 1) := by decide +kernel
theorem dX3_needDate_12 : decode cX3_needDate 12 = .ok (.iconst 1, 1) := by decide +kernel
theorem dX3_needDate_13 : decode cX3_needDate 13 = .ok (.if_icmp .lt 9, 3) := by decide +kernel
theorem dX3_needDate_16 : decode cX3_needDate 16 = .ok (.iload_n 1, 1) := by decide +kernel
theorem dX3_needDate_17 : decode cX3_needDate 17 = .ok (.bipush 30, 2) := by decide +kernel
theorem dX3_needDate_19 : decode cX3_needDate 19 = .ok (.if_icmp .le 13, 3) := by decide +kernel
theorem dX3_needDate_22 : decode cX3_needDate 22 = .ok (.new 105, 3) := by decide +kernel
theorem dX3_needDate_25 : decode cX3_needDate 25 = .ok (.dup, 1) := by decide +kernel
theorem dX3_needDate_26 : decode cX3_needDate 26 = .ok (.ldc 207, 2) := by decide +kernel
theorem dX3_needDate_28 : decode cX3_needDate 28 = .ok (.invokespecial 109, 3) := by decide +kernel
theorem dX3_needDate_31 : decode cX3_needDate 31 = .ok (.athrow, 1) := by decide +kernel
theorem dX3_needDate_32 : decode cX3_needDate 32 = .ok (.return_, 1) := by decide +kernel
theorem dX3_needKind_0 : decode cX3_needKind 0 = .ok (.iload_n 0, 1) := by decide +kernel
theorem dX3_needKind_1 : decode cX3_needKind 1 = .ok (.ifCond .lt 9, 3) := by decide +kernel
theorem dX3_needKind_4 : decode cX3_needKind 4 = .ok (.iload_n 0, 1) := by decide +kernel
theorem dX3_needKind_5 : decode cX3_needKind 5 = .ok (.bipush 6, 2) := by decide +kernel
theorem dX3_needKind_7 : decode cX3_needKind 7 = .ok (.if_icmp .lt 14, 3) := by decide +kernel
theorem dX3_needKind_10 : decode cX3_needKind 10 = .ok (.new 105, 3) := by decide +kernel
theorem dX3_needKind_13 : decode cX3_needKind 13 = .ok (.dup, 1) := by decide +kernel
theorem dX3_needKind_14 : decode cX3_needKind 14 = .ok (.ldc_w 324, 3) := by decide +kernel
theorem dX3_needKind_17 : decode cX3_needKind 17 = .ok (.invokespecial 109, 3) := by decide +kernel
theorem dX3_needKind_20 : decode cX3_needKind 20 = .ok (.athrow, 1) := by decide +kernel
theorem dX3_needKind_21 : decode cX3_needKind 21 = .ok (.return_, 1) := by decide +kernel
theorem dX3_needForecastDays_0 : decode cX3_needForecastDays 0 = .ok (.iload_n 0, 1) := by decide +kernel
theorem dX3_needForecastDays_1 : decode cX3_needForecastDays 1 = .ok (.ifCond .lt 10, 3) := by decide +kernel
theorem dX3_needForecastDays_4 : decode cX3_needForecastDays 4 = .ok (.iload_n 0, 1) := by decide +kernel
theorem dX3_needForecastDays_5 : decode cX3_needForecastDays 5 = .ok (.sipush 720, 3) := by decide +kernel
theorem dX3_needForecastDays_8 : decode cX3_needForecastDays 8 = .ok (.if_icmp .le 13, 3) := by decide +kernel
theorem dX3_needForecastDays_11 : decode cX3_needForecastDays 11 = .ok (.new 105, 3) := by decide +kernel
theorem dX3_needForecastDays_14 : decode cX3_needForecastDays 14 = .ok (.dup, 1) := by decide +kernel
theorem dX3_needForecastDays_15 : decode cX3_needForecastDays 15 = .ok (.ldc 247, 2) := by decide +kernel
theorem dX3_needForecastDays_17 : decode cX3_needForecastDays 17 = .ok (.invokespecial 109, 3) := by decide +kernel
theorem dX3_needForecastDays_20 : decode cX3_needForecastDays 20 = .ok (.athrow, 1) := by decide +kernel
theorem dX3_needForecastDays_21 : decode cX3_needForecastDays 21 = .ok (.return_, 1) := by decide +kernel
theorem dX3_dateOf_0 : decode cX3_dateOf 0 = .ok (.iload_n 0, 1) := by decide +kernel
theorem dX3_dateOf_1 : decode cX3_dateOf 1 = .ok (.iconst 1, 1) := by decide +kernel
theorem dX3_dateOf_2 : decode cX3_dateOf 2 = .ok (.isub, 1) := by decide +kernel
theorem dX3_dateOf_3 : decode cX3_dateOf 3 = .ok (.bipush 30, 2) := by decide +kernel
theorem dX3_dateOf_5 : decode cX3_dateOf 5 = .ok (.imul, 1) := by decide +kernel
theorem dX3_dateOf_6 : decode cX3_dateOf 6 = .ok (.iload_n 1, 1) := by decide +kernel
theorem dX3_dateOf_7 : decode cX3_dateOf 7 = .ok (.iadd, 1) := by decide +kernel
theorem dX3_dateOf_8 : decode cX3_dateOf 8 = .ok (.iconst 1, 1) := by decide +kernel
theorem dX3_dateOf_9 : decode cX3_dateOf 9 = .ok (.isub, 1) := by decide +kernel
theorem dX3_dateOf_10 : decode cX3_dateOf 10 = .ok (.ireturn, 1) := by decide +kernel
theorem dX3_monthAt_0 : decode cX3_monthAt 0 = .ok (.iload_n 0, 1) := by decide +kernel
theorem dX3_monthAt_1 : decode cX3_monthAt 1 = .ok (.bipush 30, 2) := by decide +kernel
theorem dX3_monthAt_3 : decode cX3_monthAt 3 = .ok (.idiv, 1) := by decide +kernel
theorem dX3_monthAt_4 : decode cX3_monthAt 4 = .ok (.iconst 1, 1) := by decide +kernel
theorem dX3_monthAt_5 : decode cX3_monthAt 5 = .ok (.iadd, 1) := by decide +kernel
theorem dX3_monthAt_6 : decode cX3_monthAt 6 = .ok (.ireturn, 1) := by decide +kernel
theorem dX3_dayAt_0 : decode cX3_dayAt 0 = .ok (.iload_n 0, 1) := by decide +kernel
theorem dX3_dayAt_1 : decode cX3_dayAt 1 = .ok (.bipush 30, 2) := by decide +kernel
theorem dX3_dayAt_3 : decode cX3_dayAt 3 = .ok (.irem, 1) := by decide +kernel
theorem dX3_dayAt_4 : decode cX3_dayAt 4 = .ok (.iconst 1, 1) := by decide +kernel
theorem dX3_dayAt_5 : decode cX3_dayAt 5 = .ok (.iadd, 1) := by decide +kernel
theorem dX3_dayAt_6 : decode cX3_dayAt 6 = .ok (.ireturn, 1) := by decide +kernel
theorem dX3_seedAfter_0 : decode cX3_seedAfter 0 = .ok (.iload_n 0, 1) := by decide +kernel
theorem dX3_seedAfter_1 : decode cX3_seedAfter 1 = .ok (.sipush 211, 3) := by decide +kernel
theorem dX3_seedAfter_4 : decode cX3_seedAfter 4 = .ok (.imul, 1) := by decide +kernel
theorem dX3_seedAfter_5 : decode cX3_seedAfter 5 = .ok (.bipush 97, 2) := by decide +kernel
theorem dX3_seedAfter_7 : decode cX3_seedAfter 7 = .ok (.iadd, 1) := by decide +kernel
theorem dX3_seedAfter_8 : decode cX3_seedAfter 8 = .ok (.sipush 9973, 3) := by decide +kernel
theorem dX3_seedAfter_11 : decode cX3_seedAfter 11 = .ok (.irem, 1) := by decide +kernel
theorem dX3_seedAfter_12 : decode cX3_seedAfter 12 = .ok (.ireturn, 1) := by decide +kernel
theorem dX3_cell_0 : decode cX3_cell 0 = .ok (.iload_n 1, 1) := by decide +kernel
theorem dX3_cell_1 : decode cX3_cell 1 = .ok (.ifCond .lt 15, 3) := by decide +kernel
theorem dX3_cell_4 : decode cX3_cell 4 = .ok (.iload_n 1, 1) := by decide +kernel
theorem dX3_cell_5 : decode cX3_cell 5 = .ok (.aload_n 0, 1) := by decide +kernel
theorem dX3_cell_6 : decode cX3_cell 6 = .ok (.arraylength, 1) := by decide +kernel
theorem dX3_cell_7 : decode cX3_cell 7 = .ok (.if_icmp .ge 9, 3) := by decide +kernel
theorem dX3_cell_10 : decode cX3_cell 10 = .ok (.aload_n 0, 1) := by decide +kernel
theorem dX3_cell_11 : decode cX3_cell 11 = .ok (.iload_n 1, 1) := by decide +kernel
theorem dX3_cell_12 : decode cX3_cell 12 = .ok (.iaload, 1) := by decide +kernel
theorem dX3_cell_13 : decode cX3_cell 13 = .ok (.goto 4, 3) := by decide +kernel
theorem dX3_cell_16 : decode cX3_cell 16 = .ok (.iconst 0, 1) := by decide +kernel
theorem dX3_cell_17 : decode cX3_cell 17 = .ok (.ireturn, 1) := by decide +kernel
theorem dX3_setCell_0 : decode cX3_setCell 0 = .ok (.iload_n 1, 1) := by decide +kernel
theorem dX3_setCell_1 : decode cX3_setCell 1 = .ok (.ifCond .lt 13, 3) := by decide +kernel
theorem dX3_setCell_4 : decode cX3_setCell 4 = .ok (.iload_n 1, 1) := by decide +kernel
theorem dX3_setCell_5 : decode cX3_setCell 5 = .ok (.aload_n 0, 1) := by decide +kernel
theorem dX3_setCell_6 : decode cX3_setCell 6 = .ok (.arraylength, 1) := by decide +kernel
theorem dX3_setCell_7 : decode cX3_setCell 7 = .ok (.if_icmp .ge 7, 3) := by decide +kernel
theorem dX3_setCell_10 : decode cX3_setCell 10 = .ok (.aload_n 0, 1) := by decide +kernel
theorem dX3_setCell_11 : decode cX3_setCell 11 = .ok (.iload_n 1, 1) := by decide +kernel
theorem dX3_setCell_12 : decode cX3_setCell 12 = .ok (.iload_n 2, 1) := by decide +kernel
theorem dX3_setCell_13 : decode cX3_setCell 13 = .ok (.iastore, 1) := by decide +kernel
theorem dX3_setCell_14 : decode cX3_setCell 14 = .ok (.return_, 1) := by decide +kernel
theorem dX3_addToCell_0 : decode cX3_addToCell 0 = .ok (.iload_n 1, 1) := by decide +kernel
theorem dX3_addToCell_1 : decode cX3_addToCell 1 = .ok (.ifCond .lt 16, 3) := by decide +kernel
theorem dX3_addToCell_4 : decode cX3_addToCell 4 = .ok (.iload_n 1, 1) := by decide +kernel
theorem dX3_addToCell_5 : decode cX3_addToCell 5 = .ok (.aload_n 0, 1) := by decide +kernel
theorem dX3_addToCell_6 : decode cX3_addToCell 6 = .ok (.arraylength, 1) := by decide +kernel
theorem dX3_addToCell_7 : decode cX3_addToCell 7 = .ok (.if_icmp .ge 10, 3) := by decide +kernel
theorem dX3_addToCell_10 : decode cX3_addToCell 10 = .ok (.aload_n 0, 1) := by decide +kernel
theorem dX3_addToCell_11 : decode cX3_addToCell 11 = .ok (.iload_n 1, 1) := by decide +kernel
theorem dX3_addToCell_12 : decode cX3_addToCell 12 = .ok (.dup2, 1) := by decide +kernel
theorem dX3_addToCell_13 : decode cX3_addToCell 13 = .ok (.iaload, 1) := by decide +kernel
theorem dX3_addToCell_14 : decode cX3_addToCell 14 = .ok (.iload_n 2, 1) := by decide +kernel
theorem dX3_addToCell_15 : decode cX3_addToCell 15 = .ok (.iadd, 1) := by decide +kernel
theorem dX3_addToCell_16 : decode cX3_addToCell 16 = .ok (.iastore, 1) := by decide +kernel
theorem dX3_addToCell_17 : decode cX3_addToCell 17 = .ok (.return_, 1) := by decide +kernel
theorem dX3_copyRow_0 : decode cX3_copyRow 0 = .ok (.aload_n 0, 1) := by decide +kernel
theorem dX3_copyRow_1 : decode cX3_copyRow 1 = .ok (.iconst 0, 1) := by decide +kernel
theorem dX3_copyRow_2 : decode cX3_copyRow 2 = .ok (.aload_n 1, 1) := by decide +kernel
theorem dX3_copyRow_3 : decode cX3_copyRow 3 = .ok (.iconst 0, 1) := by decide +kernel
theorem dX3_copyRow_4 : decode cX3_copyRow 4 = .ok (.aload_n 0, 1) := by decide +kernel
theorem dX3_copyRow_5 : decode cX3_copyRow 5 = .ok (.arraylength, 1) := by decide +kernel
theorem dX3_copyRow_6 : decode cX3_copyRow 6 = .ok (.aload_n 1, 1) := by decide +kernel
theorem dX3_copyRow_7 : decode cX3_copyRow 7 = .ok (.arraylength, 1) := by decide +kernel
theorem dX3_copyRow_8 : decode cX3_copyRow 8 = .ok (.invokestatic 326, 3) := by decide +kernel
theorem dX3_copyRow_11 : decode cX3_copyRow 11 = .ok (.invokestatic 331, 3) := by decide +kernel
theorem dX3_copyRow_14 : decode cX3_copyRow 14 = .ok (.return_, 1) := by decide +kernel
theorem dX3_sum_0 : decode cX3_sum 0 = .ok (.iconst 0, 1) := by decide +kernel
theorem dX3_sum_1 : decode cX3_sum 1 = .ok (.istore_n 2, 1) := by decide +kernel
theorem dX3_sum_2 : decode cX3_sum 2 = .ok (.iconst 0, 1) := by decide +kernel
theorem dX3_sum_3 : decode cX3_sum 3 = .ok (.istore_n 3, 1) := by decide +kernel
theorem dX3_sum_4 : decode cX3_sum 4 = .ok (.iload_n 3, 1) := by decide +kernel
theorem dX3_sum_5 : decode cX3_sum 5 = .ok (.iload_n 1, 1) := by decide +kernel
theorem dX3_sum_6 : decode cX3_sum 6 = .ok (.if_icmp .ge 21, 3) := by decide +kernel
theorem dX3_sum_9 : decode cX3_sum 9 = .ok (.iload_n 3, 1) := by decide +kernel
theorem dX3_sum_10 : decode cX3_sum 10 = .ok (.aload_n 0, 1) := by decide +kernel
theorem dX3_sum_11 : decode cX3_sum 11 = .ok (.arraylength, 1) := by decide +kernel
theorem dX3_sum_12 : decode cX3_sum 12 = .ok (.if_icmp .ge 15, 3) := by decide +kernel
theorem dX3_sum_15 : decode cX3_sum 15 = .ok (.iload_n 2, 1) := by decide +kernel
theorem dX3_sum_16 : decode cX3_sum 16 = .ok (.aload_n 0, 1) := by decide +kernel
theorem dX3_sum_17 : decode cX3_sum 17 = .ok (.iload_n 3, 1) := by decide +kernel
theorem dX3_sum_18 : decode cX3_sum 18 = .ok (.iaload, 1) := by decide +kernel
theorem dX3_sum_19 : decode cX3_sum 19 = .ok (.iadd, 1) := by decide +kernel
theorem dX3_sum_20 : decode cX3_sum 20 = .ok (.istore_n 2, 1) := by decide +kernel
theorem dX3_sum_21 : decode cX3_sum 21 = .ok (.iinc 3 1, 3) := by decide +kernel
theorem dX3_sum_24 : decode cX3_sum 24 = .ok (.goto (-20), 3) := by decide +kernel
theorem dX3_sum_27 : decode cX3_sum 27 = .ok (.iload_n 2, 1) := by decide +kernel
theorem dX3_sum_28 : decode cX3_sum 28 = .ok (.ireturn, 1) := by decide +kernel
theorem dX3_countOf_0 : decode cX3_countOf 0 = .ok (.iconst 0, 1) := by decide +kernel
theorem dX3_countOf_1 : decode cX3_countOf 1 = .ok (.istore_n 3, 1) := by decide +kernel
theorem dX3_countOf_2 : decode cX3_countOf 2 = .ok (.iconst 0, 1) := by decide +kernel
theorem dX3_countOf_3 : decode cX3_countOf 3 = .ok (.istore 4, 2) := by decide +kernel
theorem dX3_countOf_5 : decode cX3_countOf 5 = .ok (.iload 4, 2) := by decide +kernel
theorem dX3_countOf_7 : decode cX3_countOf 7 = .ok (.iload_n 2, 1) := by decide +kernel
theorem dX3_countOf_8 : decode cX3_countOf 8 = .ok (.if_icmp .ge 27, 3) := by decide +kernel
theorem dX3_countOf_11 : decode cX3_countOf 11 = .ok (.iload 4, 2) := by decide +kernel
theorem dX3_countOf_13 : decode cX3_countOf 13 = .ok (.aload_n 1, 1) := by decide +kernel
theorem dX3_countOf_14 : decode cX3_countOf 14 = .ok (.arraylength, 1) := by decide +kernel
theorem dX3_countOf_15 : decode cX3_countOf 15 = .ok (.if_icmp .ge 20, 3) := by decide +kernel
theorem dX3_countOf_18 : decode cX3_countOf 18 = .ok (.aload_n 1, 1) := by decide +kernel
theorem dX3_countOf_19 : decode cX3_countOf 19 = .ok (.iload 4, 2) := by decide +kernel
theorem dX3_countOf_21 : decode cX3_countOf 21 = .ok (.iaload, 1) := by decide +kernel
theorem dX3_countOf_22 : decode cX3_countOf 22 = .ok (.iload_n 0, 1) := by decide +kernel
theorem dX3_countOf_23 : decode cX3_countOf 23 = .ok (.if_icmp .ne 6, 3) := by decide +kernel
theorem dX3_countOf_26 : decode cX3_countOf 26 = .ok (.iinc 3 1, 3) := by decide +kernel
theorem dX3_countOf_29 : decode cX3_countOf 29 = .ok (.iinc 4 1, 3) := by decide +kernel
theorem dX3_countOf_32 : decode cX3_countOf 32 = .ok (.goto (-27), 3) := by decide +kernel
theorem dX3_countOf_35 : decode cX3_countOf 35 = .ok (.iload_n 3, 1) := by decide +kernel
theorem dX3_countOf_36 : decode cX3_countOf 36 = .ok (.ireturn, 1) := by decide +kernel
