/-! BYTECODE of the law -/
theorem dL_next_0 : decode cL_next 0 = .ok (.aload_n 0, 1) := by decide +kernel
theorem dL_next_1 : decode cL_next 1 = .ok (.iconst 0, 1) := by decide +kernel
theorem dL_next_2 : decode cL_next 2 = .ok (.aload_n 0, 1) := by decide +kernel
theorem dL_next_3 : decode cL_next 3 = .ok (.iconst 0, 1) := by decide +kernel
theorem dL_next_4 : decode cL_next 4 = .ok (.iaload, 1) := by decide +kernel
theorem dL_next_5 : decode cL_next 5 = .ok (.ldc 7, 2) := by decide +kernel
theorem dL_next_7 : decode cL_next 7 = .ok (.imul, 1) := by decide +kernel
theorem dL_next_8 : decode cL_next 8 = .ok (.sipush 12345, 3) := by decide +kernel
theorem dL_next_11 : decode cL_next 11 = .ok (.iadd, 1) := by decide +kernel
theorem dL_next_12 : decode cL_next 12 = .ok (.iastore, 1) := by decide +kernel
theorem dL_next_13 : decode cL_next 13 = .ok (.aload_n 0, 1) := by decide +kernel
theorem dL_next_14 : decode cL_next 14 = .ok (.iconst 0, 1) := by decide +kernel
theorem dL_next_15 : decode cL_next 15 = .ok (.dup2, 1) := by decide +kernel
theorem dL_next_16 : decode cL_next 16 = .ok (.iaload, 1) := by decide +kernel
theorem dL_next_17 : decode cL_next 17 = .ok (.aload_n 0, 1) := by decide +kernel
theorem dL_next_18 : decode cL_next 18 = .ok (.iconst 0, 1) := by decide +kernel
theorem dL_next_19 : decode cL_next 19 = .ok (.iaload, 1) := by decide +kernel
theorem dL_next_20 : decode cL_next 20 = .ok (.bipush 15, 2) := by decide +kernel
theorem dL_next_22 : decode cL_next 22 = .ok (.iushr, 1) := by decide +kernel
theorem dL_next_23 : decode cL_next 23 = .ok (.ixor, 1) := by decide +kernel
theorem dL_next_24 : decode cL_next 24 = .ok (.iastore, 1) := by decide +kernel
theorem dL_next_25 : decode cL_next 25 = .ok (.aload_n 0, 1) := by decide +kernel
theorem dL_next_26 : decode cL_next 26 = .ok (.iconst 0, 1) := by decide +kernel
theorem dL_next_27 : decode cL_next 27 = .ok (.iaload, 1) := by decide +kernel
theorem dL_next_28 : decode cL_next 28 = .ok (.bipush 9, 2) := by decide +kernel
theorem dL_next_30 : decode cL_next 30 = .ok (.iushr, 1) := by decide +kernel
theorem dL_next_31 : decode cL_next 31 = .ok (.ireturn, 1) := by decide +kernel
theorem dL_type_0 : decode cL_type 0 = .ok (.iconst 0, 1) := by decide +kernel
theorem dL_type_1 : decode cL_type 1 = .ok (.istore_n 2, 1) := by decide +kernel
theorem dL_type_2 : decode cL_type 2 = .ok (.iconst 5, 1) := by decide +kernel
theorem dL_type_3 : decode cL_type 3 = .ok (.newarray .int, 2) := by decide +kernel
theorem dL_type_5 : decode cL_type 5 = .ok (.astore_n 3, 1) := by decide +kernel
theorem dL_type_6 : decode cL_type 6 = .ok (.iconst 0, 1) := by decide +kernel
theorem dL_type_7 : decode cL_type 7 = .ok (.istore 4, 2) := by decide +kernel
theorem dL_type_9 : decode cL_type 9 = .ok (.iload 4, 2) := by decide +kernel
theorem dL_type_11 : decode cL_type 11 = .ok (.aload_n 1, 1) := by decide +kernel
theorem dL_type_12 : decode cL_type 12 = .ok (.invokevirtual 8, 3) := by decide +kernel
theorem dL_type_15 : decode cL_type 15 = .ok (.if_icmp .ge 87, 3) := by decide +kernel
theorem dL_type_18 : decode cL_type 18 = .ok (.iconst 0, 1) := by decide +kernel
theorem dL_type_19 : decode cL_type 19 = .ok (.istore 5, 2) := by decide +kernel
theorem dL_type_21 : decode cL_type 21 = .ok (.iload 5, 2) := by decide +kernel
theorem dL_type_23 : decode cL_type 23 = .ok (.bipush 20, 2) := by decide +kernel
theorem dL_type_25 : decode cL_type 25 = .ok (.if_icmp .ge 51, 3) := by decide +kernel
theorem dL_type_28 : decode cL_type 28 = .ok (.aload_n 3, 1) := by decide +kernel
theorem dL_type_29 : decode cL_type 29 = .ok (.iload 5, 2) := by decide +kernel
theorem dL_type_31 : decode cL_type 31 = .ok (.iconst 4, 1) := by decide +kernel
theorem dL_type_32 : decode cL_type 32 = .ok (.idiv, 1) := by decide +kernel
theorem dL_type_33 : decode cL_type 33 = .ok (.aload_n 3, 1) := by decide +kernel
theorem dL_type_34 : decode cL_type 34 = .ok (.iload 5, 2) := by decide +kernel
theorem dL_type_36 : decode cL_type 36 = .ok (.iconst 4, 1) := by decide +kernel
theorem dL_type_37 : decode cL_type 37 = .ok (.idiv, 1) := by decide +kernel
theorem dL_type_38 : decode cL_type 38 = .ok (.iaload, 1) := by decide +kernel
theorem dL_type_39 : decode cL_type 39 = .ok (.bipush 8, 2) := by decide +kernel
theorem dL_type_41 : decode cL_type 41 = .ok (.ishl, 1) := by decide +kernel
theorem dL_type_42 : decode cL_type 42 = .ok (.iload 4, 2) := by decide +kernel
theorem dL_type_44 : decode cL_type 44 = .ok (.iload 5, 2) := by decide +kernel
theorem dL_type_46 : decode cL_type 46 = .ok (.iadd, 1) := by decide +kernel
theorem dL_type_47 : decode cL_type 47 = .ok (.aload_n 1, 1) := by decide +kernel
theorem dL_type_48 : decode cL_type 48 = .ok (.invokevirtual 8, 3) := by decide +kernel
theorem dL_type_51 : decode cL_type 51 = .ok (.if_icmp .ge 15, 3) := by decide +kernel
theorem dL_type_54 : decode cL_type 54 = .ok (.aload_n 1, 1) := by decide +kernel
theorem dL_type_55 : decode cL_type 55 = .ok (.iload 4, 2) := by decide +kernel
theorem dL_type_57 : decode cL_type 57 = .ok (.iload 5, 2) := by decide +kernel
theorem dL_type_59 : decode cL_type 59 = .ok (.iadd, 1) := by decide +kernel
theorem dL_type_60 : decode cL_type 60 = .ok (.invokevirtual 14, 3) := by decide +kernel
theorem dL_type_63 : decode cL_type 63 = .ok (.goto 5, 3) := by decide +kernel
theorem dL_type_66 : decode cL_type 66 = .ok (.bipush 32, 2) := by decide +kernel
theorem dL_type_68 : decode cL_type 68 = .ok (.ior, 1) := by decide +kernel
theorem dL_type_69 : decode cL_type 69 = .ok (.iastore, 1) := by decide +kernel
theorem dL_type_70 : decode cL_type 70 = .ok (.iinc 5 1, 3) := by decide +kernel
theorem dL_type_73 : decode cL_type 73 = .ok (.goto (-52), 3) := by decide +kernel
theorem dL_type_76 : decode cL_type 76 = .ok (.aload_n 0, 1) := by decide +kernel
theorem dL_type_77 : decode cL_type 77 = .ok (.aload_n 3, 1) := by decide +kernel
theorem dL_type_78 : decode cL_type 78 = .ok (.iconst 0, 1) := by decide +kernel
theorem dL_type_79 : decode cL_type 79 = .ok (.iaload, 1) := by decide +kernel
theorem dL_type_80 : decode cL_type 80 = .ok (.aload_n 3, 1) := by decide +kernel
theorem dL_type_81 : decode cL_type 81 = .ok (.iconst 1, 1) := by decide +kernel
theorem dL_type_82 : decode cL_type 82 = .ok (.iaload, 1) := by decide +kernel
theorem dL_type_83 : decode cL_type 83 = .ok (.aload_n 3, 1) := by decide +kernel
theorem dL_type_84 : decode cL_type 84 = .ok (.iconst 2, 1) := by decide +kernel
theorem dL_type_85 : decode cL_type 85 = .ok (.iaload, 1) := by decide +kernel
theorem dL_type_86 : decode cL_type 86 = .ok (.aload_n 3, 1) := by decide +kernel
theorem dL_type_87 : decode cL_type 87 = .ok (.iconst 3, 1) := by decide +kernel
theorem dL_type_88 : decode cL_type 88 = .ok (.iaload, 1) := by decide +kernel
theorem dL_type_89 : decode cL_type 89 = .ok (.aload_n 3, 1) := by decide +kernel
theorem dL_type_90 : decode cL_type 90 = .ok (.iconst 4, 1) := by decide +kernel
theorem dL_type_91 : decode cL_type 91 = .ok (.iaload, 1) := by decide +kernel
theorem dL_type_92 : decode cL_type 92 = .ok (.invokevirtual 18, 3) := by decide +kernel
theorem dL_type_95 : decode cL_type 95 = .ok (.istore_n 2, 1) := by decide +kernel
theorem dL_type_96 : decode cL_type 96 = .ok (.iinc 4 20, 3) := by decide +kernel
theorem dL_type_99 : decode cL_type 99 = .ok (.goto (-90), 3) := by decide +kernel
theorem dL_type_102 : decode cL_type 102 = .ok (.aload_n 1, 1) := by decide +kernel
theorem dL_type_103 : decode cL_type 103 = .ok (.invokevirtual 8, 3) := by decide +kernel
theorem dL_type_106 : decode cL_type 106 = .ok (.ireturn, 1) := by decide +kernel
theorem dL_load_0 : decode cL_load 0 = .ok (.aload_n 0, 1) := by decide +kernel
theorem dL_load_1 : decode cL_load 1 = .ok (.aload_n 1, 1) := by decide +kernel
theorem dL_load_2 : decode cL_load 2 = .ok (.invokestatic 24, 3) := by decide +kernel
theorem dL_load_5 : decode cL_load 5 = .ok (.istore_n 2, 1) := by decide +kernel
theorem dL_load_6 : decode cL_load 6 = .ok (.aload_n 0, 1) := by decide +kernel
theorem dL_load_7 : decode cL_load 7 = .ok (.iload_n 2, 1) := by decide +kernel
theorem dL_load_8 : decode cL_load 8 = .ok (.invokevirtual 30, 3) := by decide +kernel
theorem dL_load_11 : decode cL_load 11 = .ok (.ireturn, 1) := by decide +kernel
theorem dL_load_12 : decode cL_load 12 = .ok (.astore_n 3, 1) := by decide +kernel
theorem dL_load_13 : decode cL_load 13 = .ok (.bipush (-2), 2) := by decide +kernel
theorem dL_load_15 : decode cL_load 15 = .ok (.ireturn, 1) := by decide +kernel
theorem dL_load_16 : decode cL_load 16 = .ok (.astore_n 3, 1) := by decide +kernel
theorem dL_load_17 : decode cL_load 17 = .ok (.iconst (-1), 1) := by decide +kernel
theorem dL_load_18 : decode cL_load 18 = .ok (.ireturn, 1) := by decide +kernel
theorem dL_undone_0 : decode cL_undone 0 = .ok (.aload_n 0, 1) := by decide +kernel
theorem dL_undone_1 : decode cL_undone 1 = .ok (.invokevirtual 38, 3) := by decide +kernel
theorem dL_undone_4 : decode cL_undone 4 = .ok (.ireturn, 1) := by decide +kernel
theorem dL_undone_5 : decode cL_undone 5 = .ok (.astore_n 1, 1) := by decide +kernel
theorem dL_undone_6 : decode cL_undone 6 = .ok (.iconst (-1), 1) := by decide +kernel
theorem dL_undone_7 : decode cL_undone 7 = .ok (.ireturn, 1) := by decide +kernel
theorem dL_advanced_0 : decode cL_advanced 0 = .ok (.aload_n 0, 1) := by decide +kernel
theorem dL_advanced_1 : decode cL_advanced 1 = .ok (.iload_n 1, 1) := by decide +kernel
theorem dL_advanced_2 : decode cL_advanced 2 = .ok (.invokevirtual 43, 3) := by decide +kernel
theorem dL_advanced_5 : decode cL_advanced 5 = .ok (.ireturn, 1) := by decide +kernel
theorem dL_advanced_6 : decode cL_advanced 6 = .ok (.astore_n 2, 1) := by decide +kernel
theorem dL_advanced_7 : decode cL_advanced 7 = .ok (.bipush (-2), 2) := by decide +kernel
theorem dL_advanced_9 : decode cL_advanced 9 = .ok (.ireturn, 1) := by decide +kernel
theorem dL_advanced_10 : decode cL_advanced 10 = .ok (.astore_n 2, 1) := by decide +kernel
theorem dL_advanced_11 : decode cL_advanced 11 = .ok (.bipush (-3), 2) := by decide +kernel
theorem dL_advanced_13 : decode cL_advanced 13 = .ok (.ireturn, 1) := by decide +kernel
theorem dL_drawn_0 : decode cL_drawn 0 = .ok (.aload_n 0, 1) := by decide +kernel
theorem dL_drawn_1 : decode cL_drawn 1 = .ok (.iload_n 1, 1) := by decide +kernel
theorem dL_drawn_2 : decode cL_drawn 2 = .ok (.invokevirtual 46, 3) := by decide +kernel
theorem dL_drawn_5 : decode cL_drawn 5 = .ok (.ireturn, 1) := by decide +kernel
theorem dL_drawn_6 : decode cL_drawn 6 = .ok (.astore_n 2, 1) := by decide +kernel
theorem dL_drawn_7 : decode cL_drawn 7 = .ok (.bipush (-5), 2) := by decide +kernel
theorem dL_drawn_9 : decode cL_drawn 9 = .ok (.ireturn, 1) := by decide +kernel
theorem dL_drawn_10 : decode cL_drawn 10 = .ok (.astore_n 2, 1) := by decide +kernel
theorem dL_drawn_11 : decode cL_drawn 11 = .ok (.bipush (-3), 2) := by decide +kernel
theorem dL_drawn_13 : decode cL_drawn 13 = .ok (.ireturn, 1) := by decide +kernel
theorem dL_set_0 : decode cL_set 0 = .ok (.aload_n 0, 1) := by decide +kernel
theorem dL_set_1 : decode cL_set 1 = .ok (.iload_n 1, 1) := by decide +kernel
theorem dL_set_2 : decode cL_set 2 = .ok (.iload_n 2, 1) := by decide +kernel
theorem dL_set_3 : decode cL_set 3 = .ok (.iload_n 3, 1) := by decide +kernel
theorem dL_set_4 : decode cL_set 4 = .ok (.invokevirtual 49, 3) := by decide +kernel
theorem dL_set_7 : decode cL_set 7 = .ok (.ireturn, 1) := by decide +kernel
theorem dL_set_8 : decode cL_set 8 = .ok (.astore 4, 2) := by decide +kernel
theorem dL_set_10 : decode cL_set 10 = .ok (.bipush (-5), 2) := by decide +kernel
theorem dL_set_12 : decode cL_set 12 = .ok (.ireturn, 1) := by decide +kernel
theorem dL_set_13 : decode cL_set 13 = .ok (.astore 4, 2) := by decide +kernel
theorem dL_set_15 : decode cL_set 15 = .ok (.bipush (-2), 2) := by decide +kernel
theorem dL_set_17 : decode cL_set 17 = .ok (.ireturn, 1) := by decide +kernel
theorem dL_set_18 : decode cL_set 18 = .ok (.astore 4, 2) := by decide +kernel
theorem dL_set_20 : decode cL_set 20 = .ok (.bipush (-3), 2) := by decide +kernel
theorem dL_set_22 : decode cL_set 22 = .ok (.ireturn, 1) := by decide +kernel
theorem dL_forgotten_0 : decode cL_forgotten 0 = .ok (.aload_n 0, 1) := by decide +kernel
theorem dL_forgotten_1 : decode cL_forgotten 1 = .ok (.iload_n 1, 1) := by decide +kernel
theorem dL_forgotten_2 : decode cL_forgotten 2 = .ok (.invokevirtual 53, 3) := by decide +kernel
theorem dL_forgotten_5 : decode cL_forgotten 5 = .ok (.ireturn, 1) := by decide +kernel
theorem dL_forgotten_6 : decode cL_forgotten 6 = .ok (.astore_n 2, 1) := by decide +kernel
theorem dL_forgotten_7 : decode cL_forgotten 7 = .ok (.bipush (-5), 2) := by decide +kernel
theorem dL_forgotten_9 : decode cL_forgotten 9 = .ok (.ireturn, 1) := by decide +kernel
theorem dL_moved_0 : decode cL_moved 0 = .ok (.aload_n 0, 1) := by decide +kernel
theorem dL_moved_1 : decode cL_moved 1 = .ok (.iload_n 1, 1) := by decide +kernel
theorem dL_moved_2 : decode cL_moved 2 = .ok (.iload_n 2, 1) := by decide +kernel
theorem dL_moved_3 : decode cL_moved 3 = .ok (.invokevirtual 56, 3) := by decide +kernel
theorem dL_moved_6 : decode cL_moved 6 = .ok (.ireturn, 1) := by decide +kernel
theorem dL_moved_7 : decode cL_moved 7 = .ok (.astore_n 3, 1) := by decide +kernel
theorem dL_moved_8 : decode cL_moved 8 = .ok (.bipush (-5), 2) := by decide +kernel
theorem dL_moved_10 : decode cL_moved 10 = .ok (.ireturn, 1) := by decide +kernel
theorem dL_moved_11 : decode cL_moved 11 = .ok (.astore_n 3, 1) := by decide +kernel
theorem dL_moved_12 : decode cL_moved 12 = .ok (.bipush (-3), 2) := by decide +kernel
theorem dL_moved_14 : decode cL_moved 14 = .ok (.ireturn, 1) := by decide +kernel
theorem dL_bought_0 : decode cL_bought 0 = .ok (.aload_n 0, 1) := by decide +kernel
theorem dL_bought_1 : decode cL_bought 1 = .ok (.iload_n 1, 1) := by decide +kernel
theorem dL_bought_2 : decode cL_bought 2 = .ok (.invokevirtual 60, 3) := by decide +kernel
theorem dL_bought_5 : decode cL_bought 5 = .ok (.ireturn, 1) := by decide +kernel
theorem dL_bought_6 : decode cL_bought 6 = .ok (.astore_n 2, 1) := by decide +kernel
theorem dL_bought_7 : decode cL_bought 7 = .ok (.bipush (-2), 2) := by decide +kernel
theorem dL_bought_9 : decode cL_bought 9 = .ok (.ireturn, 1) := by decide +kernel
theorem dL_bought_10 : decode cL_bought 10 = .ok (.astore_n 2, 1) := by decide +kernel
theorem dL_bought_11 : decode cL_bought 11 = .ok (.bipush (-3), 2) := by decide +kernel
theorem dL_bought_13 : decode cL_bought 13 = .ok (.ireturn, 1) := by decide +kernel
theorem dL_baked_0 : decode cL_baked 0 = .ok (.aload_n 0, 1) := by decide +kernel
theorem dL_baked_1 : decode cL_baked 1 = .ok (.iload_n 1, 1) := by decide +kernel
theorem dL_baked_2 : decode cL_baked 2 = .ok (.iload_n 2, 1) := by decide +kernel
theorem dL_baked_3 : decode cL_baked 3 = .ok (.invokevirtual 63, 3) := by decide +kernel
theorem dL_baked_6 : decode cL_baked 6 = .ok (.ireturn, 1) := by decide +kernel
theorem dL_baked_7 : decode cL_baked 7 = .ok (.astore_n 3, 1) := by decide +kernel
theorem dL_baked_8 : decode cL_baked 8 = .ok (.bipush (-2), 2) := by decide +kernel
theorem dL_baked_10 : decode cL_baked 10 = .ok (.ireturn, 1) := by decide +kernel
theorem dL_baked_11 : decode cL_baked 11 = .ok (.astore_n 3, 1) := by decide +kernel
theorem dL_baked_12 : decode cL_baked 12 = .ok (.bipush (-3), 2) := by decide +kernel
theorem dL_baked_14 : decode cL_baked 14 = .ok (.ireturn, 1) := by decide +kernel
theorem dL_dateAt_0 : decode cL_dateAt 0 = .ok (.aload_n 0, 1) := by decide +kernel
theorem dL_dateAt_1 : decode cL_dateAt 1 = .ok (.iload_n 1, 1) := by decide +kernel
theorem dL_dateAt_2 : decode cL_dateAt 2 = .ok (.invokevirtual 66, 3) := by decide +kernel
theorem dL_dateAt_5 : decode cL_dateAt 5 = .ok (.ireturn, 1) := by decide +kernel
theorem dL_dateAt_6 : decode cL_dateAt 6 = .ok (.astore_n 2, 1) := by decide +kernel
theorem dL_dateAt_7 : decode cL_dateAt 7 = .ok (.bipush (-5), 2) := by decide +kernel
theorem dL_dateAt_9 : decode cL_dateAt 9 = .ok (.ireturn, 1) := by decide +kernel
theorem dL_registry_0 : decode cL_registry 0 = .ok (.new 69, 3) := by decide +kernel
theorem dL_registry_3 : decode cL_registry 3 = .ok (.dup, 1) := by decide +kernel
theorem dL_registry_4 : decode cL_registry 4 = .ok (.ldc 71, 2) := by decide +kernel
theorem dL_registry_6 : decode cL_registry 6 = .ok (.invokespecial 73, 3) := by decide +kernel
theorem dL_registry_9 : decode cL_registry 9 = .ok (.aload_n 2, 1) := by decide +kernel
theorem dL_registry_10 : decode cL_registry 10 = .ok (.invokestatic 76, 3) := by decide +kernel
theorem dL_registry_13 : decode cL_registry 13 = .ok (.sipush 9973, 3) := by decide +kernel
theorem dL_registry_16 : decode cL_registry 16 = .ok (.irem, 1) := by decide +kernel
theorem dL_registry_17 : decode cL_registry 17 = .ok (.invokevirtual 80, 3) := by decide +kernel
theorem dL_registry_20 : decode cL_registry 20 = .ok (.bipush 32, 2) := by decide +kernel
theorem dL_registry_22 : decode cL_registry 22 = .ok (.invokevirtual 83, 3) := by decide +kernel
theorem dL_registry_25 : decode cL_registry 25 = .ok (.aload_n 2, 1) := by decide +kernel
theorem dL_registry_26 : decode cL_registry 26 = .ok (.invokestatic 76, 3) := by decide +kernel
theorem dL_registry_29 : decode cL_registry 29 = .ok (.sipush 300, 3) := by decide +kernel
theorem dL_registry_32 : decode cL_registry 32 = .ok (.irem, 1) := by decide +kernel
theorem dL_registry_33 : decode cL_registry 33 = .ok (.invokevirtual 80, 3) := by decide +kernel
theorem dL_registry_36 : decode cL_registry 36 = .ok (.astore_n 3, 1) := by decide +kernel
theorem dL_registry_37 : decode cL_registry 37 = .ok (.iconst 0, 1) := by decide +kernel
theorem dL_registry_38 : decode cL_registry 38 = .ok (.istore 4, 2) := by decide +kernel
theorem dL_registry_40 : decode cL_registry 40 = .ok (.iload 4, 2) := by decide +kernel
theorem dL_registry_42 : decode cL_registry 42 = .ok (.iload_n 0, 1) := by decide +kernel
theorem dL_registry_43 : decode cL_registry 43 = .ok (.if_icmp .ge 28, 3) := by decide +kernel
theorem dL_registry_46 : decode cL_registry 46 = .ok (.aload_n 3, 1) := by decide +kernel
theorem dL_registry_47 : decode cL_registry 47 = .ok (.ldc 86, 2) := by decide +kernel
theorem dL_registry_49 : decode cL_registry 49 = .ok (.invokevirtual 88, 3) := by decide +kernel
theorem dL_registry_52 : decode cL_registry 52 = .ok (.iconst 2, 1) := by decide +kernel
theorem dL_registry_53 : decode cL_registry 53 = .ok (.aload_n 2, 1) := by decide +kernel
theorem dL_registry_54 : decode cL_registry 54 = .ok (.invokestatic 76, 3) := by decide +kernel
theorem dL_registry_57 : decode cL_registry 57 = .ok (.bipush 11, 2) := by decide +kernel
theorem dL_registry_59 : decode cL_registry 59 = .ok (.irem, 1) := by decide +kernel
theorem dL_registry_60 : decode cL_registry 60 = .ok (.iadd, 1) := by decide +kernel
theorem dL_registry_61 : decode cL_registry 61 = .ok (.invokevirtual 80, 3) := by decide +kernel
theorem dL_registry_64 : decode cL_registry 64 = .ok (.pop, 1) := by decide +kernel
theorem dL_registry_65 : decode cL_registry 65 = .ok (.iinc 4 1, 3) := by decide +kernel
theorem dL_registry_68 : decode cL_registry 68 = .ok (.goto (-28), 3) := by decide +kernel
theorem dL_registry_71 : decode cL_registry 71 = .ok (.iconst 0, 1) := by decide +kernel
theorem dL_registry_72 : decode cL_registry 72 = .ok (.istore 4, 2) := by decide +kernel
theorem dL_registry_74 : decode cL_registry 74 = .ok (.iload 4, 2) := by decide +kernel
theorem dL_registry_76 : decode cL_registry 76 = .ok (.iload_n 1, 1) := by decide +kernel
theorem dL_registry_77 : decode cL_registry 77 = .ok (.if_icmp .ge 86, 3) := by decide +kernel
theorem dL_registry_80 : decode cL_registry 80 = .ok (.aload_n 3, 1) := by decide +kernel
theorem dL_registry_81 : decode cL_registry 81 = .ok (.ldc 91, 2) := by decide +kernel
theorem dL_registry_83 : decode cL_registry 83 = .ok (.invokevirtual 88, 3) := by decide +kernel
theorem dL_registry_86 : decode cL_registry 86 = .ok (.bipush 112, 2) := by decide +kernel
theorem dL_registry_88 : decode cL_registry 88 = .ok (.iload 4, 2) := by decide +kernel
theorem dL_registry_90 : decode cL_registry 90 = .ok (.iadd, 1) := by decide +kernel
theorem dL_registry_91 : decode cL_registry 91 = .ok (.i2c, 1) := by decide +kernel
theorem dL_registry_92 : decode cL_registry 92 = .ok (.invokevirtual 83, 3) := by decide +kernel
theorem dL_registry_95 : decode cL_registry 95 = .ok (.bipush 32, 2) := by decide +kernel
theorem dL_registry_97 : decode cL_registry 97 = .ok (.invokevirtual 83, 3) := by decide +kernel
theorem dL_registry_100 : decode cL_registry 100 = .ok (.aload_n 2, 1) := by decide +kernel
theorem dL_registry_101 : decode cL_registry 101 = .ok (.invokestatic 76, 3) := by decide +kernel
theorem dL_registry_104 : decode cL_registry 104 = .ok (.bipush 6, 2) := by decide +kernel
theorem dL_registry_106 : decode cL_registry 106 = .ok (.irem, 1) := by decide +kernel
theorem dL_registry_107 : decode cL_registry 107 = .ok (.invokevirtual 80, 3) := by decide +kernel
theorem dL_registry_110 : decode cL_registry 110 = .ok (.bipush 32, 2) := by decide +kernel
theorem dL_registry_112 : decode cL_registry 112 = .ok (.invokevirtual 83, 3) := by decide +kernel
theorem dL_registry_115 : decode cL_registry 115 = .ok (.iconst 1, 1) := by decide +kernel
theorem dL_registry_116 : decode cL_registry 116 = .ok (.aload_n 2, 1) := by decide +kernel
theorem dL_registry_117 : decode cL_registry 117 = .ok (.invokestatic 76, 3) := by decide +kernel
theorem dL_registry_120 : decode cL_registry 120 = .ok (.bipush 20, 2) := by decide +kernel
theorem dL_registry_122 : decode cL_registry 122 = .ok (.irem, 1) := by decide +kernel
theorem dL_registry_123 : decode cL_registry 123 = .ok (.iadd, 1) := by decide +kernel
theorem dL_registry_124 : decode cL_registry 124 = .ok (.invokevirtual 80, 3) := by decide +kernel
theorem dL_registry_127 : decode cL_registry 127 = .ok (.bipush 32, 2) := by decide +kernel
theorem dL_registry_129 : decode cL_registry 129 = .ok (.invokevirtual 83, 3) := by decide +kernel
theorem dL_registry_132 : decode cL_registry 132 = .ok (.aload_n 2, 1) := by decide +kernel
theorem dL_registry_133 : decode cL_registry 133 = .ok (.invokestatic 76, 3) := by decide +kernel
theorem dL_registry_136 : decode cL_registry 136 = .ok (.bipush 15, 2) := by decide +kernel
theorem dL_registry_138 : decode cL_registry 138 = .ok (.irem, 1) := by decide +kernel
theorem dL_registry_139 : decode cL_registry 139 = .ok (.invokevirtual 80, 3) := by decide +kernel
theorem dL_registry_142 : decode cL_registry 142 = .ok (.bipush 32, 2) := by decide +kernel
theorem dL_registry_144 : decode cL_registry 144 = .ok (.invokevirtual 83, 3) := by decide +kernel
theorem dL_registry_147 : decode cL_registry 147 = .ok (.aload_n 2, 1) := by decide +kernel
theorem dL_registry_148 : decode cL_registry 148 = .ok (.invokestatic 76, 3) := by decide +kernel
theorem dL_registry_151 : decode cL_registry 151 = .ok (.iload_n 0, 1) := by decide +kernel
theorem dL_registry_152 : decode cL_registry 152 = .ok (.irem, 1) := by decide +kernel
theorem dL_registry_153 : decode cL_registry 153 = .ok (.invokevirtual 80, 3) := by decide +kernel
theorem dL_registry_156 : decode cL_registry 156 = .ok (.pop, 1) := by decide +kernel
theorem dL_registry_157 : decode cL_registry 157 = .ok (.iinc 4 1, 3) := by decide +kernel
theorem dL_registry_160 : decode cL_registry 160 = .ok (.goto (-86), 3) := by decide +kernel
theorem dL_registry_163 : decode cL_registry 163 = .ok (.aload_n 2, 1) := by decide +kernel
theorem dL_registry_164 : decode cL_registry 164 = .ok (.invokestatic 76, 3) := by decide +kernel
theorem dL_registry_167 : decode cL_registry 167 = .ok (.iconst 5, 1) := by decide +kernel
theorem dL_registry_168 : decode cL_registry 168 = .ok (.irem, 1) := by decide +kernel
theorem dL_registry_169 : decode cL_registry 169 = .ok (.istore 4, 2) := by decide +kernel
theorem dL_registry_171 : decode cL_registry 171 = .ok (.iload 4, 2) := by decide +kernel
theorem dL_registry_173 : decode cL_registry 173 = .ok (.ifCond .le 43, 3) := by decide +kernel
theorem dL_registry_176 : decode cL_registry 176 = .ok (.aload_n 3, 1) := by decide +kernel
theorem dL_registry_177 : decode cL_registry 177 = .ok (.ldc 93, 2) := by decide +kernel
theorem dL_registry_179 : decode cL_registry 179 = .ok (.invokevirtual 88, 3) := by decide +kernel
theorem dL_registry_182 : decode cL_registry 182 = .ok (.aload_n 2, 1) := by decide +kernel
theorem dL_registry_183 : decode cL_registry 183 = .ok (.invokestatic 76, 3) := by decide +kernel
theorem dL_registry_186 : decode cL_registry 186 = .ok (.bipush 6, 2) := by decide +kernel
theorem dL_registry_188 : decode cL_registry 188 = .ok (.irem, 1) := by decide +kernel
theorem dL_registry_189 : decode cL_registry 189 = .ok (.invokevirtual 80, 3) := by decide +kernel
theorem dL_registry_192 : decode cL_registry 192 = .ok (.bipush 32, 2) := by decide +kernel
theorem dL_registry_194 : decode cL_registry 194 = .ok (.invokevirtual 83, 3) := by decide +kernel
theorem dL_registry_197 : decode cL_registry 197 = .ok (.iconst 1, 1) := by decide +kernel
theorem dL_registry_198 : decode cL_registry 198 = .ok (.aload_n 2, 1) := by decide +kernel
theorem dL_registry_199 : decode cL_registry 199 = .ok (.invokestatic 76, 3) := by decide +kernel
theorem dL_registry_202 : decode cL_registry 202 = .ok (.bipush 9, 2) := by decide +kernel
theorem dL_registry_204 : decode cL_registry 204 = .ok (.irem, 1) := by decide +kernel
theorem dL_registry_205 : decode cL_registry 205 = .ok (.iadd, 1) := by decide +kernel
theorem dL_registry_206 : decode cL_registry 206 = .ok (.invokevirtual 80, 3) := by decide +kernel
theorem dL_registry_209 : decode cL_registry 209 = .ok (.pop, 1) := by decide +kernel
theorem dL_registry_210 : decode cL_registry 210 = .ok (.iinc 4 (-1), 3) := by decide +kernel
theorem dL_registry_213 : decode cL_registry 213 = .ok (.goto (-42), 3) := by decide +kernel
theorem dL_registry_216 : decode cL_registry 216 = .ok (.aload_n 3, 1) := by decide +kernel
theorem dL_registry_217 : decode cL_registry 217 = .ok (.invokevirtual 95, 3) := by decide +kernel
theorem dL_registry_220 : decode cL_registry 220 = .ok (.areturn, 1) := by decide +kernel
theorem dL_sum_0 : decode cL_sum 0 = .ok (.ldc2_w 99, 3) := by decide +kernel
theorem dL_sum_3 : decode cL_sum 3 = .ok (.ldc2_w 99, 3) := by decide +kernel
theorem dL_sum_6 : decode cL_sum 6 = .ok (.ldc2_w 99, 3) := by decide +kernel
theorem dL_sum_9 : decode cL_sum 9 = .ok (.ldc2_w 99, 3) := by decide +kernel
theorem dL_sum_12 : decode cL_sum 12 = .ok (.aload_n 0, 1) := by decide +kernel
theorem dL_sum_13 : decode cL_sum 13 = .ok (.invokevirtual 101, 3) := by decide +kernel
theorem dL_sum_16 : decode cL_sum 16 = .ok (.i2l, 1) := by decide +kernel
theorem dL_sum_17 : decode cL_sum 17 = .ok (.lmul, 1) := by decide +kernel
theorem dL_sum_18 : decode cL_sum 18 = .ok (.aload_n 0, 1) := by decide +kernel
theorem dL_sum_19 : decode cL_sum 19 = .ok (.invokevirtual 104, 3) := by decide +kernel
theorem dL_sum_22 : decode cL_sum 22 = .ok (.i2l, 1) := by decide +kernel
theorem dL_sum_23 : decode cL_sum 23 = .ok (.ladd, 1) := by decide +kernel
theorem dL_sum_24 : decode cL_sum 24 = .ok (.lmul, 1) := by decide +kernel
theorem dL_sum_25 : decode cL_sum 25 = .ok (.aload_n 0, 1) := by decide +kernel
theorem dL_sum_26 : decode cL_sum 26 = .ok (.invokevirtual 107, 3) := by decide +kernel
theorem dL_sum_29 : decode cL_sum 29 = .ok (.i2l, 1) := by decide +kernel
theorem dL_sum_30 : decode cL_sum 30 = .ok (.ladd, 1) := by decide +kernel
theorem dL_sum_31 : decode cL_sum 31 = .ok (.lmul, 1) := by decide +kernel
theorem dL_sum_32 : decode cL_sum 32 = .ok (.aload_n 0, 1) := by decide +kernel
theorem dL_sum_33 : decode cL_sum 33 = .ok (.invokevirtual 110, 3) := by decide +kernel
theorem dL_sum_36 : decode cL_sum 36 = .ok (.i2l, 1) := by decide +kernel
theorem dL_sum_37 : decode cL_sum 37 = .ok (.ladd, 1) := by decide +kernel
theorem dL_sum_38 : decode cL_sum 38 = .ok (.lmul, 1) := by decide +kernel
theorem dL_sum_39 : decode cL_sum 39 = .ok (.aload_n 0, 1) := by decide +kernel
theorem dL_sum_40 : decode cL_sum 40 = .ok (.invokevirtual 113, 3) := by decide +kernel
theorem dL_sum_43 : decode cL_sum 43 = .ok (.i2l, 1) := by decide +kernel
theorem dL_sum_44 : decode cL_sum 44 = .ok (.ladd, 1) := by decide +kernel
theorem dL_sum_45 : decode cL_sum 45 = .ok (.lstore_n 1, 1) := by decide +kernel
theorem dL_sum_46 : decode cL_sum 46 = .ok (.iconst 0, 1) := by decide +kernel
theorem dL_sum_47 : decode cL_sum 47 = .ok (.istore_n 3, 1) := by decide +kernel
theorem dL_sum_48 : decode cL_sum 48 = .ok (.iload_n 3, 1) := by decide +kernel
theorem dL_sum_49 : decode cL_sum 49 = .ok (.bipush 6, 2) := by decide +kernel
theorem dL_sum_51 : decode cL_sum 51 = .ok (.if_icmp .ge 22, 3) := by decide +kernel
theorem dL_sum_54 : decode cL_sum 54 = .ok (.ldc2_w 99, 3) := by decide +kernel
theorem dL_sum_57 : decode cL_sum 57 = .ok (.lload_n 1, 1) := by decide +kernel
theorem dL_sum_58 : decode cL_sum 58 = .ok (.lmul, 1) := by decide +kernel
theorem dL_sum_59 : decode cL_sum 59 = .ok (.aload_n 0, 1) := by decide +kernel
theorem dL_sum_60 : decode cL_sum 60 = .ok (.iload_n 3, 1) := by decide +kernel
theorem dL_sum_61 : decode cL_sum 61 = .ok (.invokevirtual 116, 3) := by decide +kernel
theorem dL_sum_64 : decode cL_sum 64 = .ok (.i2l, 1) := by decide +kernel
theorem dL_sum_65 : decode cL_sum 65 = .ok (.ladd, 1) := by decide +kernel
theorem dL_sum_66 : decode cL_sum 66 = .ok (.lstore_n 1, 1) := by decide +kernel
theorem dL_sum_67 : decode cL_sum 67 = .ok (.iinc 3 1, 3) := by decide +kernel
theorem dL_sum_70 : decode cL_sum 70 = .ok (.goto (-22), 3) := by decide +kernel
theorem dL_sum_73 : decode cL_sum 73 = .ok (.iconst 0, 1) := by decide +kernel
theorem dL_sum_74 : decode cL_sum 74 = .ok (.istore_n 3, 1) := by decide +kernel
theorem dL_sum_75 : decode cL_sum 75 = .ok (.iload_n 3, 1) := by decide +kernel
theorem dL_sum_76 : decode cL_sum 76 = .ok (.aload_n 0, 1) := by decide +kernel
theorem dL_sum_77 : decode cL_sum 77 = .ok (.invokevirtual 119, 3) := by decide +kernel
theorem dL_sum_80 : decode cL_sum 80 = .ok (.if_icmp .ge 68, 3) := by decide +kernel
theorem dL_sum_83 : decode cL_sum 83 = .ok (.ldc2_w 99, 3) := by decide +kernel
theorem dL_sum_86 : decode cL_sum 86 = .ok (.ldc2_w 99, 3) := by decide +kernel
theorem dL_sum_89 : decode cL_sum 89 = .ok (.ldc2_w 99, 3) := by decide +kernel
theorem dL_sum_92 : decode cL_sum 92 = .ok (.ldc2_w 99, 3) := by decide +kernel
theorem dL_sum_95 : decode cL_sum 95 = .ok (.lload_n 1, 1) := by decide +kernel
theorem dL_sum_96 : decode cL_sum 96 = .ok (.lmul, 1) := by decide +kernel
theorem dL_sum_97 : decode cL_sum 97 = .ok (.aload_n 0, 1) := by decide +kernel
theorem dL_sum_98 : decode cL_sum 98 = .ok (.iload_n 3, 1) := by decide +kernel
theorem dL_sum_99 : decode cL_sum 99 = .ok (.invokevirtual 122, 3) := by decide +kernel
theorem dL_sum_102 : decode cL_sum 102 = .ok (.i2l, 1) := by decide +kernel
theorem dL_sum_103 : decode cL_sum 103 = .ok (.ladd, 1) := by decide +kernel
theorem dL_sum_104 : decode cL_sum 104 = .ok (.lmul, 1) := by decide +kernel
theorem dL_sum_105 : decode cL_sum 105 = .ok (.aload_n 0, 1) := by decide +kernel
theorem dL_sum_106 : decode cL_sum 106 = .ok (.iload_n 3, 1) := by decide +kernel
theorem dL_sum_107 : decode cL_sum 107 = .ok (.invokevirtual 125, 3) := by decide +kernel
theorem dL_sum_110 : decode cL_sum 110 = .ok (.i2l, 1) := by decide +kernel
theorem dL_sum_111 : decode cL_sum 111 = .ok (.ladd, 1) := by decide +kernel
theorem dL_sum_112 : decode cL_sum 112 = .ok (.lmul, 1) := by decide +kernel
theorem dL_sum_113 : decode cL_sum 113 = .ok (.aload_n 0, 1) := by decide +kernel
theorem dL_sum_114 : decode cL_sum 114 = .ok (.iload_n 3, 1) := by decide +kernel
theorem dL_sum_115 : decode cL_sum 115 = .ok (.invokevirtual 128, 3) := by decide +kernel
theorem dL_sum_118 : decode cL_sum 118 = .ok (.i2l, 1) := by decide +kernel
theorem dL_sum_119 : decode cL_sum 119 = .ok (.ladd, 1) := by decide +kernel
theorem dL_sum_120 : decode cL_sum 120 = .ok (.lmul, 1) := by decide +kernel
theorem dL_sum_121 : decode cL_sum 121 = .ok (.aload_n 0, 1) := by decide +kernel
theorem dL_sum_122 : decode cL_sum 122 = .ok (.iload_n 3, 1) := by decide +kernel
theorem dL_sum_123 : decode cL_sum 123 = .ok (.invokevirtual 131, 3) := by decide +kernel
theorem dL_sum_126 : decode cL_sum 126 = .ok (.i2l, 1) := by decide +kernel
theorem dL_sum_127 : decode cL_sum 127 = .ok (.ladd, 1) := by decide +kernel
theorem dL_sum_128 : decode cL_sum 128 = .ok (.lstore_n 1, 1) := by decide +kernel
theorem dL_sum_129 : decode cL_sum 129 = .ok (.ldc2_w 99, 3) := by decide +kernel
theorem dL_sum_132 : decode cL_sum 132 = .ok (.lload_n 1, 1) := by decide +kernel
theorem dL_sum_133 : decode cL_sum 133 = .ok (.lmul, 1) := by decide +kernel
theorem dL_sum_134 : decode cL_sum 134 = .ok (.aload_n 0, 1) := by decide +kernel
theorem dL_sum_135 : decode cL_sum 135 = .ok (.iload_n 3, 1) := by decide +kernel
theorem dL_sum_136 : decode cL_sum 136 = .ok (.invokevirtual 134, 3) := by decide +kernel
theorem dL_sum_139 : decode cL_sum 139 = .ok (.i2l, 1) := by decide +kernel
theorem dL_sum_140 : decode cL_sum 140 = .ok (.ladd, 1) := by decide +kernel
theorem dL_sum_141 : decode cL_sum 141 = .ok (.lstore_n 1, 1) := by decide +kernel
theorem dL_sum_142 : decode cL_sum 142 = .ok (.iinc 3 1, 3) := by decide +kernel
theorem dL_sum_145 : decode cL_sum 145 = .ok (.goto (-70), 3) := by decide +kernel
theorem dL_sum_148 : decode cL_sum 148 = .ok (.ldc2_w 99, 3) := by decide +kernel
theorem dL_sum_151 : decode cL_sum 151 = .ok (.ldc2_w 99, 3) := by decide +kernel
theorem dL_sum_154 : decode cL_sum 154 = .ok (.lload_n 1, 1) := by decide +kernel
theorem dL_sum_155 : decode cL_sum 155 = .ok (.lmul, 1) := by decide +kernel
theorem dL_sum_156 : decode cL_sum 156 = .ok (.aload_n 0, 1) := by decide +kernel
theorem dL_sum_157 : decode cL_sum 157 = .ok (.invokevirtual 137, 3) := by decide +kernel
theorem dL_sum_160 : decode cL_sum 160 = .ok (.i2l, 1) := by decide +kernel
theorem dL_sum_161 : decode cL_sum 161 = .ok (.ladd, 1) := by decide +kernel
theorem dL_sum_162 : decode cL_sum 162 = .ok (.lmul, 1) := by decide +kernel
theorem dL_sum_163 : decode cL_sum 163 = .ok (.aload_n 0, 1) := by decide +kernel
theorem dL_sum_164 : decode cL_sum 164 = .ok (.invokevirtual 140, 3) := by decide +kernel
theorem dL_sum_167 : decode cL_sum 167 = .ok (.i2l, 1) := by decide +kernel
theorem dL_sum_168 : decode cL_sum 168 = .ok (.ladd, 1) := by decide +kernel
theorem dL_sum_169 : decode cL_sum 169 = .ok (.lreturn, 1) := by decide +kernel
theorem dL_children_0 : decode cL_children 0 = .ok (.aload_n 0, 1) := by decide +kernel
theorem dL_children_1 : decode cL_children 1 = .ok (.invokevirtual 104, 3) := by decide +kernel
theorem dL_children_4 : decode cL_children 4 = .ok (.iconst 1, 1) := by decide +kernel
theorem dL_children_5 : decode cL_children 5 = .ok (.isub, 1) := by decide +kernel
theorem dL_children_6 : decode cL_children 6 = .ok (.bipush 30, 2) := by decide +kernel
theorem dL_children_8 : decode cL_children 8 = .ok (.imul, 1) := by decide +kernel
theorem dL_children_9 : decode cL_children 9 = .ok (.aload_n 0, 1) := by decide +kernel
theorem dL_children_10 : decode cL_children 10 = .ok (.invokevirtual 107, 3) := by decide +kernel
theorem dL_children_13 : decode cL_children 13 = .ok (.iadd, 1) := by decide +kernel
theorem dL_children_14 : decode cL_children 14 = .ok (.iconst 1, 1) := by decide +kernel
theorem dL_children_15 : decode cL_children 15 = .ok (.isub, 1) := by decide +kernel
theorem dL_children_16 : decode cL_children 16 = .ok (.istore_n 1, 1) := by decide +kernel
theorem dL_children_17 : decode cL_children 17 = .ok (.iconst (-1), 1) := by decide +kernel
theorem dL_children_18 : decode cL_children 18 = .ok (.istore_n 2, 1) := by decide +kernel
theorem dL_children_19 : decode cL_children 19 = .ok (.iconst 0, 1) := by decide +kernel
theorem dL_children_20 : decode cL_children 20 = .ok (.istore_n 3, 1) := by decide +kernel
theorem dL_children_21 : decode cL_children 21 = .ok (.iconst 0, 1) := by decide +kernel
theorem dL_children_22 : decode cL_children 22 = .ok (.istore 4, 2) := by decide +kernel
theorem dL_children_24 : decode cL_children 24 = .ok (.iconst 0, 1) := by decide +kernel
theorem dL_children_25 : decode cL_children 25 = .ok (.istore 5, 2) := by decide +kernel
theorem dL_children_27 : decode cL_children 27 = .ok (.aload_n 0, 1) := by decide +kernel
theorem dL_children_28 : decode cL_children 28 = .ok (.invokevirtual 143, 3) := by decide +kernel
theorem dL_children_31 : decode cL_children 31 = .ok (.ifCond .ne 14, 3) := by decide +kernel
theorem dL_children_34 : decode cL_children 34 = .ok (.aload_n 0, 1) := by decide +kernel
theorem dL_children_35 : decode cL_children 35 = .ok (.invokevirtual 146, 3) := by decide +kernel
theorem dL_children_38 : decode cL_children 38 = .ok (.ifCond .ne 7, 3) := by decide +kernel
theorem dL_children_41 : decode cL_children 41 = .ok (.iconst 1, 1) := by decide +kernel
theorem dL_children_42 : decode cL_children 42 = .ok (.goto 4, 3) := by decide +kernel
theorem dL_children_45 : decode cL_children 45 = .ok (.iconst 0, 1) := by decide +kernel
theorem dL_children_46 : decode cL_children 46 = .ok (.istore 6, 2) := by decide +kernel
theorem dL_children_48 : decode cL_children 48 = .ok (.iconst 0, 1) := by decide +kernel
theorem dL_children_49 : decode cL_children 49 = .ok (.istore 7, 2) := by decide +kernel
theorem dL_children_51 : decode cL_children 51 = .ok (.iload 7, 2) := by decide +kernel
theorem dL_children_53 : decode cL_children 53 = .ok (.aload_n 0, 1) := by decide +kernel
theorem dL_children_54 : decode cL_children 54 = .ok (.invokevirtual 119, 3) := by decide +kernel
theorem dL_children_57 : decode cL_children 57 = .ok (.if_icmp .ge 259, 3) := by decide +kernel
theorem dL_children_60 : decode cL_children 60 = .ok (.iload 6, 2) := by decide +kernel
theorem dL_children_62 : decode cL_children 62 = .ok (.ifCond .eq 254, 3) := by decide +kernel
theorem dL_children_65 : decode cL_children 65 = .ok (.aload_n 0, 1) := by decide +kernel
theorem dL_children_66 : decode cL_children 66 = .ok (.iload 7, 2) := by decide +kernel
theorem dL_children_68 : decode cL_children 68 = .ok (.invokevirtual 128, 3) := by decide +kernel
theorem dL_children_71 : decode cL_children 71 = .ok (.istore 8, 2) := by decide +kernel
theorem dL_children_73 : decode cL_children 73 = .ok (.iload 8, 2) := by decide +kernel
theorem dL_children_75 : decode cL_children 75 = .ok (.ifCond .ge 7, 3) := by decide +kernel
theorem dL_children_78 : decode cL_children 78 = .ok (.iconst (-1), 1) := by decide +kernel
theorem dL_children_79 : decode cL_children 79 = .ok (.goto 24, 3) := by decide +kernel
theorem dL_children_82 : decode cL_children 82 = .ok (.iload 8, 2) := by decide +kernel
theorem dL_children_84 : decode cL_children 84 = .ok (.iload_n 1, 1) := by decide +kernel
theorem dL_children_85 : decode cL_children 85 = .ok (.if_icmp .le 10, 3) := by decide +kernel
theorem dL_children_88 : decode cL_children 88 = .ok (.iload 8, 2) := by decide +kernel
theorem dL_children_90 : decode cL_children 90 = .ok (.iload_n 1, 1) := by decide +kernel
theorem dL_children_91 : decode cL_children 91 = .ok (.isub, 1) := by decide +kernel
theorem dL_children_92 : decode cL_children 92 = .ok (.goto 11, 3) := by decide +kernel
theorem dL_children_95 : decode cL_children 95 = .ok (.iload 8, 2) := by decide +kernel
theorem dL_children_97 : decode cL_children 97 = .ok (.iload_n 1, 1) := by decide +kernel
theorem dL_children_98 : decode cL_children 98 = .ok (.isub, 1) := by decide +kernel
theorem dL_children_99 : decode cL_children 99 = .ok (.sipush 360, 3) := by decide +kernel
theorem dL_children_102 : decode cL_children 102 = .ok (.iadd, 1) := by decide +kernel
theorem dL_children_103 : decode cL_children 103 = .ok (.istore 9, 2) := by decide +kernel
theorem dL_children_105 : decode cL_children 105 = .ok (.iconst 0, 1) := by decide +kernel
theorem dL_children_106 : decode cL_children 106 = .ok (.istore 10, 2) := by decide +kernel
theorem dL_children_108 : decode cL_children 108 = .ok (.iconst 0, 1) := by decide +kernel
theorem dL_children_109 : decode cL_children 109 = .ok (.istore 11, 2) := by decide +kernel
theorem dL_children_111 : decode cL_children 111 = .ok (.iload 11, 2) := by decide +kernel
theorem dL_children_113 : decode cL_children 113 = .ok (.aload_n 0, 1) := by decide +kernel
theorem dL_children_114 : decode cL_children 114 = .ok (.invokevirtual 119, 3) := by decide +kernel
theorem dL_children_117 : decode cL_children 117 = .ok (.if_icmp .ge 34, 3) := by decide +kernel
theorem dL_children_120 : decode cL_children 120 = .ok (.iload 10, 2) := by decide +kernel
theorem dL_children_122 : decode cL_children 122 = .ok (.aload_n 0, 1) := by decide +kernel
theorem dL_children_123 : decode cL_children 123 = .ok (.iload 11, 2) := by decide +kernel
theorem dL_children_125 : decode cL_children 125 = .ok (.invokevirtual 149, 3) := by decide +kernel
theorem dL_children_128 : decode cL_children 128 = .ok (.aload_n 0, 1) := by decide +kernel
theorem dL_children_129 : decode cL_children 129 = .ok (.iload 7, 2) := by decide +kernel
theorem dL_children_131 : decode cL_children 131 = .ok (.invokevirtual 149, 3) := by decide +kernel
theorem dL_children_134 : decode cL_children 134 = .ok (.if_icmp .ne 7, 3) := by decide +kernel
theorem dL_children_137 : decode cL_children 137 = .ok (.iconst 1, 1) := by decide +kernel
theorem dL_children_138 : decode cL_children 138 = .ok (.goto 4, 3) := by decide +kernel
theorem dL_children_141 : decode cL_children 141 = .ok (.iconst 0, 1) := by decide +kernel
theorem dL_children_142 : decode cL_children 142 = .ok (.iadd, 1) := by decide +kernel
theorem dL_children_143 : decode cL_children 143 = .ok (.istore 10, 2) := by decide +kernel
theorem dL_children_145 : decode cL_children 145 = .ok (.iinc 11 1, 3) := by decide +kernel
theorem dL_children_148 : decode cL_children 148 = .ok (.goto (-37), 3) := by decide +kernel
theorem dL_children_151 : decode cL_children 151 = .ok (.iload 9, 2) := by decide +kernel
theorem dL_children_153 : decode cL_children 153 = .ok (.ifCond .le 22, 3) := by decide +kernel
theorem dL_children_156 : decode cL_children 156 = .ok (.iload_n 2, 1) := by decide +kernel
theorem dL_children_157 : decode cL_children 157 = .ok (.ifCond .lt 13, 3) := by decide +kernel
theorem dL_children_160 : decode cL_children 160 = .ok (.iload 9, 2) := by decide +kernel
theorem dL_children_162 : decode cL_children 162 = .ok (.aload_n 0, 1) := by decide +kernel
theorem dL_children_163 : decode cL_children 163 = .ok (.iload_n 2, 1) := by decide +kernel
theorem dL_children_164 : decode cL_children 164 = .ok (.invokevirtual 152, 3) := by decide +kernel
theorem dL_children_167 : decode cL_children 167 = .ok (.if_icmp .ge 8, 3) := by decide +kernel
theorem dL_children_170 : decode cL_children 170 = .ok (.iload 7, 2) := by decide +kernel
theorem dL_children_172 : decode cL_children 172 = .ok (.goto 4, 3) := by decide +kernel
theorem dL_children_175 : decode cL_children 175 = .ok (.iload_n 2, 1) := by decide +kernel
theorem dL_children_176 : decode cL_children 176 = .ok (.istore_n 2, 1) := by decide +kernel
theorem dL_children_177 : decode cL_children 177 = .ok (.iload_n 3, 1) := by decide +kernel
theorem dL_children_178 : decode cL_children 178 = .ok (.aload_n 0, 1) := by decide +kernel
theorem dL_children_179 : decode cL_children 179 = .ok (.iload 7, 2) := by decide +kernel
theorem dL_children_181 : decode cL_children 181 = .ok (.invokevirtual 122, 3) := by decide +kernel
theorem dL_children_184 : decode cL_children 184 = .ok (.iadd, 1) := by decide +kernel
theorem dL_children_185 : decode cL_children 185 = .ok (.istore_n 3, 1) := by decide +kernel
theorem dL_children_186 : decode cL_children 186 = .ok (.iload 4, 2) := by decide +kernel
theorem dL_children_188 : decode cL_children 188 = .ok (.aload_n 0, 1) := by decide +kernel
theorem dL_children_189 : decode cL_children 189 = .ok (.iload 7, 2) := by decide +kernel
theorem dL_children_191 : decode cL_children 191 = .ok (.invokevirtual 134, 3) := by decide +kernel
theorem dL_children_194 : decode cL_children 194 = .ok (.iadd, 1) := by decide +kernel
theorem dL_children_195 : decode cL_children 195 = .ok (.istore 4, 2) := by decide +kernel
theorem dL_children_197 : decode cL_children 197 = .ok (.iload 5, 2) := by decide +kernel
theorem dL_children_199 : decode cL_children 199 = .ok (.aload_n 0, 1) := by decide +kernel
theorem dL_children_200 : decode cL_children 200 = .ok (.iload 7, 2) := by decide +kernel
theorem dL_children_202 : decode cL_children 202 = .ok (.invokevirtual 131, 3) := by decide +kernel
theorem dL_children_205 : decode cL_children 205 = .ok (.iadd, 1) := by decide +kernel
theorem dL_children_206 : decode cL_children 206 = .ok (.istore 5, 2) := by decide +kernel
theorem dL_children_208 : decode cL_children 208 = .ok (.aload_n 0, 1) := by decide +kernel
theorem dL_children_209 : decode cL_children 209 = .ok (.iload 7, 2) := by decide +kernel
theorem dL_children_211 : decode cL_children 211 = .ok (.invokevirtual 152, 3) := by decide +kernel
theorem dL_children_214 : decode cL_children 214 = .ok (.iload 9, 2) := by decide +kernel
theorem dL_children_216 : decode cL_children 216 = .ok (.if_icmp .ne 91, 3) := by decide +kernel
theorem dL_children_219 : decode cL_children 219 = .ok (.aload_n 0, 1) := by decide +kernel
theorem dL_children_220 : decode cL_children 220 = .ok (.iload 7, 2) := by decide +kernel
theorem dL_children_222 : decode cL_children 222 = .ok (.invokevirtual 134, 3) := by decide +kernel
theorem dL_children_225 : decode cL_children 225 = .ok (.aload_n 0, 1) := by decide +kernel
theorem dL_children_226 : decode cL_children 226 = .ok (.iload 7, 2) := by decide +kernel
theorem dL_children_228 : decode cL_children 228 = .ok (.invokevirtual 131, 3) := by decide +kernel
theorem dL_children_231 : decode cL_children 231 = .ok (.if_icmp .gt 76, 3) := by decide +kernel
theorem dL_children_234 : decode cL_children 234 = .ok (.aload_n 0, 1) := by decide +kernel
theorem dL_children_235 : decode cL_children 235 = .ok (.iload 7, 2) := by decide +kernel
theorem dL_children_237 : decode cL_children 237 = .ok (.invokevirtual 155, 3) := by decide +kernel
theorem dL_children_240 : decode cL_children 240 = .ok (.aload_n 0, 1) := by decide +kernel
theorem dL_children_241 : decode cL_children 241 = .ok (.iload 7, 2) := by decide +kernel
theorem dL_children_243 : decode cL_children 243 = .ok (.invokevirtual 158, 3) := by decide +kernel
theorem dL_children_246 : decode cL_children 246 = .ok (.iload 10, 2) := by decide +kernel
theorem dL_children_248 : decode cL_children 248 = .ok (.iconst 1, 1) := by decide +kernel
theorem dL_children_249 : decode cL_children 249 = .ok (.isub, 1) := by decide +kernel
theorem dL_children_250 : decode cL_children 250 = .ok (.aload_n 0, 1) := by decide +kernel
theorem dL_children_251 : decode cL_children 251 = .ok (.aload_n 0, 1) := by decide +kernel
theorem dL_children_252 : decode cL_children 252 = .ok (.iload 7, 2) := by decide +kernel
theorem dL_children_254 : decode cL_children 254 = .ok (.invokevirtual 125, 3) := by decide +kernel
theorem dL_children_257 : decode cL_children 257 = .ok (.invokevirtual 161, 3) := by decide +kernel
theorem dL_children_260 : decode cL_children 260 = .ok (.iconst 1, 1) := by decide +kernel
theorem dL_children_261 : decode cL_children 261 = .ok (.isub, 1) := by decide +kernel
theorem dL_children_262 : decode cL_children 262 = .ok (.invokestatic 164, 3) := by decide +kernel
theorem dL_children_265 : decode cL_children 265 = .ok (.iadd, 1) := by decide +kernel
theorem dL_children_266 : decode cL_children 266 = .ok (.if_icmp .ne 41, 3) := by decide +kernel
theorem dL_children_269 : decode cL_children 269 = .ok (.iload 8, 2) := by decide +kernel
theorem dL_children_271 : decode cL_children 271 = .ok (.ifCond .lt 32, 3) := by decide +kernel
theorem dL_children_274 : decode cL_children 274 = .ok (.aload_n 0, 1) := by decide +kernel
theorem dL_children_275 : decode cL_children 275 = .ok (.aload_n 0, 1) := by decide +kernel
theorem dL_children_276 : decode cL_children 276 = .ok (.iload 7, 2) := by decide +kernel
theorem dL_children_278 : decode cL_children 278 = .ok (.invokevirtual 125, 3) := by decide +kernel
theorem dL_children_281 : decode cL_children 281 = .ok (.iload 8, 2) := by decide +kernel
theorem dL_children_283 : decode cL_children 283 = .ok (.bipush 30, 2) := by decide +kernel
theorem dL_children_285 : decode cL_children 285 = .ok (.idiv, 1) := by decide +kernel
theorem dL_children_286 : decode cL_children 286 = .ok (.iconst 1, 1) := by decide +kernel
theorem dL_children_287 : decode cL_children 287 = .ok (.iadd, 1) := by decide +kernel
theorem dL_children_288 : decode cL_children 288 = .ok (.iload 8, 2) := by decide +kernel
theorem dL_children_290 : decode cL_children 290 = .ok (.bipush 30, 2) := by decide +kernel
theorem dL_children_292 : decode cL_children 292 = .ok (.irem, 1) := by decide +kernel
theorem dL_children_293 : decode cL_children 293 = .ok (.iconst 1, 1) := by decide +kernel
theorem dL_children_294 : decode cL_children 294 = .ok (.iadd, 1) := by decide +kernel
theorem dL_children_295 : decode cL_children 295 = .ok (.invokevirtual 169, 3) := by decide +kernel
theorem dL_children_298 : decode cL_children 298 = .ok (.iload 7, 2) := by decide +kernel
theorem dL_children_300 : decode cL_children 300 = .ok (.if_icmp .ne 7, 3) := by decide +kernel
theorem dL_children_303 : decode cL_children 303 = .ok (.iconst 1, 1) := by decide +kernel
theorem dL_children_304 : decode cL_children 304 = .ok (.goto 4, 3) := by decide +kernel
theorem dL_children_307 : decode cL_children 307 = .ok (.iconst 0, 1) := by decide +kernel
theorem dL_children_308 : decode cL_children 308 = .ok (.istore 6, 2) := by decide +kernel
theorem dL_children_310 : decode cL_children 310 = .ok (.iinc 7 1, 3) := by decide +kernel
theorem dL_children_313 : decode cL_children 313 = .ok (.goto (-262), 3) := by decide +kernel
theorem dL_children_316 : decode cL_children 316 = .ok (.aload_n 0, 1) := by decide +kernel
theorem dL_children_317 : decode cL_children 317 = .ok (.invokevirtual 119, 3) := by decide +kernel
theorem dL_children_320 : decode cL_children 320 = .ok (.istore 7, 2) := by decide +kernel
theorem dL_children_322 : decode cL_children 322 = .ok (.iload 6, 2) := by decide +kernel
theorem dL_children_324 : decode cL_children 324 = .ok (.ifCond .eq 71, 3) := by decide +kernel
theorem dL_children_327 : decode cL_children 327 = .ok (.aload_n 0, 1) := by decide +kernel
theorem dL_children_328 : decode cL_children 328 = .ok (.invokevirtual 172, 3) := by decide +kernel
theorem dL_children_331 : decode cL_children 331 = .ok (.iload_n 2, 1) := by decide +kernel
theorem dL_children_332 : decode cL_children 332 = .ok (.if_icmp .ne 63, 3) := by decide +kernel
theorem dL_children_335 : decode cL_children 335 = .ok (.aload_n 0, 1) := by decide +kernel
theorem dL_children_336 : decode cL_children 336 = .ok (.invokevirtual 137, 3) := by decide +kernel
theorem dL_children_339 : decode cL_children 339 = .ok (.iload 5, 2) := by decide +kernel
theorem dL_children_341 : decode cL_children 341 = .ok (.if_icmp .ne 54, 3) := by decide +kernel
theorem dL_children_344 : decode cL_children 344 = .ok (.aload_n 0, 1) := by decide +kernel
theorem dL_children_345 : decode cL_children 345 = .ok (.invokevirtual 175, 3) := by decide +kernel
theorem dL_children_348 : decode cL_children 348 = .ok (.iload 7, 2) := by decide +kernel
theorem dL_children_350 : decode cL_children 350 = .ok (.ifCond .ne 7, 3) := by decide +kernel
theorem dL_children_353 : decode cL_children 353 = .ok (.dconst 0, 1) := by decide +kernel
theorem dL_children_354 : decode cL_children 354 = .ok (.goto 9, 3) := by decide +kernel
theorem dL_children_357 : decode cL_children 357 = .ok (.iload_n 3, 1) := by decide +kernel
theorem dL_children_358 : decode cL_children 358 = .ok (.i2d, 1) := by decide +kernel
theorem dL_children_359 : decode cL_children 359 = .ok (.iload 7, 2) := by decide +kernel
theorem dL_children_361 : decode cL_children 361 = .ok (.i2d, 1) := by decide +kernel
theorem dL_children_362 : decode cL_children 362 = .ok (.ddiv, 1) := by decide +kernel
theorem dL_children_363 : decode cL_children 363 = .ok (.dcmp .l, 1) := by decide +kernel
theorem dL_children_364 : decode cL_children 364 = .ok (.ifCond .ne 31, 3) := by decide +kernel
theorem dL_children_367 : decode cL_children 367 = .ok (.aload_n 0, 1) := by decide +kernel
theorem dL_children_368 : decode cL_children 368 = .ok (.invokevirtual 179, 3) := by decide +kernel
theorem dL_children_371 : decode cL_children 371 = .ok (.iload 5, 2) := by decide +kernel
theorem dL_children_373 : decode cL_children 373 = .ok (.ifCond .ne 7, 3) := by decide +kernel
theorem dL_children_376 : decode cL_children 376 = .ok (.fconst 0, 1) := by decide +kernel
theorem dL_children_377 : decode cL_children 377 = .ok (.goto 10, 3) := by decide +kernel
theorem dL_children_380 : decode cL_children 380 = .ok (.iload 4, 2) := by decide +kernel
theorem dL_children_382 : decode cL_children 382 = .ok (.i2f, 1) := by decide +kernel
theorem dL_children_383 : decode cL_children 383 = .ok (.iload 5, 2) := by decide +kernel
theorem dL_children_385 : decode cL_children 385 = .ok (.i2f, 1) := by decide +kernel
theorem dL_children_386 : decode cL_children 386 = .ok (.fdiv, 1) := by decide +kernel
theorem dL_children_387 : decode cL_children 387 = .ok (.fcmp .l, 1) := by decide +kernel
theorem dL_children_388 : decode cL_children 388 = .ok (.ifCond .ne 7, 3) := by decide +kernel
theorem dL_children_391 : decode cL_children 391 = .ok (.iconst 1, 1) := by decide +kernel
theorem dL_children_392 : decode cL_children 392 = .ok (.goto 4, 3) := by decide +kernel
theorem dL_children_395 : decode cL_children 395 = .ok (.iconst 0, 1) := by decide +kernel
theorem dL_children_396 : decode cL_children 396 = .ok (.ireturn, 1) := by decide +kernel
theorem dL_dates_0 : decode cL_dates 0 = .ok (.iconst 0, 1) := by decide +kernel
theorem dL_dates_1 : decode cL_dates 1 = .ok (.istore_n 1, 1) := by decide +kernel
theorem dL_dates_2 : decode cL_dates 2 = .ok (.iconst 1, 1) := by decide +kernel
theorem dL_dates_3 : decode cL_dates 3 = .ok (.istore_n 2, 1) := by decide +kernel
theorem dL_dates_4 : decode cL_dates 4 = .ok (.iconst 0, 1) := by decide +kernel
theorem dL_dates_5 : decode cL_dates 5 = .ok (.istore_n 3, 1) := by decide +kernel
theorem dL_dates_6 : decode cL_dates 6 = .ok (.iload_n 3, 1) := by decide +kernel
theorem dL_dates_7 : decode cL_dates 7 = .ok (.aload_n 0, 1) := by decide +kernel
theorem dL_dates_8 : decode cL_dates 8 = .ok (.invokevirtual 119, 3) := by decide +kernel
theorem dL_dates_11 : decode cL_dates 11 = .ok (.if_icmp .ge 106, 3) := by decide +kernel
theorem dL_dates_14 : decode cL_dates 14 = .ok (.iload_n 2, 1) := by decide +kernel
theorem dL_dates_15 : decode cL_dates 15 = .ok (.ifCond .eq 102, 3) := by decide +kernel
theorem dL_dates_18 : decode cL_dates 18 = .ok (.aload_n 0, 1) := by decide +kernel
theorem dL_dates_19 : decode cL_dates 19 = .ok (.iload_n 3, 1) := by decide +kernel
theorem dL_dates_20 : decode cL_dates 20 = .ok (.invokevirtual 128, 3) := by decide +kernel
theorem dL_dates_23 : decode cL_dates 23 = .ok (.ifCond .lt 7, 3) := by decide +kernel
theorem dL_dates_26 : decode cL_dates 26 = .ok (.iconst 1, 1) := by decide +kernel
theorem dL_dates_27 : decode cL_dates 27 = .ok (.goto 4, 3) := by decide +kernel
theorem dL_dates_30 : decode cL_dates 30 = .ok (.iconst 0, 1) := by decide +kernel
theorem dL_dates_31 : decode cL_dates 31 = .ok (.istore 4, 2) := by decide +kernel
theorem dL_dates_33 : decode cL_dates 33 = .ok (.iconst 0, 1) := by decide +kernel
theorem dL_dates_34 : decode cL_dates 34 = .ok (.istore 5, 2) := by decide +kernel
theorem dL_dates_36 : decode cL_dates 36 = .ok (.iload 5, 2) := by decide +kernel
theorem dL_dates_38 : decode cL_dates 38 = .ok (.iload_n 3, 1) := by decide +kernel
theorem dL_dates_39 : decode cL_dates 39 = .ok (.if_icmp .ge 35, 3) := by decide +kernel
theorem dL_dates_42 : decode cL_dates 42 = .ok (.iload 4, 2) := by decide +kernel
theorem dL_dates_44 : decode cL_dates 44 = .ok (.ifCond .eq 21, 3) := by decide +kernel
theorem dL_dates_47 : decode cL_dates 47 = .ok (.aload_n 0, 1) := by decide +kernel
theorem dL_dates_48 : decode cL_dates 48 = .ok (.iload 5, 2) := by decide +kernel
theorem dL_dates_50 : decode cL_dates 50 = .ok (.invokevirtual 128, 3) := by decide +kernel
theorem dL_dates_53 : decode cL_dates 53 = .ok (.aload_n 0, 1) := by decide +kernel
theorem dL_dates_54 : decode cL_dates 54 = .ok (.iload_n 3, 1) := by decide +kernel
theorem dL_dates_55 : decode cL_dates 55 = .ok (.invokevirtual 128, 3) := by decide +kernel
theorem dL_dates_58 : decode cL_dates 58 = .ok (.if_icmp .eq 7, 3) := by decide +kernel
theorem dL_dates_61 : decode cL_dates 61 = .ok (.iconst 1, 1) := by decide +kernel
theorem dL_dates_62 : decode cL_dates 62 = .ok (.goto 4, 3) := by decide +kernel
theorem dL_dates_65 : decode cL_dates 65 = .ok (.iconst 0, 1) := by decide +kernel
theorem dL_dates_66 : decode cL_dates 66 = .ok (.istore 4, 2) := by decide +kernel
theorem dL_dates_68 : decode cL_dates 68 = .ok (.iinc 5 1, 3) := by decide +kernel
theorem dL_dates_71 : decode cL_dates 71 = .ok (.goto (-35), 3) := by decide +kernel
theorem dL_dates_74 : decode cL_dates 74 = .ok (.iload 4, 2) := by decide +kernel
theorem dL_dates_76 : decode cL_dates 76 = .ok (.ifCond .eq 16, 3) := by decide +kernel
theorem dL_dates_79 : decode cL_dates 79 = .ok (.aload_n 0, 1) := by decide +kernel
theorem dL_dates_80 : decode cL_dates 80 = .ok (.iload_n 1, 1) := by decide +kernel
theorem dL_dates_81 : decode cL_dates 81 = .ok (.invokestatic 183, 3) := by decide +kernel
theorem dL_dates_84 : decode cL_dates 84 = .ok (.aload_n 0, 1) := by decide +kernel
theorem dL_dates_85 : decode cL_dates 85 = .ok (.iload_n 3, 1) := by decide +kernel
theorem dL_dates_86 : decode cL_dates 86 = .ok (.invokevirtual 128, 3) := by decide +kernel
theorem dL_dates_89 : decode cL_dates 89 = .ok (.if_icmp .ne 7, 3) := by decide +kernel
theorem dL_dates_92 : decode cL_dates 92 = .ok (.iconst 1, 1) := by decide +kernel
theorem dL_dates_93 : decode cL_dates 93 = .ok (.goto 4, 3) := by decide +kernel
theorem dL_dates_96 : decode cL_dates 96 = .ok (.iconst 0, 1) := by decide +kernel
theorem dL_dates_97 : decode cL_dates 97 = .ok (.istore_n 2, 1) := by decide +kernel
theorem dL_dates_98 : decode cL_dates 98 = .ok (.iload_n 1, 1) := by decide +kernel
theorem dL_dates_99 : decode cL_dates 99 = .ok (.iload 4, 2) := by decide +kernel
theorem dL_dates_101 : decode cL_dates 101 = .ok (.ifCond .eq 7, 3) := by decide +kernel
theorem dL_dates_104 : decode cL_dates 104 = .ok (.iconst 1, 1) := by decide +kernel
theorem dL_dates_105 : decode cL_dates 105 = .ok (.goto 4, 3) := by decide +kernel
theorem dL_dates_108 : decode cL_dates 108 = .ok (.iconst 0, 1) := by decide +kernel
theorem dL_dates_109 : decode cL_dates 109 = .ok (.iadd, 1) := by decide +kernel
theorem dL_dates_110 : decode cL_dates 110 = .ok (.istore_n 1, 1) := by decide +kernel
theorem dL_dates_111 : decode cL_dates 111 = .ok (.iinc 3 1, 3) := by decide +kernel
theorem dL_dates_114 : decode cL_dates 114 = .ok (.goto (-108), 3) := by decide +kernel
theorem dL_dates_117 : decode cL_dates 117 = .ok (.aload_n 0, 1) := by decide +kernel
theorem dL_dates_118 : decode cL_dates 118 = .ok (.invokevirtual 186, 3) := by decide +kernel
theorem dL_dates_121 : decode cL_dates 121 = .ok (.istore_n 3, 1) := by decide +kernel
theorem dL_dates_122 : decode cL_dates 122 = .ok (.iconst 0, 1) := by decide +kernel
theorem dL_dates_123 : decode cL_dates 123 = .ok (.istore 4, 2) := by decide +kernel
theorem dL_dates_125 : decode cL_dates 125 = .ok (.iconst 0, 1) := by decide +kernel
theorem dL_dates_126 : decode cL_dates 126 = .ok (.istore 5, 2) := by decide +kernel
theorem dL_dates_128 : decode cL_dates 128 = .ok (.iconst 1, 1) := by decide +kernel
theorem dL_dates_129 : decode cL_dates 129 = .ok (.istore 6, 2) := by decide +kernel
theorem dL_dates_131 : decode cL_dates 131 = .ok (.iload 6, 2) := by decide +kernel
theorem dL_dates_133 : decode cL_dates 133 = .ok (.bipush 13, 2) := by decide +kernel
theorem dL_dates_135 : decode cL_dates 135 = .ok (.if_icmp .ge 89, 3) := by decide +kernel
theorem dL_dates_138 : decode cL_dates 138 = .ok (.iconst 0, 1) := by decide +kernel
theorem dL_dates_139 : decode cL_dates 139 = .ok (.istore 7, 2) := by decide +kernel
theorem dL_dates_141 : decode cL_dates 141 = .ok (.iconst 1, 1) := by decide +kernel
theorem dL_dates_142 : decode cL_dates 142 = .ok (.istore 8, 2) := by decide +kernel
theorem dL_dates_144 : decode cL_dates 144 = .ok (.iload 8, 2) := by decide +kernel
theorem dL_dates_146 : decode cL_dates 146 = .ok (.bipush 31, 2) := by decide +kernel
theorem dL_dates_148 : decode cL_dates 148 = .ok (.if_icmp .ge 22, 3) := by decide +kernel
theorem dL_dates_151 : decode cL_dates 151 = .ok (.iload 7, 2) := by decide +kernel
theorem dL_dates_153 : decode cL_dates 153 = .ok (.aload_n 0, 1) := by decide +kernel
theorem dL_dates_154 : decode cL_dates 154 = .ok (.iload 6, 2) := by decide +kernel
theorem dL_dates_156 : decode cL_dates 156 = .ok (.iload 8, 2) := by decide +kernel
theorem dL_dates_158 : decode cL_dates 158 = .ok (.invokevirtual 189, 3) := by decide +kernel
theorem dL_dates_161 : decode cL_dates 161 = .ok (.iadd, 1) := by decide +kernel
theorem dL_dates_162 : decode cL_dates 162 = .ok (.istore 7, 2) := by decide +kernel
theorem dL_dates_164 : decode cL_dates 164 = .ok (.iinc 8 1, 3) := by decide +kernel
theorem dL_dates_167 : decode cL_dates 167 = .ok (.goto (-23), 3) := by decide +kernel
theorem dL_dates_170 : decode cL_dates 170 = .ok (.iload_n 2, 1) := by decide +kernel
theorem dL_dates_171 : decode cL_dates 171 = .ok (.ifCond .eq 29, 3) := by decide +kernel
theorem dL_dates_174 : decode cL_dates 174 = .ok (.iload_n 3, 1) := by decide +kernel
theorem dL_dates_175 : decode cL_dates 175 = .ok (.ifCond .gt 8, 3) := by decide +kernel
theorem dL_dates_178 : decode cL_dates 178 = .ok (.iload 7, 2) := by decide +kernel
theorem dL_dates_180 : decode cL_dates 180 = .ok (.ifCond .ne 20, 3) := by decide +kernel
theorem dL_dates_183 : decode cL_dates 183 = .ok (.iload 7, 2) := by decide +kernel
theorem dL_dates_185 : decode cL_dates 185 = .ok (.iload 4, 2) := by decide +kernel
theorem dL_dates_187 : decode cL_dates 187 = .ok (.if_icmp .le 9, 3) := by decide +kernel
theorem dL_dates_190 : decode cL_dates 190 = .ok (.iload_n 3, 1) := by decide +kernel
theorem dL_dates_191 : decode cL_dates 191 = .ok (.iload 6, 2) := by decide +kernel
theorem dL_dates_193 : decode cL_dates 193 = .ok (.if_icmp .lt 7, 3) := by decide +kernel
theorem dL_dates_196 : decode cL_dates 196 = .ok (.iconst 1, 1) := by decide +kernel
theorem dL_dates_197 : decode cL_dates 197 = .ok (.goto 4, 3) := by decide +kernel
theorem dL_dates_200 : decode cL_dates 200 = .ok (.iconst 0, 1) := by decide +kernel
theorem dL_dates_201 : decode cL_dates 201 = .ok (.istore_n 2, 1) := by decide +kernel
theorem dL_dates_202 : decode cL_dates 202 = .ok (.iload 5, 2) := by decide +kernel
theorem dL_dates_204 : decode cL_dates 204 = .ok (.iload 7, 2) := by decide +kernel
theorem dL_dates_206 : decode cL_dates 206 = .ok (.iadd, 1) := by decide +kernel
theorem dL_dates_207 : decode cL_dates 207 = .ok (.istore 5, 2) := by decide +kernel
theorem dL_dates_209 : decode cL_dates 209 = .ok (.iload 4, 2) := by decide +kernel
theorem dL_dates_211 : decode cL_dates 211 = .ok (.iload 7, 2) := by decide +kernel
theorem dL_dates_213 : decode cL_dates 213 = .ok (.invokestatic 192, 3) := by decide +kernel
theorem dL_dates_216 : decode cL_dates 216 = .ok (.istore 4, 2) := by decide +kernel
theorem dL_dates_218 : decode cL_dates 218 = .ok (.iinc 6 1, 3) := by decide +kernel
theorem dL_dates_221 : decode cL_dates 221 = .ok (.goto (-90), 3) := by decide +kernel
theorem dL_dates_224 : decode cL_dates 224 = .ok (.aload_n 0, 1) := by decide +kernel
theorem dL_dates_225 : decode cL_dates 225 = .ok (.invokevirtual 195, 3) := by decide +kernel
theorem dL_dates_228 : decode cL_dates 228 = .ok (.istore 6, 2) := by decide +kernel
theorem dL_dates_230 : decode cL_dates 230 = .ok (.bipush 6, 2) := by decide +kernel
theorem dL_dates_232 : decode cL_dates 232 = .ok (.newarray .int, 2) := by decide +kernel
theorem dL_dates_234 : decode cL_dates 234 = .ok (.astore 7, 2) := by decide +kernel
theorem dL_dates_236 : decode cL_dates 236 = .ok (.iconst 0, 1) := by decide +kernel
theorem dL_dates_237 : decode cL_dates 237 = .ok (.istore 8, 2) := by decide +kernel
theorem dL_dates_239 : decode cL_dates 239 = .ok (.iload 8, 2) := by decide +kernel
theorem dL_dates_241 : decode cL_dates 241 = .ok (.aload_n 0, 1) := by decide +kernel
theorem dL_dates_242 : decode cL_dates 242 = .ok (.invokevirtual 119, 3) := by decide +kernel
theorem dL_dates_245 : decode cL_dates 245 = .ok (.if_icmp .ge 41, 3) := by decide +kernel
theorem dL_dates_248 : decode cL_dates 248 = .ok (.iload 5, 2) := by decide +kernel
theorem dL_dates_250 : decode cL_dates 250 = .ok (.aload_n 0, 1) := by decide +kernel
theorem dL_dates_251 : decode cL_dates 251 = .ok (.iload 8, 2) := by decide +kernel
theorem dL_dates_253 : decode cL_dates 253 = .ok (.invokevirtual 128, 3) := by decide +kernel
theorem dL_dates_256 : decode cL_dates 256 = .ok (.ifCond .lt 7, 3) := by decide +kernel
theorem dL_dates_259 : decode cL_dates 259 = .ok (.iconst 1, 1) := by decide +kernel
theorem dL_dates_260 : decode cL_dates 260 = .ok (.goto 4, 3) := by decide +kernel
theorem dL_dates_263 : decode cL_dates 263 = .ok (.iconst 0, 1) := by decide +kernel
theorem dL_dates_264 : decode cL_dates 264 = .ok (.isub, 1) := by decide +kernel
theorem dL_dates_265 : decode cL_dates 265 = .ok (.istore 5, 2) := by decide +kernel
theorem dL_dates_267 : decode cL_dates 267 = .ok (.aload 7, 2) := by decide +kernel
theorem dL_dates_269 : decode cL_dates 269 = .ok (.aload_n 0, 1) := by decide +kernel
theorem dL_dates_270 : decode cL_dates 270 = .ok (.iload 8, 2) := by decide +kernel
theorem dL_dates_272 : decode cL_dates 272 = .ok (.invokevirtual 149, 3) := by decide +kernel
theorem dL_dates_275 : decode cL_dates 275 = .ok (.dup2, 1) := by decide +kernel
theorem dL_dates_276 : decode cL_dates 276 = .ok (.iaload, 1) := by decide +kernel
theorem dL_dates_277 : decode cL_dates 277 = .ok (.iconst 1, 1) := by decide +kernel
theorem dL_dates_278 : decode cL_dates 278 = .ok (.iadd, 1) := by decide +kernel
theorem dL_dates_279 : decode cL_dates 279 = .ok (.iastore, 1) := by decide +kernel
theorem dL_dates_280 : decode cL_dates 280 = .ok (.iinc 8 1, 3) := by decide +kernel
theorem dL_dates_283 : decode cL_dates 283 = .ok (.goto (-44), 3) := by decide +kernel
theorem dL_dates_286 : decode cL_dates 286 = .ok (.iconst 0, 1) := by decide +kernel
theorem dL_dates_287 : decode cL_dates 287 = .ok (.istore 8, 2) := by decide +kernel
theorem dL_dates_289 : decode cL_dates 289 = .ok (.iload 8, 2) := by decide +kernel
theorem dL_dates_291 : decode cL_dates 291 = .ok (.bipush 6, 2) := by decide +kernel
theorem dL_dates_293 : decode cL_dates 293 = .ok (.if_icmp .ge 52, 3) := by decide +kernel
theorem dL_dates_296 : decode cL_dates 296 = .ok (.iload_n 2, 1) := by decide +kernel
theorem dL_dates_297 : decode cL_dates 297 = .ok (.ifCond .eq 40, 3) := by decide +kernel
theorem dL_dates_300 : decode cL_dates 300 = .ok (.aload 7, 2) := by decide +kernel
theorem dL_dates_302 : decode cL_dates 302 = .ok (.iload 8, 2) := by decide +kernel
theorem dL_dates_304 : decode cL_dates 304 = .ok (.iaload, 1) := by decide +kernel
theorem dL_dates_305 : decode cL_dates 305 = .ok (.aload 7, 2) := by decide +kernel
theorem dL_dates_307 : decode cL_dates 307 = .ok (.iload 6, 2) := by decide +kernel
theorem dL_dates_309 : decode cL_dates 309 = .ok (.iaload, 1) := by decide +kernel
theorem dL_dates_310 : decode cL_dates 310 = .ok (.if_icmp .lt 23, 3) := by decide +kernel
theorem dL_dates_313 : decode cL_dates 313 = .ok (.aload 7, 2) := by decide +kernel
theorem dL_dates_315 : decode cL_dates 315 = .ok (.iload 8, 2) := by decide +kernel
theorem dL_dates_317 : decode cL_dates 317 = .ok (.iaload, 1) := by decide +kernel
theorem dL_dates_318 : decode cL_dates 318 = .ok (.aload 7, 2) := by decide +kernel
theorem dL_dates_320 : decode cL_dates 320 = .ok (.iload 6, 2) := by decide +kernel
theorem dL_dates_322 : decode cL_dates 322 = .ok (.iaload, 1) := by decide +kernel
theorem dL_dates_323 : decode cL_dates 323 = .ok (.if_icmp .ne 14, 3) := by decide +kernel
theorem dL_dates_326 : decode cL_dates 326 = .ok (.iload 6, 2) := by decide +kernel
theorem dL_dates_328 : decode cL_dates 328 = .ok (.iload 8, 2) := by decide +kernel
theorem dL_dates_330 : decode cL_dates 330 = .ok (.if_icmp .gt 7, 3) := by decide +kernel
theorem dL_dates_333 : decode cL_dates 333 = .ok (.iconst 1, 1) := by decide +kernel
theorem dL_dates_334 : decode cL_dates 334 = .ok (.goto 4, 3) := by decide +kernel
theorem dL_dates_337 : decode cL_dates 337 = .ok (.iconst 0, 1) := by decide +kernel
theorem dL_dates_338 : decode cL_dates 338 = .ok (.istore_n 2, 1) := by decide +kernel
theorem dL_dates_339 : decode cL_dates 339 = .ok (.iinc 8 1, 3) := by decide +kernel
theorem dL_dates_342 : decode cL_dates 342 = .ok (.goto (-53), 3) := by decide +kernel
theorem dL_dates_345 : decode cL_dates 345 = .ok (.iload_n 2, 1) := by decide +kernel
theorem dL_dates_346 : decode cL_dates 346 = .ok (.ifCond .eq 30, 3) := by decide +kernel
theorem dL_dates_349 : decode cL_dates 349 = .ok (.iload 5, 2) := by decide +kernel
theorem dL_dates_351 : decode cL_dates 351 = .ok (.ifCond .ne 25, 3) := by decide +kernel
theorem dL_dates_354 : decode cL_dates 354 = .ok (.aload_n 0, 1) := by decide +kernel
theorem dL_dates_355 : decode cL_dates 355 = .ok (.invokevirtual 198, 3) := by decide +kernel
theorem dL_dates_358 : decode cL_dates 358 = .ok (.iload_n 1, 1) := by decide +kernel
theorem dL_dates_359 : decode cL_dates 359 = .ok (.if_icmp .ne 17, 3) := by decide +kernel
theorem dL_dates_362 : decode cL_dates 362 = .ok (.aload_n 0, 1) := by decide +kernel
theorem dL_dates_363 : decode cL_dates 363 = .ok (.iload_n 1, 1) := by decide +kernel
theorem dL_dates_364 : decode cL_dates 364 = .ok (.invokestatic 183, 3) := by decide +kernel
theorem dL_dates_367 : decode cL_dates 367 = .ok (.bipush (-5), 2) := by decide +kernel
theorem dL_dates_369 : decode cL_dates 369 = .ok (.if_icmp .ne 7, 3) := by decide +kernel
theorem dL_dates_372 : decode cL_dates 372 = .ok (.iconst 1, 1) := by decide +kernel
theorem dL_dates_373 : decode cL_dates 373 = .ok (.goto 4, 3) := by decide +kernel
theorem dL_dates_376 : decode cL_dates 376 = .ok (.iconst 0, 1) := by decide +kernel
theorem dL_dates_377 : decode cL_dates 377 = .ok (.ireturn, 1) := by decide +kernel
theorem dL_act_0 : decode cL_act 0 = .ok (.aload_n 0, 1) := by decide +kernel
theorem dL_act_1 : decode cL_act 1 = .ok (.invokevirtual 119, 3) := by decide +kernel
theorem dL_act_4 : decode cL_act 4 = .ok (.istore_n 2, 1) := by decide +kernel
theorem dL_act_5 : decode cL_act 5 = .ok (.iload_n 2, 1) := by decide +kernel
theorem dL_act_6 : decode cL_act 6 = .ok (.ifCond .ne 7, 3) := by decide +kernel
theorem dL_act_9 : decode cL_act 9 = .ok (.iconst 0, 1) := by decide +kernel
theorem dL_act_10 : decode cL_act 10 = .ok (.goto 9, 3) := by decide +kernel
theorem dL_act_13 : decode cL_act 13 = .ok (.aload_n 1, 1) := by decide +kernel
theorem dL_act_14 : decode cL_act 14 = .ok (.invokestatic 76, 3) := by decide +kernel
theorem dL_act_17 : decode cL_act 17 = .ok (.iload_n 2, 1) := by decide +kernel
theorem dL_act_18 : decode cL_act 18 = .ok (.irem, 1) := by decide +kernel
theorem dL_act_19 : decode cL_act 19 = .ok (.istore_n 3, 1) := by decide +kernel
theorem dL_act_20 : decode cL_act 20 = .ok (.aload_n 1, 1) := by decide +kernel
theorem dL_act_21 : decode cL_act 21 = .ok (.invokestatic 76, 3) := by decide +kernel
theorem dL_act_24 : decode cL_act 24 = .ok (.aload_n 0, 1) := by decide +kernel
theorem dL_act_25 : decode cL_act 25 = .ok (.invokevirtual 201, 3) := by decide +kernel
theorem dL_act_28 : decode cL_act 28 = .ok (.irem, 1) := by decide +kernel
theorem dL_act_29 : decode cL_act 29 = .ok (.istore 4, 2) := by decide +kernel
theorem dL_act_31 : decode cL_act 31 = .ok (.iconst 1, 1) := by decide +kernel
theorem dL_act_32 : decode cL_act 32 = .ok (.aload_n 1, 1) := by decide +kernel
theorem dL_act_33 : decode cL_act 33 = .ok (.invokestatic 76, 3) := by decide +kernel
theorem dL_act_36 : decode cL_act 36 = .ok (.bipush 12, 2) := by decide +kernel
theorem dL_act_38 : decode cL_act 38 = .ok (.irem, 1) := by decide +kernel
theorem dL_act_39 : decode cL_act 39 = .ok (.iadd, 1) := by decide +kernel
theorem dL_act_40 : decode cL_act 40 = .ok (.istore 5, 2) := by decide +kernel
theorem dL_act_42 : decode cL_act 42 = .ok (.iconst 1, 1) := by decide +kernel
theorem dL_act_43 : decode cL_act 43 = .ok (.aload_n 1, 1) := by decide +kernel
theorem dL_act_44 : decode cL_act 44 = .ok (.invokestatic 76, 3) := by decide +kernel
theorem dL_act_47 : decode cL_act 47 = .ok (.bipush 30, 2) := by decide +kernel
theorem dL_act_49 : decode cL_act 49 = .ok (.irem, 1) := by decide +kernel
theorem dL_act_50 : decode cL_act 50 = .ok (.iadd, 1) := by decide +kernel
theorem dL_act_51 : decode cL_act 51 = .ok (.istore 6, 2) := by decide +kernel
theorem dL_act_53 : decode cL_act 53 = .ok (.iload 5, 2) := by decide +kernel
theorem dL_act_55 : decode cL_act 55 = .ok (.iconst 1, 1) := by decide +kernel
theorem dL_act_56 : decode cL_act 56 = .ok (.isub, 1) := by decide +kernel
theorem dL_act_57 : decode cL_act 57 = .ok (.bipush 30, 2) := by decide +kernel
theorem dL_act_59 : decode cL_act 59 = .ok (.imul, 1) := by decide +kernel
theorem dL_act_60 : decode cL_act 60 = .ok (.iload 6, 2) := by decide +kernel
theorem dL_act_62 : decode cL_act 62 = .ok (.iadd, 1) := by decide +kernel
theorem dL_act_63 : decode cL_act 63 = .ok (.iconst 1, 1) := by decide +kernel
theorem dL_act_64 : decode cL_act 64 = .ok (.isub, 1) := by decide +kernel
theorem dL_act_65 : decode cL_act 65 = .ok (.istore 7, 2) := by decide +kernel
theorem dL_act_67 : decode cL_act 67 = .ok (.iload_n 2, 1) := by decide +kernel
theorem dL_act_68 : decode cL_act 68 = .ok (.ifCond .ne 7, 3) := by decide +kernel
theorem dL_act_71 : decode cL_act 71 = .ok (.iconst (-1), 1) := by decide +kernel
theorem dL_act_72 : decode cL_act 72 = .ok (.goto 8, 3) := by decide +kernel
theorem dL_act_75 : decode cL_act 75 = .ok (.aload_n 0, 1) := by decide +kernel
theorem dL_act_76 : decode cL_act 76 = .ok (.iload_n 3, 1) := by decide +kernel
theorem dL_act_77 : decode cL_act 77 = .ok (.invokevirtual 128, 3) := by decide +kernel
theorem dL_act_80 : decode cL_act 80 = .ok (.istore 8, 2) := by decide +kernel
theorem dL_act_82 : decode cL_act 82 = .ok (.aload_n 1, 1) := by decide +kernel
theorem dL_act_83 : decode cL_act 83 = .ok (.invokestatic 76, 3) := by decide +kernel
theorem dL_act_86 : decode cL_act 86 = .ok (.bipush 10, 2) := by decide +kernel
theorem dL_act_88 : decode cL_act 88 = .ok (.irem, 1) := by decide +kernel
theorem dL_act_89 : decode cL_act 89 = .ok (.tableswitch 624 0 8 #[51, 51, 139, 139, 249, 249, 352, 402, 533], 51) := by decide +kernel
theorem dL_act_140 : decode cL_act 140 = .ok (.iconst 1, 1) := by decide +kernel
theorem dL_act_141 : decode cL_act 141 = .ok (.aload_n 1, 1) := by decide +kernel
theorem dL_act_142 : decode cL_act 142 = .ok (.invokestatic 76, 3) := by decide +kernel
theorem dL_act_145 : decode cL_act 145 = .ok (.sipush 400, 3) := by decide +kernel
theorem dL_act_148 : decode cL_act 148 = .ok (.irem, 1) := by decide +kernel
theorem dL_act_149 : decode cL_act 149 = .ok (.iadd, 1) := by decide +kernel
theorem dL_act_150 : decode cL_act 150 = .ok (.istore 9, 2) := by decide +kernel
theorem dL_act_152 : decode cL_act 152 = .ok (.aload_n 0, 1) := by decide +kernel
theorem dL_act_153 : decode cL_act 153 = .ok (.iload 9, 2) := by decide +kernel
theorem dL_act_155 : decode cL_act 155 = .ok (.invokevirtual 204, 3) := by decide +kernel
theorem dL_act_158 : decode cL_act 158 = .ok (.istore 10, 2) := by decide +kernel
theorem dL_act_160 : decode cL_act 160 = .ok (.iload_n 2, 1) := by decide +kernel
theorem dL_act_161 : decode cL_act 161 = .ok (.ifCond .ne 7, 3) := by decide +kernel
theorem dL_act_164 : decode cL_act 164 = .ok (.iconst 0, 1) := by decide +kernel
theorem dL_act_165 : decode cL_act 165 = .ok (.goto 10, 3) := by decide +kernel
theorem dL_act_168 : decode cL_act 168 = .ok (.aload_n 0, 1) := by decide +kernel
theorem dL_act_169 : decode cL_act 169 = .ok (.iload_n 3, 1) := by decide +kernel
theorem dL_act_170 : decode cL_act 170 = .ok (.iload 9, 2) := by decide +kernel
theorem dL_act_172 : decode cL_act 172 = .ok (.invokevirtual 207, 3) := by decide +kernel
theorem dL_act_175 : decode cL_act 175 = .ok (.istore 11, 2) := by decide +kernel
theorem dL_act_177 : decode cL_act 177 = .ok (.aload_n 0, 1) := by decide +kernel
theorem dL_act_178 : decode cL_act 178 = .ok (.invokevirtual 137, 3) := by decide +kernel
theorem dL_act_181 : decode cL_act 181 = .ok (.istore 12, 2) := by decide +kernel
theorem dL_act_183 : decode cL_act 183 = .ok (.aload_n 0, 1) := by decide +kernel
theorem dL_act_184 : decode cL_act 184 = .ok (.iload 9, 2) := by decide +kernel
theorem dL_act_186 : decode cL_act 186 = .ok (.invokestatic 210, 3) := by decide +kernel
theorem dL_act_189 : decode cL_act 189 = .ok (.aload_n 0, 1) := by decide +kernel
theorem dL_act_190 : decode cL_act 190 = .ok (.invokevirtual 137, 3) := by decide +kernel
theorem dL_act_193 : decode cL_act 193 = .ok (.iload 12, 2) := by decide +kernel
theorem dL_act_195 : decode cL_act 195 = .ok (.isub, 1) := by decide +kernel
theorem dL_act_196 : decode cL_act 196 = .ok (.if_icmp .ne 30, 3) := by decide +kernel
theorem dL_act_199 : decode cL_act 199 = .ok (.aload_n 0, 1) := by decide +kernel
theorem dL_act_200 : decode cL_act 200 = .ok (.invokevirtual 113, 3) := by decide +kernel
theorem dL_act_203 : decode cL_act 203 = .ok (.iload 10, 2) := by decide +kernel
theorem dL_act_205 : decode cL_act 205 = .ok (.if_icmp .ne 21, 3) := by decide +kernel
theorem dL_act_208 : decode cL_act 208 = .ok (.iload_n 2, 1) := by decide +kernel
theorem dL_act_209 : decode cL_act 209 = .ok (.ifCond .eq 13, 3) := by decide +kernel
theorem dL_act_212 : decode cL_act 212 = .ok (.aload_n 0, 1) := by decide +kernel
theorem dL_act_213 : decode cL_act 213 = .ok (.iload_n 3, 1) := by decide +kernel
theorem dL_act_214 : decode cL_act 214 = .ok (.invokevirtual 134, 3) := by decide +kernel
theorem dL_act_217 : decode cL_act 217 = .ok (.iload 11, 2) := by decide +kernel
theorem dL_act_219 : decode cL_act 219 = .ok (.if_icmp .ne 7, 3) := by decide +kernel
theorem dL_act_222 : decode cL_act 222 = .ok (.iconst 1, 1) := by decide +kernel
theorem dL_act_223 : decode cL_act 223 = .ok (.goto 4, 3) := by decide +kernel
theorem dL_act_226 : decode cL_act 226 = .ok (.iconst 0, 1) := by decide +kernel
theorem dL_act_227 : decode cL_act 227 = .ok (.ireturn, 1) := by decide +kernel
theorem dL_act_228 : decode cL_act 228 = .ok (.iload_n 2, 1) := by decide +kernel
theorem dL_act_229 : decode cL_act 229 = .ok (.ifCond .ne 8, 3) := by decide +kernel
theorem dL_act_232 : decode cL_act 232 = .ok (.bipush (-5), 2) := by decide +kernel
theorem dL_act_234 : decode cL_act 234 = .ok (.goto 8, 3) := by decide +kernel
theorem dL_act_237 : decode cL_act 237 = .ok (.aload_n 0, 1) := by decide +kernel
theorem dL_act_238 : decode cL_act 238 = .ok (.iload_n 3, 1) := by decide +kernel
theorem dL_act_239 : decode cL_act 239 = .ok (.invokevirtual 213, 3) := by decide +kernel
theorem dL_act_242 : decode cL_act 242 = .ok (.istore 13, 2) := by decide +kernel
theorem dL_act_244 : decode cL_act 244 = .ok (.aload_n 0, 1) := by decide +kernel
theorem dL_act_245 : decode cL_act 245 = .ok (.invokevirtual 216, 3) := by decide +kernel
theorem dL_act_248 : decode cL_act 248 = .ok (.istore 14, 2) := by decide +kernel
theorem dL_act_250 : decode cL_act 250 = .ok (.aload_n 0, 1) := by decide +kernel
theorem dL_act_251 : decode cL_act 251 = .ok (.iload_n 3, 1) := by decide +kernel
theorem dL_act_252 : decode cL_act 252 = .ok (.invokestatic 219, 3) := by decide +kernel
theorem dL_act_255 : decode cL_act 255 = .ok (.istore 15, 2) := by decide +kernel
theorem dL_act_257 : decode cL_act 257 = .ok (.iload 13, 2) := by decide +kernel
theorem dL_act_259 : decode cL_act 259 = .ok (.ifCond .ge 34, 3) := by decide +kernel
theorem dL_act_262 : decode cL_act 262 = .ok (.iload 15, 2) := by decide +kernel
theorem dL_act_264 : decode cL_act 264 = .ok (.iload_n 2, 1) := by decide +kernel
theorem dL_act_265 : decode cL_act 265 = .ok (.ifCond .ne 8, 3) := by decide +kernel
theorem dL_act_268 : decode cL_act 268 = .ok (.bipush (-5), 2) := by decide +kernel
theorem dL_act_270 : decode cL_act 270 = .ok (.goto 5, 3) := by decide +kernel
theorem dL_act_273 : decode cL_act 273 = .ok (.bipush (-3), 2) := by decide +kernel
theorem dL_act_275 : decode cL_act 275 = .ok (.if_icmp .ne 16, 3) := by decide +kernel
theorem dL_act_278 : decode cL_act 278 = .ok (.aload_n 0, 1) := by decide +kernel
theorem dL_act_279 : decode cL_act 279 = .ok (.iconst 0, 1) := by decide +kernel
theorem dL_act_280 : decode cL_act 280 = .ok (.iconst 1, 1) := by decide +kernel
theorem dL_act_281 : decode cL_act 281 = .ok (.invokestatic 222, 3) := by decide +kernel
theorem dL_act_284 : decode cL_act 284 = .ok (.ifCond .eq 7, 3) := by decide +kernel
theorem dL_act_287 : decode cL_act 287 = .ok (.iconst 1, 1) := by decide +kernel
theorem dL_act_288 : decode cL_act 288 = .ok (.goto 4, 3) := by decide +kernel
theorem dL_act_291 : decode cL_act 291 = .ok (.iconst 0, 1) := by decide +kernel
theorem dL_act_292 : decode cL_act 292 = .ok (.ireturn, 1) := by decide +kernel
theorem dL_act_293 : decode cL_act 293 = .ok (.iload 15, 2) := by decide +kernel
theorem dL_act_295 : decode cL_act 295 = .ok (.iload 13, 2) := by decide +kernel
theorem dL_act_297 : decode cL_act 297 = .ok (.if_icmp .ne 39, 3) := by decide +kernel
theorem dL_act_300 : decode cL_act 300 = .ok (.iload 13, 2) := by decide +kernel
theorem dL_act_302 : decode cL_act 302 = .ok (.iconst 1, 1) := by decide +kernel
theorem dL_act_303 : decode cL_act 303 = .ok (.if_icmp .gt 13, 3) := by decide +kernel
theorem dL_act_306 : decode cL_act 306 = .ok (.aload_n 0, 1) := by decide +kernel
theorem dL_act_307 : decode cL_act 307 = .ok (.iload_n 3, 1) := by decide +kernel
theorem dL_act_308 : decode cL_act 308 = .ok (.invokevirtual 128, 3) := by decide +kernel
theorem dL_act_311 : decode cL_act 311 = .ok (.iload 14, 2) := by decide +kernel
theorem dL_act_313 : decode cL_act 313 = .ok (.if_icmp .ne 23, 3) := by decide +kernel
theorem dL_act_316 : decode cL_act 316 = .ok (.aload_n 0, 1) := by decide +kernel
theorem dL_act_317 : decode cL_act 317 = .ok (.invokevirtual 110, 3) := by decide +kernel
theorem dL_act_320 : decode cL_act 320 = .ok (.sipush 360, 3) := by decide +kernel
theorem dL_act_323 : decode cL_act 323 = .ok (.irem, 1) := by decide +kernel
theorem dL_act_324 : decode cL_act 324 = .ok (.aload_n 0, 1) := by decide +kernel
theorem dL_act_325 : decode cL_act 325 = .ok (.iload_n 3, 1) := by decide +kernel
theorem dL_act_326 : decode cL_act 326 = .ok (.invokevirtual 128, 3) := by decide +kernel
theorem dL_act_329 : decode cL_act 329 = .ok (.if_icmp .ne 7, 3) := by decide +kernel
theorem dL_act_332 : decode cL_act 332 = .ok (.iconst 1, 1) := by decide +kernel
theorem dL_act_333 : decode cL_act 333 = .ok (.goto 4, 3) := by decide +kernel
theorem dL_act_336 : decode cL_act 336 = .ok (.iconst 0, 1) := by decide +kernel
theorem dL_act_337 : decode cL_act 337 = .ok (.ireturn, 1) := by decide +kernel
theorem dL_act_338 : decode cL_act 338 = .ok (.iload_n 2, 1) := by decide +kernel
theorem dL_act_339 : decode cL_act 339 = .ok (.ifCond .ne 7, 3) := by decide +kernel
theorem dL_act_342 : decode cL_act 342 = .ok (.iconst 0, 1) := by decide +kernel
theorem dL_act_343 : decode cL_act 343 = .ok (.goto 17, 3) := by decide +kernel
theorem dL_act_346 : decode cL_act 346 = .ok (.aload_n 0, 1) := by decide +kernel
theorem dL_act_347 : decode cL_act 347 = .ok (.iload_n 3, 1) := by decide +kernel
theorem dL_act_348 : decode cL_act 348 = .ok (.aload_n 0, 1) := by decide +kernel
theorem dL_act_349 : decode cL_act 349 = .ok (.iload_n 3, 1) := by decide +kernel
theorem dL_act_350 : decode cL_act 350 = .ok (.invokevirtual 125, 3) := by decide +kernel
theorem dL_act_353 : decode cL_act 353 = .ok (.iload 5, 2) := by decide +kernel
theorem dL_act_355 : decode cL_act 355 = .ok (.iload 6, 2) := by decide +kernel
theorem dL_act_357 : decode cL_act 357 = .ok (.invokevirtual 226, 3) := by decide +kernel
theorem dL_act_360 : decode cL_act 360 = .ok (.istore 16, 2) := by decide +kernel
theorem dL_act_362 : decode cL_act 362 = .ok (.aload_n 0, 1) := by decide +kernel
theorem dL_act_363 : decode cL_act 363 = .ok (.iload_n 3, 1) := by decide +kernel
theorem dL_act_364 : decode cL_act 364 = .ok (.iload 5, 2) := by decide +kernel
theorem dL_act_366 : decode cL_act 366 = .ok (.iload 6, 2) := by decide +kernel
theorem dL_act_368 : decode cL_act 368 = .ok (.invokestatic 230, 3) := by decide +kernel
theorem dL_act_371 : decode cL_act 371 = .ok (.istore 17, 2) := by decide +kernel
theorem dL_act_373 : decode cL_act 373 = .ok (.iload_n 2, 1) := by decide +kernel
theorem dL_act_374 : decode cL_act 374 = .ok (.ifCond .eq 8, 3) := by decide +kernel
theorem dL_act_377 : decode cL_act 377 = .ok (.iload 16, 2) := by decide +kernel
theorem dL_act_379 : decode cL_act 379 = .ok (.ifCond .eq 36, 3) := by decide +kernel
theorem dL_act_382 : decode cL_act 382 = .ok (.iload 17, 2) := by decide +kernel
theorem dL_act_384 : decode cL_act 384 = .ok (.iload_n 2, 1) := by decide +kernel
theorem dL_act_385 : decode cL_act 385 = .ok (.ifCond .ne 8, 3) := by decide +kernel
theorem dL_act_388 : decode cL_act 388 = .ok (.bipush (-5), 2) := by decide +kernel
theorem dL_act_390 : decode cL_act 390 = .ok (.goto 5, 3) := by decide +kernel
theorem dL_act_393 : decode cL_act 393 = .ok (.bipush (-3), 2) := by decide +kernel
theorem dL_act_395 : decode cL_act 395 = .ok (.if_icmp .ne 16, 3) := by decide +kernel
theorem dL_act_398 : decode cL_act 398 = .ok (.aload_n 0, 1) := by decide +kernel
theorem dL_act_399 : decode cL_act 399 = .ok (.iconst 1, 1) := by decide +kernel
theorem dL_act_400 : decode cL_act 400 = .ok (.iconst 1, 1) := by decide +kernel
theorem dL_act_401 : decode cL_act 401 = .ok (.invokestatic 222, 3) := by decide +kernel
theorem dL_act_404 : decode cL_act 404 = .ok (.ifCond .eq 7, 3) := by decide +kernel
theorem dL_act_407 : decode cL_act 407 = .ok (.iconst 1, 1) := by decide +kernel
theorem dL_act_408 : decode cL_act 408 = .ok (.goto 32, 3) := by decide +kernel
theorem dL_act_411 : decode cL_act 411 = .ok (.iconst 0, 1) := by decide +kernel
theorem dL_act_412 : decode cL_act 412 = .ok (.goto 28, 3) := by decide +kernel
theorem dL_act_415 : decode cL_act 415 = .ok (.aload_n 0, 1) := by decide +kernel
theorem dL_act_416 : decode cL_act 416 = .ok (.iload_n 3, 1) := by decide +kernel
theorem dL_act_417 : decode cL_act 417 = .ok (.invokevirtual 128, 3) := by decide +kernel
theorem dL_act_420 : decode cL_act 420 = .ok (.iload 7, 2) := by decide +kernel
theorem dL_act_422 : decode cL_act 422 = .ok (.if_icmp .ne 17, 3) := by decide +kernel
theorem dL_act_425 : decode cL_act 425 = .ok (.aload_n 0, 1) := by decide +kernel
theorem dL_act_426 : decode cL_act 426 = .ok (.iload_n 3, 1) := by decide +kernel
theorem dL_act_427 : decode cL_act 427 = .ok (.invokevirtual 152, 3) := by decide +kernel
theorem dL_act_430 : decode cL_act 430 = .ok (.iload 17, 2) := by decide +kernel
theorem dL_act_432 : decode cL_act 432 = .ok (.if_icmp .ne 7, 3) := by decide +kernel
theorem dL_act_435 : decode cL_act 435 = .ok (.iconst 1, 1) := by decide +kernel
theorem dL_act_436 : decode cL_act 436 = .ok (.goto 4, 3) := by decide +kernel
theorem dL_act_439 : decode cL_act 439 = .ok (.iconst 0, 1) := by decide +kernel
theorem dL_act_440 : decode cL_act 440 = .ok (.ireturn, 1) := by decide +kernel
theorem dL_act_441 : decode cL_act 441 = .ok (.aload_n 0, 1) := by decide +kernel
theorem dL_act_442 : decode cL_act 442 = .ok (.iload_n 3, 1) := by decide +kernel
theorem dL_act_443 : decode cL_act 443 = .ok (.invokestatic 234, 3) := by decide +kernel
theorem dL_act_446 : decode cL_act 446 = .ok (.iload_n 2, 1) := by decide +kernel
theorem dL_act_447 : decode cL_act 447 = .ok (.ifCond .ne 8, 3) := by decide +kernel
theorem dL_act_450 : decode cL_act 450 = .ok (.bipush (-5), 2) := by decide +kernel
theorem dL_act_452 : decode cL_act 452 = .ok (.goto 5, 3) := by decide +kernel
theorem dL_act_455 : decode cL_act 455 = .ok (.iload 8, 2) := by decide +kernel
theorem dL_act_457 : decode cL_act 457 = .ok (.if_icmp .ne 32, 3) := by decide +kernel
theorem dL_act_460 : decode cL_act 460 = .ok (.iload_n 2, 1) := by decide +kernel
theorem dL_act_461 : decode cL_act 461 = .ok (.ifCond .ne 15, 3) := by decide +kernel
theorem dL_act_464 : decode cL_act 464 = .ok (.aload_n 0, 1) := by decide +kernel
theorem dL_act_465 : decode cL_act 465 = .ok (.iconst 2, 1) := by decide +kernel
theorem dL_act_466 : decode cL_act 466 = .ok (.iconst 1, 1) := by decide +kernel
theorem dL_act_467 : decode cL_act 467 = .ok (.invokestatic 222, 3) := by decide +kernel
theorem dL_act_470 : decode cL_act 470 = .ok (.ifCond .eq 19, 3) := by decide +kernel
theorem dL_act_473 : decode cL_act 473 = .ok (.goto 12, 3) := by decide +kernel
theorem dL_act_476 : decode cL_act 476 = .ok (.aload_n 0, 1) := by decide +kernel
theorem dL_act_477 : decode cL_act 477 = .ok (.iload_n 3, 1) := by decide +kernel
theorem dL_act_478 : decode cL_act 478 = .ok (.invokevirtual 128, 3) := by decide +kernel
theorem dL_act_481 : decode cL_act 481 = .ok (.iconst (-1), 1) := by decide +kernel
theorem dL_act_482 : decode cL_act 482 = .ok (.if_icmp .ne 7, 3) := by decide +kernel
theorem dL_act_485 : decode cL_act 485 = .ok (.iconst 1, 1) := by decide +kernel
theorem dL_act_486 : decode cL_act 486 = .ok (.goto 4, 3) := by decide +kernel
theorem dL_act_489 : decode cL_act 489 = .ok (.iconst 0, 1) := by decide +kernel
theorem dL_act_490 : decode cL_act 490 = .ok (.ireturn, 1) := by decide +kernel
theorem dL_act_491 : decode cL_act 491 = .ok (.iload_n 2, 1) := by decide +kernel
theorem dL_act_492 : decode cL_act 492 = .ok (.ifCond .ne 8, 3) := by decide +kernel
theorem dL_act_495 : decode cL_act 495 = .ok (.bipush (-5), 2) := by decide +kernel
theorem dL_act_497 : decode cL_act 497 = .ok (.goto 8, 3) := by decide +kernel
theorem dL_act_500 : decode cL_act 500 = .ok (.aload_n 0, 1) := by decide +kernel
theorem dL_act_501 : decode cL_act 501 = .ok (.iload_n 3, 1) := by decide +kernel
theorem dL_act_502 : decode cL_act 502 = .ok (.invokevirtual 125, 3) := by decide +kernel
theorem dL_act_505 : decode cL_act 505 = .ok (.istore 18, 2) := by decide +kernel
theorem dL_act_507 : decode cL_act 507 = .ok (.iload_n 2, 1) := by decide +kernel
theorem dL_act_508 : decode cL_act 508 = .ok (.ifCond .le 36, 3) := by decide +kernel
theorem dL_act_511 : decode cL_act 511 = .ok (.iload 8, 2) := by decide +kernel
theorem dL_act_513 : decode cL_act 513 = .ok (.ifCond .lt 31, 3) := by decide +kernel
theorem dL_act_516 : decode cL_act 516 = .ok (.aload_n 0, 1) := by decide +kernel
theorem dL_act_517 : decode cL_act 517 = .ok (.iload_n 3, 1) := by decide +kernel
theorem dL_act_518 : decode cL_act 518 = .ok (.iload 4, 2) := by decide +kernel
theorem dL_act_520 : decode cL_act 520 = .ok (.iload 8, 2) := by decide +kernel
theorem dL_act_522 : decode cL_act 522 = .ok (.bipush 30, 2) := by decide +kernel
theorem dL_act_524 : decode cL_act 524 = .ok (.idiv, 1) := by decide +kernel
theorem dL_act_525 : decode cL_act 525 = .ok (.iconst 1, 1) := by decide +kernel
theorem dL_act_526 : decode cL_act 526 = .ok (.iadd, 1) := by decide +kernel
theorem dL_act_527 : decode cL_act 527 = .ok (.iload 8, 2) := by decide +kernel
theorem dL_act_529 : decode cL_act 529 = .ok (.bipush 30, 2) := by decide +kernel
theorem dL_act_531 : decode cL_act 531 = .ok (.irem, 1) := by decide +kernel
theorem dL_act_532 : decode cL_act 532 = .ok (.iconst 1, 1) := by decide +kernel
theorem dL_act_533 : decode cL_act 533 = .ok (.iadd, 1) := by decide +kernel
theorem dL_act_534 : decode cL_act 534 = .ok (.invokevirtual 226, 3) := by decide +kernel
theorem dL_act_537 : decode cL_act 537 = .ok (.ifCond .eq 7, 3) := by decide +kernel
theorem dL_act_540 : decode cL_act 540 = .ok (.iconst 1, 1) := by decide +kernel
theorem dL_act_541 : decode cL_act 541 = .ok (.goto 4, 3) := by decide +kernel
theorem dL_act_544 : decode cL_act 544 = .ok (.iconst 0, 1) := by decide +kernel
theorem dL_act_545 : decode cL_act 545 = .ok (.istore 19, 2) := by decide +kernel
theorem dL_act_547 : decode cL_act 547 = .ok (.aload_n 0, 1) := by decide +kernel
theorem dL_act_548 : decode cL_act 548 = .ok (.iload_n 3, 1) := by decide +kernel
theorem dL_act_549 : decode cL_act 549 = .ok (.iload 4, 2) := by decide +kernel
theorem dL_act_551 : decode cL_act 551 = .ok (.invokestatic 237, 3) := by decide +kernel
theorem dL_act_554 : decode cL_act 554 = .ok (.istore 20, 2) := by decide +kernel
theorem dL_act_556 : decode cL_act 556 = .ok (.iload 19, 2) := by decide +kernel
theorem dL_act_558 : decode cL_act 558 = .ok (.ifCond .ne 7, 3) := by decide +kernel
theorem dL_act_561 : decode cL_act 561 = .ok (.iload_n 2, 1) := by decide +kernel
theorem dL_act_562 : decode cL_act 562 = .ok (.ifCond .ne 37, 3) := by decide +kernel
theorem dL_act_565 : decode cL_act 565 = .ok (.iload 20, 2) := by decide +kernel
theorem dL_act_567 : decode cL_act 567 = .ok (.iload 19, 2) := by decide +kernel
theorem dL_act_569 : decode cL_act 569 = .ok (.ifCond .eq 8, 3) := by decide +kernel
theorem dL_act_572 : decode cL_act 572 = .ok (.bipush (-3), 2) := by decide +kernel
theorem dL_act_574 : decode cL_act 574 = .ok (.goto 5, 3) := by decide +kernel
theorem dL_act_577 : decode cL_act 577 = .ok (.bipush (-5), 2) := by decide +kernel
theorem dL_act_579 : decode cL_act 579 = .ok (.if_icmp .ne 16, 3) := by decide +kernel
theorem dL_act_582 : decode cL_act 582 = .ok (.aload_n 0, 1) := by decide +kernel
theorem dL_act_583 : decode cL_act 583 = .ok (.iconst 3, 1) := by decide +kernel
theorem dL_act_584 : decode cL_act 584 = .ok (.iconst 1, 1) := by decide +kernel
theorem dL_act_585 : decode cL_act 585 = .ok (.invokestatic 222, 3) := by decide +kernel
theorem dL_act_588 : decode cL_act 588 = .ok (.ifCond .eq 7, 3) := by decide +kernel
theorem dL_act_591 : decode cL_act 591 = .ok (.iconst 1, 1) := by decide +kernel
theorem dL_act_592 : decode cL_act 592 = .ok (.goto 29, 3) := by decide +kernel
theorem dL_act_595 : decode cL_act 595 = .ok (.iconst 0, 1) := by decide +kernel
theorem dL_act_596 : decode cL_act 596 = .ok (.goto 25, 3) := by decide +kernel
theorem dL_act_599 : decode cL_act 599 = .ok (.iload 20, 2) := by decide +kernel
theorem dL_act_601 : decode cL_act 601 = .ok (.iload 18, 2) := by decide +kernel
theorem dL_act_603 : decode cL_act 603 = .ok (.if_icmp .ne 17, 3) := by decide +kernel
theorem dL_act_606 : decode cL_act 606 = .ok (.aload_n 0, 1) := by decide +kernel
theorem dL_act_607 : decode cL_act 607 = .ok (.iload_n 3, 1) := by decide +kernel
theorem dL_act_608 : decode cL_act 608 = .ok (.invokevirtual 125, 3) := by decide +kernel
theorem dL_act_611 : decode cL_act 611 = .ok (.iload 4, 2) := by decide +kernel
theorem dL_act_613 : decode cL_act 613 = .ok (.if_icmp .ne 7, 3) := by decide +kernel
theorem dL_act_616 : decode cL_act 616 = .ok (.iconst 1, 1) := by decide +kernel
theorem dL_act_617 : decode cL_act 617 = .ok (.goto 4, 3) := by decide +kernel
theorem dL_act_620 : decode cL_act 620 = .ok (.iconst 0, 1) := by decide +kernel
theorem dL_act_621 : decode cL_act 621 = .ok (.ireturn, 1) := by decide +kernel
theorem dL_act_622 : decode cL_act 622 = .ok (.aload_n 0, 1) := by decide +kernel
theorem dL_act_623 : decode cL_act 623 = .ok (.invokevirtual 113, 3) := by decide +kernel
theorem dL_act_626 : decode cL_act 626 = .ok (.istore 21, 2) := by decide +kernel
theorem dL_act_628 : decode cL_act 628 = .ok (.iconst 1, 1) := by decide +kernel
theorem dL_act_629 : decode cL_act 629 = .ok (.aload_n 1, 1) := by decide +kernel
theorem dL_act_630 : decode cL_act 630 = .ok (.invokestatic 76, 3) := by decide +kernel
theorem dL_act_633 : decode cL_act 633 = .ok (.sipush 300, 3) := by decide +kernel
theorem dL_act_636 : decode cL_act 636 = .ok (.irem, 1) := by decide +kernel
theorem dL_act_637 : decode cL_act 637 = .ok (.iadd, 1) := by decide +kernel
theorem dL_act_638 : decode cL_act 638 = .ok (.istore 22, 2) := by decide +kernel
theorem dL_act_640 : decode cL_act 640 = .ok (.aload_n 0, 1) := by decide +kernel
theorem dL_act_641 : decode cL_act 641 = .ok (.iload 22, 2) := by decide +kernel
theorem dL_act_643 : decode cL_act 643 = .ok (.invokestatic 240, 3) := by decide +kernel
theorem dL_act_646 : decode cL_act 646 = .ok (.iload 21, 2) := by decide +kernel
theorem dL_act_648 : decode cL_act 648 = .ok (.iload 22, 2) := by decide +kernel
theorem dL_act_650 : decode cL_act 650 = .ok (.iadd, 1) := by decide +kernel
theorem dL_act_651 : decode cL_act 651 = .ok (.sipush 9999, 3) := by decide +kernel
theorem dL_act_654 : decode cL_act 654 = .ok (.if_icmp .le 8, 3) := by decide +kernel
theorem dL_act_657 : decode cL_act 657 = .ok (.bipush (-3), 2) := by decide +kernel
theorem dL_act_659 : decode cL_act 659 = .ok (.goto 8, 3) := by decide +kernel
theorem dL_act_662 : decode cL_act 662 = .ok (.iload 21, 2) := by decide +kernel
theorem dL_act_664 : decode cL_act 664 = .ok (.iload 22, 2) := by decide +kernel
theorem dL_act_666 : decode cL_act 666 = .ok (.iadd, 1) := by decide +kernel
theorem dL_act_667 : decode cL_act 667 = .ok (.if_icmp .ne 44, 3) := by decide +kernel
theorem dL_act_670 : decode cL_act 670 = .ok (.aload_n 0, 1) := by decide +kernel
theorem dL_act_671 : decode cL_act 671 = .ok (.invokevirtual 113, 3) := by decide +kernel
theorem dL_act_674 : decode cL_act 674 = .ok (.iload 21, 2) := by decide +kernel
theorem dL_act_676 : decode cL_act 676 = .ok (.iload 22, 2) := by decide +kernel
theorem dL_act_678 : decode cL_act 678 = .ok (.iadd, 1) := by decide +kernel
theorem dL_act_679 : decode cL_act 679 = .ok (.sipush 9999, 3) := by decide +kernel
theorem dL_act_682 : decode cL_act 682 = .ok (.if_icmp .le 8, 3) := by decide +kernel
theorem dL_act_685 : decode cL_act 685 = .ok (.iload 21, 2) := by decide +kernel
theorem dL_act_687 : decode cL_act 687 = .ok (.goto 8, 3) := by decide +kernel
theorem dL_act_690 : decode cL_act 690 = .ok (.iload 21, 2) := by decide +kernel
theorem dL_act_692 : decode cL_act 692 = .ok (.iload 22, 2) := by decide +kernel
theorem dL_act_694 : decode cL_act 694 = .ok (.iadd, 1) := by decide +kernel
theorem dL_act_695 : decode cL_act 695 = .ok (.if_icmp .ne 16, 3) := by decide +kernel
theorem dL_act_698 : decode cL_act 698 = .ok (.aload_n 0, 1) := by decide +kernel
theorem dL_act_699 : decode cL_act 699 = .ok (.iconst 4, 1) := by decide +kernel
theorem dL_act_700 : decode cL_act 700 = .ok (.iconst 1, 1) := by decide +kernel
theorem dL_act_701 : decode cL_act 701 = .ok (.invokestatic 222, 3) := by decide +kernel
theorem dL_act_704 : decode cL_act 704 = .ok (.ifCond .eq 7, 3) := by decide +kernel
theorem dL_act_707 : decode cL_act 707 = .ok (.iconst 1, 1) := by decide +kernel
theorem dL_act_708 : decode cL_act 708 = .ok (.goto 4, 3) := by decide +kernel
theorem dL_act_711 : decode cL_act 711 = .ok (.iconst 0, 1) := by decide +kernel
theorem dL_act_712 : decode cL_act 712 = .ok (.ireturn, 1) := by decide +kernel
theorem dL_act_713 : decode cL_act 713 = .ok (.aload_n 1, 1) := by decide +kernel
theorem dL_act_714 : decode cL_act 714 = .ok (.invokestatic 76, 3) := by decide +kernel
theorem dL_act_717 : decode cL_act 717 = .ok (.bipush 6, 2) := by decide +kernel
theorem dL_act_719 : decode cL_act 719 = .ok (.irem, 1) := by decide +kernel
theorem dL_act_720 : decode cL_act 720 = .ok (.istore 23, 2) := by decide +kernel
theorem dL_act_722 : decode cL_act 722 = .ok (.aload_n 0, 1) := by decide +kernel
theorem dL_act_723 : decode cL_act 723 = .ok (.iload 23, 2) := by decide +kernel
theorem dL_act_725 : decode cL_act 725 = .ok (.invokevirtual 116, 3) := by decide +kernel
theorem dL_act_728 : decode cL_act 728 = .ok (.istore 24, 2) := by decide +kernel
theorem dL_act_730 : decode cL_act 730 = .ok (.iconst 1, 1) := by decide +kernel
theorem dL_act_731 : decode cL_act 731 = .ok (.aload_n 1, 1) := by decide +kernel
theorem dL_act_732 : decode cL_act 732 = .ok (.invokestatic 76, 3) := by decide +kernel
theorem dL_act_735 : decode cL_act 735 = .ok (.bipush 20, 2) := by decide +kernel
theorem dL_act_737 : decode cL_act 737 = .ok (.irem, 1) := by decide +kernel
theorem dL_act_738 : decode cL_act 738 = .ok (.iadd, 1) := by decide +kernel
theorem dL_act_739 : decode cL_act 739 = .ok (.istore 25, 2) := by decide +kernel
theorem dL_act_741 : decode cL_act 741 = .ok (.iload 24, 2) := by decide +kernel
theorem dL_act_743 : decode cL_act 743 = .ok (.iload 25, 2) := by decide +kernel
theorem dL_act_745 : decode cL_act 745 = .ok (.iadd, 1) := by decide +kernel
theorem dL_act_746 : decode cL_act 746 = .ok (.bipush 99, 2) := by decide +kernel
theorem dL_act_748 : decode cL_act 748 = .ok (.if_icmp .gt 7, 3) := by decide +kernel
theorem dL_act_751 : decode cL_act 751 = .ok (.iconst 1, 1) := by decide +kernel
theorem dL_act_752 : decode cL_act 752 = .ok (.goto 4, 3) := by decide +kernel
theorem dL_act_755 : decode cL_act 755 = .ok (.iconst 0, 1) := by decide +kernel
theorem dL_act_756 : decode cL_act 756 = .ok (.istore 26, 2) := by decide +kernel
theorem dL_act_758 : decode cL_act 758 = .ok (.aload_n 0, 1) := by decide +kernel
theorem dL_act_759 : decode cL_act 759 = .ok (.iload 23, 2) := by decide +kernel
theorem dL_act_761 : decode cL_act 761 = .ok (.iload 25, 2) := by decide +kernel
theorem dL_act_763 : decode cL_act 763 = .ok (.invokestatic 222, 3) := by decide +kernel
theorem dL_act_766 : decode cL_act 766 = .ok (.iload 26, 2) := by decide +kernel
theorem dL_act_768 : decode cL_act 768 = .ok (.ifCond .eq 11, 3) := by decide +kernel
theorem dL_act_771 : decode cL_act 771 = .ok (.iload 24, 2) := by decide +kernel
theorem dL_act_773 : decode cL_act 773 = .ok (.iload 25, 2) := by decide +kernel
theorem dL_act_775 : decode cL_act 775 = .ok (.iadd, 1) := by decide +kernel
theorem dL_act_776 : decode cL_act 776 = .ok (.goto 5, 3) := by decide +kernel
theorem dL_act_779 : decode cL_act 779 = .ok (.bipush (-3), 2) := by decide +kernel
theorem dL_act_781 : decode cL_act 781 = .ok (.if_icmp .ne 39, 3) := by decide +kernel
theorem dL_act_784 : decode cL_act 784 = .ok (.aload_n 0, 1) := by decide +kernel
theorem dL_act_785 : decode cL_act 785 = .ok (.iload 23, 2) := by decide +kernel
theorem dL_act_787 : decode cL_act 787 = .ok (.invokevirtual 116, 3) := by decide +kernel
theorem dL_act_790 : decode cL_act 790 = .ok (.iload 26, 2) := by decide +kernel
theorem dL_act_792 : decode cL_act 792 = .ok (.ifCond .eq 11, 3) := by decide +kernel
theorem dL_act_795 : decode cL_act 795 = .ok (.iload 24, 2) := by decide +kernel
theorem dL_act_797 : decode cL_act 797 = .ok (.iload 25, 2) := by decide +kernel
theorem dL_act_799 : decode cL_act 799 = .ok (.iadd, 1) := by decide +kernel
theorem dL_act_800 : decode cL_act 800 = .ok (.goto 5, 3) := by decide +kernel
theorem dL_act_803 : decode cL_act 803 = .ok (.iload 24, 2) := by decide +kernel
theorem dL_act_805 : decode cL_act 805 = .ok (.if_icmp .ne 15, 3) := by decide +kernel
theorem dL_act_808 : decode cL_act 808 = .ok (.aload_n 0, 1) := by decide +kernel
theorem dL_act_809 : decode cL_act 809 = .ok (.iconst 1, 1) := by decide +kernel
theorem dL_act_810 : decode cL_act 810 = .ok (.invokestatic 240, 3) := by decide +kernel
theorem dL_act_813 : decode cL_act 813 = .ok (.ifCond .eq 7, 3) := by decide +kernel
theorem dL_act_816 : decode cL_act 816 = .ok (.iconst 1, 1) := by decide +kernel
theorem dL_act_817 : decode cL_act 817 = .ok (.goto 4, 3) := by decide +kernel
theorem dL_act_820 : decode cL_act 820 = .ok (.iconst 0, 1) := by decide +kernel
theorem dL_act_821 : decode cL_act 821 = .ok (.ireturn, 1) := by decide +kernel
theorem dL_law_0 : decode cL_law 0 = .ok (.new 19, 3) := by decide +kernel
theorem dL_law_3 : decode cL_law 3 = .ok (.dup, 1) := by decide +kernel
theorem dL_law_4 : decode cL_law 4 = .ok (.invokespecial 243, 3) := by decide +kernel
theorem dL_law_7 : decode cL_law 7 = .ok (.astore_n 1, 1) := by decide +kernel
theorem dL_law_8 : decode cL_law 8 = .ok (.iconst 1, 1) := by decide +kernel
theorem dL_law_9 : decode cL_law 9 = .ok (.newarray .int, 2) := by decide +kernel
theorem dL_law_11 : decode cL_law 11 = .ok (.dup, 1) := by decide +kernel
theorem dL_law_12 : decode cL_law 12 = .ok (.iconst 0, 1) := by decide +kernel
theorem dL_law_13 : decode cL_law 13 = .ok (.aload_n 0, 1) := by decide +kernel
theorem dL_law_14 : decode cL_law 14 = .ok (.arraylength, 1) := by decide +kernel
theorem dL_law_15 : decode cL_law 15 = .ok (.ifCond .ne 9, 3) := by decide +kernel
theorem dL_law_18 : decode cL_law 18 = .ok (.sipush 1080, 3) := by decide +kernel
theorem dL_law_21 : decode cL_law 21 = .ok (.goto 6, 3) := by decide +kernel
theorem dL_law_24 : decode cL_law 24 = .ok (.aload_n 0, 1) := by decide +kernel
theorem dL_law_25 : decode cL_law 25 = .ok (.iconst 0, 1) := by decide +kernel
theorem dL_law_26 : decode cL_law 26 = .ok (.iaload, 1) := by decide +kernel
theorem dL_law_27 : decode cL_law 27 = .ok (.iastore, 1) := by decide +kernel
theorem dL_law_28 : decode cL_law 28 = .ok (.astore_n 2, 1) := by decide +kernel
theorem dL_law_29 : decode cL_law 29 = .ok (.iconst 1, 1) := by decide +kernel
theorem dL_law_30 : decode cL_law 30 = .ok (.istore_n 3, 1) := by decide +kernel
theorem dL_law_31 : decode cL_law 31 = .ok (.iconst 0, 1) := by decide +kernel
theorem dL_law_32 : decode cL_law 32 = .ok (.istore 4, 2) := by decide +kernel
theorem dL_law_34 : decode cL_law 34 = .ok (.iload 4, 2) := by decide +kernel
theorem dL_law_36 : decode cL_law 36 = .ok (.iconst 2, 1) := by decide +kernel
theorem dL_law_37 : decode cL_law 37 = .ok (.if_icmp .ge 355, 3) := by decide +kernel
theorem dL_law_40 : decode cL_law 40 = .ok (.iload_n 3, 1) := by decide +kernel
theorem dL_law_41 : decode cL_law 41 = .ok (.ifCond .eq 351, 3) := by decide +kernel
theorem dL_law_44 : decode cL_law 44 = .ok (.aload_n 2, 1) := by decide +kernel
theorem dL_law_45 : decode cL_law 45 = .ok (.iconst 0, 1) := by decide +kernel
theorem dL_law_46 : decode cL_law 46 = .ok (.dup2, 1) := by decide +kernel
theorem dL_law_47 : decode cL_law 47 = .ok (.iaload, 1) := by decide +kernel
theorem dL_law_48 : decode cL_law 48 = .ok (.iload 4, 2) := by decide +kernel
theorem dL_law_50 : decode cL_law 50 = .ok (.aload_n 0, 1) := by decide +kernel
theorem dL_law_51 : decode cL_law 51 = .ok (.arraylength, 1) := by decide +kernel
theorem dL_law_52 : decode cL_law 52 = .ok (.if_icmp .ge 10, 3) := by decide +kernel
theorem dL_law_55 : decode cL_law 55 = .ok (.aload_n 0, 1) := by decide +kernel
theorem dL_law_56 : decode cL_law 56 = .ok (.iload 4, 2) := by decide +kernel
theorem dL_law_58 : decode cL_law 58 = .ok (.iaload, 1) := by decide +kernel
theorem dL_law_59 : decode cL_law 59 = .ok (.goto 4, 3) := by decide +kernel
theorem dL_law_62 : decode cL_law 62 = .ok (.iconst 0, 1) := by decide +kernel
theorem dL_law_63 : decode cL_law 63 = .ok (.ixor, 1) := by decide +kernel
theorem dL_law_64 : decode cL_law 64 = .ok (.iastore, 1) := by decide +kernel
theorem dL_law_65 : decode cL_law 65 = .ok (.aload_n 2, 1) := by decide +kernel
theorem dL_law_66 : decode cL_law 66 = .ok (.invokestatic 76, 3) := by decide +kernel
theorem dL_law_69 : decode cL_law 69 = .ok (.bipush 9, 2) := by decide +kernel
theorem dL_law_71 : decode cL_law 71 = .ok (.irem, 1) := by decide +kernel
theorem dL_law_72 : decode cL_law 72 = .ok (.istore 5, 2) := by decide +kernel
theorem dL_law_74 : decode cL_law 74 = .ok (.aload_n 1, 1) := by decide +kernel
theorem dL_law_75 : decode cL_law 75 = .ok (.iconst 1, 1) := by decide +kernel
theorem dL_law_76 : decode cL_law 76 = .ok (.aload_n 2, 1) := by decide +kernel
theorem dL_law_77 : decode cL_law 77 = .ok (.invokestatic 76, 3) := by decide +kernel
theorem dL_law_80 : decode cL_law 80 = .ok (.iconst 4, 1) := by decide +kernel
theorem dL_law_81 : decode cL_law 81 = .ok (.irem, 1) := by decide +kernel
theorem dL_law_82 : decode cL_law 82 = .ok (.iadd, 1) := by decide +kernel
theorem dL_law_83 : decode cL_law 83 = .ok (.iload 5, 2) := by decide +kernel
theorem dL_law_85 : decode cL_law 85 = .ok (.aload_n 2, 1) := by decide +kernel
theorem dL_law_86 : decode cL_law 86 = .ok (.invokestatic 244, 3) := by decide +kernel
theorem dL_law_89 : decode cL_law 89 = .ok (.invokestatic 248, 3) := by decide +kernel
theorem dL_law_92 : decode cL_law 92 = .ok (.iload 5, 2) := by decide +kernel
theorem dL_law_94 : decode cL_law 94 = .ok (.if_icmp .ne 16, 3) := by decide +kernel
theorem dL_law_97 : decode cL_law 97 = .ok (.aload_n 1, 1) := by decide +kernel
theorem dL_law_98 : decode cL_law 98 = .ok (.iload 4, 2) := by decide +kernel
theorem dL_law_100 : decode cL_law 100 = .ok (.invokevirtual 250, 3) := by decide +kernel
theorem dL_law_103 : decode cL_law 103 = .ok (.ifCond .ne 7, 3) := by decide +kernel
theorem dL_law_106 : decode cL_law 106 = .ok (.iconst 1, 1) := by decide +kernel
theorem dL_law_107 : decode cL_law 107 = .ok (.goto 4, 3) := by decide +kernel
theorem dL_law_110 : decode cL_law 110 = .ok (.iconst 0, 1) := by decide +kernel
theorem dL_law_111 : decode cL_law 111 = .ok (.istore_n 3, 1) := by decide +kernel
theorem dL_law_112 : decode cL_law 112 = .ok (.aload_n 1, 1) := by decide +kernel
theorem dL_law_113 : decode cL_law 113 = .ok (.invokestatic 253, 3) := by decide +kernel
theorem dL_law_116 : decode cL_law 116 = .ok (.lstore 6, 2) := by decide +kernel
theorem dL_law_118 : decode cL_law 118 = .ok (.iconst 0, 1) := by decide +kernel
theorem dL_law_119 : decode cL_law 119 = .ok (.istore 8, 2) := by decide +kernel
theorem dL_law_121 : decode cL_law 121 = .ok (.iload 8, 2) := by decide +kernel
theorem dL_law_123 : decode cL_law 123 = .ok (.bipush 11, 2) := by decide +kernel
theorem dL_law_125 : decode cL_law 125 = .ok (.if_icmp .ge 172, 3) := by decide +kernel
theorem dL_law_128 : decode cL_law 128 = .ok (.iload_n 3, 1) := by decide +kernel
theorem dL_law_129 : decode cL_law 129 = .ok (.ifCond .eq 168, 3) := by decide +kernel
theorem dL_law_132 : decode cL_law 132 = .ok (.aload_n 1, 1) := by decide +kernel
theorem dL_law_133 : decode cL_law 133 = .ok (.invokestatic 253, 3) := by decide +kernel
theorem dL_law_136 : decode cL_law 136 = .ok (.lstore 9, 2) := by decide +kernel
theorem dL_law_138 : decode cL_law 138 = .ok (.aload_n 1, 1) := by decide +kernel
theorem dL_law_139 : decode cL_law 139 = .ok (.sipush 721, 3) := by decide +kernel
theorem dL_law_142 : decode cL_law 142 = .ok (.invokestatic 210, 3) := by decide +kernel
theorem dL_law_145 : decode cL_law 145 = .ok (.bipush (-2), 2) := by decide +kernel
theorem dL_law_147 : decode cL_law 147 = .ok (.if_icmp .ne 84, 3) := by decide +kernel
theorem dL_law_150 : decode cL_law 150 = .ok (.aload_n 1, 1) := by decide +kernel
theorem dL_law_151 : decode cL_law 151 = .ok (.bipush 10, 2) := by decide +kernel
theorem dL_law_153 : decode cL_law 153 = .ok (.invokestatic 219, 3) := by decide +kernel
theorem dL_law_156 : decode cL_law 156 = .ok (.bipush (-5), 2) := by decide +kernel
theorem dL_law_158 : decode cL_law 158 = .ok (.if_icmp .ne 73, 3) := by decide +kernel
theorem dL_law_161 : decode cL_law 161 = .ok (.aload_n 1, 1) := by decide +kernel
theorem dL_law_162 : decode cL_law 162 = .ok (.bipush 10, 2) := by decide +kernel
theorem dL_law_164 : decode cL_law 164 = .ok (.iconst 1, 1) := by decide +kernel
theorem dL_law_165 : decode cL_law 165 = .ok (.iconst 1, 1) := by decide +kernel
theorem dL_law_166 : decode cL_law 166 = .ok (.invokestatic 230, 3) := by decide +kernel
theorem dL_law_169 : decode cL_law 169 = .ok (.bipush (-5), 2) := by decide +kernel
theorem dL_law_171 : decode cL_law 171 = .ok (.if_icmp .ne 60, 3) := by decide +kernel
theorem dL_law_174 : decode cL_law 174 = .ok (.aload_n 1, 1) := by decide +kernel
theorem dL_law_175 : decode cL_law 175 = .ok (.iconst (-1), 1) := by decide +kernel
theorem dL_law_176 : decode cL_law 176 = .ok (.invokestatic 234, 3) := by decide +kernel
theorem dL_law_179 : decode cL_law 179 = .ok (.bipush (-5), 2) := by decide +kernel
theorem dL_law_181 : decode cL_law 181 = .ok (.if_icmp .ne 50, 3) := by decide +kernel
theorem dL_law_184 : decode cL_law 184 = .ok (.aload_n 1, 1) := by decide +kernel
theorem dL_law_185 : decode cL_law 185 = .ok (.iconst 0, 1) := by decide +kernel
theorem dL_law_186 : decode cL_law 186 = .ok (.iconst 4, 1) := by decide +kernel
theorem dL_law_187 : decode cL_law 187 = .ok (.invokestatic 237, 3) := by decide +kernel
theorem dL_law_190 : decode cL_law 190 = .ok (.bipush (-5), 2) := by decide +kernel
theorem dL_law_192 : decode cL_law 192 = .ok (.if_icmp .ne 39, 3) := by decide +kernel
theorem dL_law_195 : decode cL_law 195 = .ok (.aload_n 1, 1) := by decide +kernel
theorem dL_law_196 : decode cL_law 196 = .ok (.iconst 0, 1) := by decide +kernel
theorem dL_law_197 : decode cL_law 197 = .ok (.invokestatic 240, 3) := by decide +kernel
theorem dL_law_200 : decode cL_law 200 = .ok (.bipush (-2), 2) := by decide +kernel
theorem dL_law_202 : decode cL_law 202 = .ok (.if_icmp .ne 29, 3) := by decide +kernel
theorem dL_law_205 : decode cL_law 205 = .ok (.aload_n 1, 1) := by decide +kernel
theorem dL_law_206 : decode cL_law 206 = .ok (.bipush 6, 2) := by decide +kernel
theorem dL_law_208 : decode cL_law 208 = .ok (.iconst 1, 1) := by decide +kernel
theorem dL_law_209 : decode cL_law 209 = .ok (.invokestatic 222, 3) := by decide +kernel
theorem dL_law_212 : decode cL_law 212 = .ok (.bipush (-2), 2) := by decide +kernel
theorem dL_law_214 : decode cL_law 214 = .ok (.if_icmp .ne 17, 3) := by decide +kernel
theorem dL_law_217 : decode cL_law 217 = .ok (.aload_n 1, 1) := by decide +kernel
theorem dL_law_218 : decode cL_law 218 = .ok (.invokestatic 253, 3) := by decide +kernel
theorem dL_law_221 : decode cL_law 221 = .ok (.lload 9, 2) := by decide +kernel
theorem dL_law_223 : decode cL_law 223 = .ok (.lcmp, 1) := by decide +kernel
theorem dL_law_224 : decode cL_law 224 = .ok (.ifCond .ne 7, 3) := by decide +kernel
theorem dL_law_227 : decode cL_law 227 = .ok (.iconst 1, 1) := by decide +kernel
theorem dL_law_228 : decode cL_law 228 = .ok (.goto 4, 3) := by decide +kernel
theorem dL_law_231 : decode cL_law 231 = .ok (.iconst 0, 1) := by decide +kernel
theorem dL_law_232 : decode cL_law 232 = .ok (.istore_n 3, 1) := by decide +kernel
theorem dL_law_233 : decode cL_law 233 = .ok (.iload_n 3, 1) := by decide +kernel
theorem dL_law_234 : decode cL_law 234 = .ok (.ifCond .eq 29, 3) := by decide +kernel
theorem dL_law_237 : decode cL_law 237 = .ok (.aload_n 1, 1) := by decide +kernel
theorem dL_law_238 : decode cL_law 238 = .ok (.aload_n 2, 1) := by decide +kernel
theorem dL_law_239 : decode cL_law 239 = .ok (.invokestatic 257, 3) := by decide +kernel
theorem dL_law_242 : decode cL_law 242 = .ok (.ifCond .eq 21, 3) := by decide +kernel
theorem dL_law_245 : decode cL_law 245 = .ok (.aload_n 1, 1) := by decide +kernel
theorem dL_law_246 : decode cL_law 246 = .ok (.invokestatic 261, 3) := by decide +kernel
theorem dL_law_249 : decode cL_law 249 = .ok (.ifCond .eq 14, 3) := by decide +kernel
theorem dL_law_252 : decode cL_law 252 = .ok (.aload_n 1, 1) := by decide +kernel
theorem dL_law_253 : decode cL_law 253 = .ok (.invokestatic 265, 3) := by decide +kernel
theorem dL_law_256 : decode cL_law 256 = .ok (.ifCond .eq 7, 3) := by decide +kernel
theorem dL_law_259 : decode cL_law 259 = .ok (.iconst 1, 1) := by decide +kernel
theorem dL_law_260 : decode cL_law 260 = .ok (.goto 4, 3) := by decide +kernel
theorem dL_law_263 : decode cL_law 263 = .ok (.iconst 0, 1) := by decide +kernel
theorem dL_law_264 : decode cL_law 264 = .ok (.istore_n 3, 1) := by decide +kernel
theorem dL_law_265 : decode cL_law 265 = .ok (.iload_n 3, 1) := by decide +kernel
theorem dL_law_266 : decode cL_law 266 = .ok (.ifCond .eq 25, 3) := by decide +kernel
theorem dL_law_269 : decode cL_law 269 = .ok (.aload_n 2, 1) := by decide +kernel
theorem dL_law_270 : decode cL_law 270 = .ok (.invokestatic 76, 3) := by decide +kernel
theorem dL_law_273 : decode cL_law 273 = .ok (.iconst 4, 1) := by decide +kernel
theorem dL_law_274 : decode cL_law 274 = .ok (.irem, 1) := by decide +kernel
theorem dL_law_275 : decode cL_law 275 = .ok (.ifCond .ne 16, 3) := by decide +kernel
theorem dL_law_278 : decode cL_law 278 = .ok (.aload_n 1, 1) := by decide +kernel
theorem dL_law_279 : decode cL_law 279 = .ok (.invokestatic 268, 3) := by decide +kernel
theorem dL_law_282 : decode cL_law 282 = .ok (.ifCond .lt 7, 3) := by decide +kernel
theorem dL_law_285 : decode cL_law 285 = .ok (.iconst 1, 1) := by decide +kernel
theorem dL_law_286 : decode cL_law 286 = .ok (.goto 4, 3) := by decide +kernel
theorem dL_law_289 : decode cL_law 289 = .ok (.iconst 0, 1) := by decide +kernel
theorem dL_law_290 : decode cL_law 290 = .ok (.istore_n 3, 1) := by decide +kernel
theorem dL_law_291 : decode cL_law 291 = .ok (.iinc 8 1, 3) := by decide +kernel
theorem dL_law_294 : decode cL_law 294 = .ok (.goto (-173), 3) := by decide +kernel
theorem dL_law_297 : decode cL_law 297 = .ok (.iload_n 3, 1) := by decide +kernel
theorem dL_law_298 : decode cL_law 298 = .ok (.ifCond .eq 88, 3) := by decide +kernel
theorem dL_law_301 : decode cL_law 301 = .ok (.aload_n 2, 1) := by decide +kernel
theorem dL_law_302 : decode cL_law 302 = .ok (.invokestatic 76, 3) := by decide +kernel
theorem dL_law_305 : decode cL_law 305 = .ok (.iconst 2, 1) := by decide +kernel
theorem dL_law_306 : decode cL_law 306 = .ok (.irem, 1) := by decide +kernel
theorem dL_law_307 : decode cL_law 307 = .ok (.ifCond .ne 79, 3) := by decide +kernel
theorem dL_law_310 : decode cL_law 310 = .ok (.aload_n 1, 1) := by decide +kernel
theorem dL_law_311 : decode cL_law 311 = .ok (.iload 4, 2) := by decide +kernel
theorem dL_law_313 : decode cL_law 313 = .ok (.invokevirtual 272, 3) := by decide +kernel
theorem dL_law_316 : decode cL_law 316 = .ok (.ifCond .ne 17, 3) := by decide +kernel
theorem dL_law_319 : decode cL_law 319 = .ok (.aload_n 1, 1) := by decide +kernel
theorem dL_law_320 : decode cL_law 320 = .ok (.invokestatic 253, 3) := by decide +kernel
theorem dL_law_323 : decode cL_law 323 = .ok (.lload 6, 2) := by decide +kernel
theorem dL_law_325 : decode cL_law 325 = .ok (.lcmp, 1) := by decide +kernel
theorem dL_law_326 : decode cL_law 326 = .ok (.ifCond .ne 7, 3) := by decide +kernel
theorem dL_law_329 : decode cL_law 329 = .ok (.iconst 1, 1) := by decide +kernel
theorem dL_law_330 : decode cL_law 330 = .ok (.goto 4, 3) := by decide +kernel
theorem dL_law_333 : decode cL_law 333 = .ok (.iconst 0, 1) := by decide +kernel
theorem dL_law_334 : decode cL_law 334 = .ok (.istore_n 3, 1) := by decide +kernel
theorem dL_law_335 : decode cL_law 335 = .ok (.aload_n 1, 1) := by decide +kernel
theorem dL_law_336 : decode cL_law 336 = .ok (.invokestatic 253, 3) := by decide +kernel
theorem dL_law_339 : decode cL_law 339 = .ok (.lstore 8, 2) := by decide +kernel
theorem dL_law_341 : decode cL_law 341 = .ok (.iload_n 3, 1) := by decide +kernel
theorem dL_law_342 : decode cL_law 342 = .ok (.ifCond .eq 42, 3) := by decide +kernel
theorem dL_law_345 : decode cL_law 345 = .ok (.aload_n 1, 1) := by decide +kernel
theorem dL_law_346 : decode cL_law 346 = .ok (.iconst 1, 1) := by decide +kernel
theorem dL_law_347 : decode cL_law 347 = .ok (.invokestatic 240, 3) := by decide +kernel
theorem dL_law_350 : decode cL_law 350 = .ok (.ifCond .le 34, 3) := by decide +kernel
theorem dL_law_353 : decode cL_law 353 = .ok (.aload_n 1, 1) := by decide +kernel
theorem dL_law_354 : decode cL_law 354 = .ok (.invokestatic 253, 3) := by decide +kernel
theorem dL_law_357 : decode cL_law 357 = .ok (.lload 8, 2) := by decide +kernel
theorem dL_law_359 : decode cL_law 359 = .ok (.lcmp, 1) := by decide +kernel
theorem dL_law_360 : decode cL_law 360 = .ok (.ifCond .eq 24, 3) := by decide +kernel
theorem dL_law_363 : decode cL_law 363 = .ok (.aload_n 1, 1) := by decide +kernel
theorem dL_law_364 : decode cL_law 364 = .ok (.invokestatic 268, 3) := by decide +kernel
theorem dL_law_367 : decode cL_law 367 = .ok (.ifCond .lt 17, 3) := by decide +kernel
theorem dL_law_370 : decode cL_law 370 = .ok (.aload_n 1, 1) := by decide +kernel
theorem dL_law_371 : decode cL_law 371 = .ok (.invokestatic 253, 3) := by decide +kernel
theorem dL_law_374 : decode cL_law 374 = .ok (.lload 8, 2) := by decide +kernel
theorem dL_law_376 : decode cL_law 376 = .ok (.lcmp, 1) := by decide +kernel
theorem dL_law_377 : decode cL_law 377 = .ok (.ifCond .ne 7, 3) := by decide +kernel
theorem dL_law_380 : decode cL_law 380 = .ok (.iconst 1, 1) := by decide +kernel
theorem dL_law_381 : decode cL_law 381 = .ok (.goto 4, 3) := by decide +kernel
theorem dL_law_384 : decode cL_law 384 = .ok (.iconst 0, 1) := by decide +kernel
theorem dL_law_385 : decode cL_law 385 = .ok (.istore_n 3, 1) := by decide +kernel
theorem dL_law_386 : decode cL_law 386 = .ok (.iinc 4 1, 3) := by decide +kernel
theorem dL_law_389 : decode cL_law 389 = .ok (.goto (-355), 3) := by decide +kernel
theorem dL_law_392 : decode cL_law 392 = .ok (.iload_n 3, 1) := by decide +kernel
theorem dL_law_393 : decode cL_law 393 = .ok (.ireturn, 1) := by decide +kernel
