/-! BYTECODE of the law's own methods -/
theorem dL_append_0 : decode cL_append 0 = .ok (.aload 6, 2) := by decide +kernel
theorem dL_append_2 : decode cL_append 2 = .ok (.iconst 0, 1) := by decide +kernel
theorem dL_append_3 : decode cL_append 3 = .ok (.aload_n 0, 1) := by decide +kernel
theorem dL_append_4 : decode cL_append 4 = .ok (.iload_n 1, 1) := by decide +kernel
theorem dL_append_5 : decode cL_append 5 = .ok (.iload_n 2, 1) := by decide +kernel
theorem dL_append_6 : decode cL_append 6 = .ok (.iload_n 3, 1) := by decide +kernel
theorem dL_append_7 : decode cL_append 7 = .ok (.iload 4, 2) := by decide +kernel
theorem dL_append_9 : decode cL_append 9 = .ok (.iload 5, 2) := by decide +kernel
theorem dL_append_11 : decode cL_append 11 = .ok (.invokevirtual 7, 3) := by decide +kernel
theorem dL_append_14 : decode cL_append 14 = .ok (.i2l, 1) := by decide +kernel
theorem dL_append_15 : decode cL_append 15 = .ok (.lastore, 1) := by decide +kernel
theorem dL_append_16 : decode cL_append 16 = .ok (.goto 7, 3) := by decide +kernel
theorem dL_append_19 : decode cL_append 19 = .ok (.astore 7, 2) := by decide +kernel
theorem dL_append_21 : decode cL_append 21 = .ok (.iconst 1, 1) := by decide +kernel
theorem dL_append_22 : decode cL_append 22 = .ok (.ireturn, 1) := by decide +kernel
theorem dL_append_23 : decode cL_append 23 = .ok (.iconst 0, 1) := by decide +kernel
theorem dL_append_24 : decode cL_append 24 = .ok (.ireturn, 1) := by decide +kernel
theorem dL_load_0 : decode cL_load 0 = .ok (.aload_n 2, 1) := by decide +kernel
theorem dL_load_1 : decode cL_load 1 = .ok (.iconst 0, 1) := by decide +kernel
theorem dL_load_2 : decode cL_load 2 = .ok (.aload_n 0, 1) := by decide +kernel
theorem dL_load_3 : decode cL_load 3 = .ok (.iload_n 1, 1) := by decide +kernel
theorem dL_load_4 : decode cL_load 4 = .ok (.invokevirtual 15, 3) := by decide +kernel
theorem dL_load_7 : decode cL_load 7 = .ok (.i2l, 1) := by decide +kernel
theorem dL_load_8 : decode cL_load 8 = .ok (.lastore, 1) := by decide +kernel
theorem dL_load_9 : decode cL_load 9 = .ok (.goto 9, 3) := by decide +kernel
theorem dL_load_12 : decode cL_load 12 = .ok (.astore_n 3, 1) := by decide +kernel
theorem dL_load_13 : decode cL_load 13 = .ok (.iconst 1, 1) := by decide +kernel
theorem dL_load_14 : decode cL_load 14 = .ok (.ireturn, 1) := by decide +kernel
theorem dL_load_15 : decode cL_load 15 = .ok (.astore_n 3, 1) := by decide +kernel
theorem dL_load_16 : decode cL_load 16 = .ok (.iconst 2, 1) := by decide +kernel
theorem dL_load_17 : decode cL_load 17 = .ok (.ireturn, 1) := by decide +kernel
theorem dL_load_18 : decode cL_load 18 = .ok (.iconst 0, 1) := by decide +kernel
theorem dL_load_19 : decode cL_load 19 = .ok (.ireturn, 1) := by decide +kernel
theorem dL_cakes_0 : decode cL_cakes 0 = .ok (.aload_n 2, 1) := by decide +kernel
theorem dL_cakes_1 : decode cL_cakes 1 = .ok (.iconst 0, 1) := by decide +kernel
theorem dL_cakes_2 : decode cL_cakes 2 = .ok (.aload_n 0, 1) := by decide +kernel
theorem dL_cakes_3 : decode cL_cakes 3 = .ok (.iload_n 1, 1) := by decide +kernel
theorem dL_cakes_4 : decode cL_cakes 4 = .ok (.invokevirtual 23, 3) := by decide +kernel
theorem dL_cakes_7 : decode cL_cakes 7 = .ok (.i2l, 1) := by decide +kernel
theorem dL_cakes_8 : decode cL_cakes 8 = .ok (.lastore, 1) := by decide +kernel
theorem dL_cakes_9 : decode cL_cakes 9 = .ok (.goto 6, 3) := by decide +kernel
theorem dL_cakes_12 : decode cL_cakes 12 = .ok (.astore_n 3, 1) := by decide +kernel
theorem dL_cakes_13 : decode cL_cakes 13 = .ok (.iconst 1, 1) := by decide +kernel
theorem dL_cakes_14 : decode cL_cakes 14 = .ok (.ireturn, 1) := by decide +kernel
theorem dL_cakes_15 : decode cL_cakes 15 = .ok (.iconst 0, 1) := by decide +kernel
theorem dL_cakes_16 : decode cL_cakes 16 = .ok (.ireturn, 1) := by decide +kernel
theorem dL_seatsOf_0 : decode cL_seatsOf 0 = .ok (.aload_n 2, 1) := by decide +kernel
theorem dL_seatsOf_1 : decode cL_seatsOf 1 = .ok (.iconst 0, 1) := by decide +kernel
theorem dL_seatsOf_2 : decode cL_seatsOf 2 = .ok (.aload_n 0, 1) := by decide +kernel
theorem dL_seatsOf_3 : decode cL_seatsOf 3 = .ok (.iload_n 1, 1) := by decide +kernel
theorem dL_seatsOf_4 : decode cL_seatsOf 4 = .ok (.invokevirtual 26, 3) := by decide +kernel
theorem dL_seatsOf_7 : decode cL_seatsOf 7 = .ok (.i2l, 1) := by decide +kernel
theorem dL_seatsOf_8 : decode cL_seatsOf 8 = .ok (.lastore, 1) := by decide +kernel
theorem dL_seatsOf_9 : decode cL_seatsOf 9 = .ok (.goto 6, 3) := by decide +kernel
theorem dL_seatsOf_12 : decode cL_seatsOf 12 = .ok (.astore_n 3, 1) := by decide +kernel
theorem dL_seatsOf_13 : decode cL_seatsOf 13 = .ok (.iconst 1, 1) := by decide +kernel
theorem dL_seatsOf_14 : decode cL_seatsOf 14 = .ok (.ireturn, 1) := by decide +kernel
theorem dL_seatsOf_15 : decode cL_seatsOf 15 = .ok (.iconst 0, 1) := by decide +kernel
theorem dL_seatsOf_16 : decode cL_seatsOf 16 = .ok (.ireturn, 1) := by decide +kernel
theorem dL_childrenOf_0 : decode cL_childrenOf 0 = .ok (.aload_n 2, 1) := by decide +kernel
theorem dL_childrenOf_1 : decode cL_childrenOf 1 = .ok (.iconst 0, 1) := by decide +kernel
theorem dL_childrenOf_2 : decode cL_childrenOf 2 = .ok (.aload_n 0, 1) := by decide +kernel
theorem dL_childrenOf_3 : decode cL_childrenOf 3 = .ok (.iload_n 1, 1) := by decide +kernel
theorem dL_childrenOf_4 : decode cL_childrenOf 4 = .ok (.invokevirtual 29, 3) := by decide +kernel
theorem dL_childrenOf_7 : decode cL_childrenOf 7 = .ok (.i2l, 1) := by decide +kernel
theorem dL_childrenOf_8 : decode cL_childrenOf 8 = .ok (.lastore, 1) := by decide +kernel
theorem dL_childrenOf_9 : decode cL_childrenOf 9 = .ok (.goto 6, 3) := by decide +kernel
theorem dL_childrenOf_12 : decode cL_childrenOf 12 = .ok (.astore_n 3, 1) := by decide +kernel
theorem dL_childrenOf_13 : decode cL_childrenOf 13 = .ok (.iconst 1, 1) := by decide +kernel
theorem dL_childrenOf_14 : decode cL_childrenOf 14 = .ok (.ireturn, 1) := by decide +kernel
theorem dL_childrenOf_15 : decode cL_childrenOf 15 = .ok (.iconst 0, 1) := by decide +kernel
theorem dL_childrenOf_16 : decode cL_childrenOf 16 = .ok (.ireturn, 1) := by decide +kernel
theorem dL_partyIn_0 : decode cL_partyIn 0 = .ok (.aload 4, 2) := by decide +kernel
theorem dL_partyIn_2 : decode cL_partyIn 2 = .ok (.iconst 0, 1) := by decide +kernel
theorem dL_partyIn_3 : decode cL_partyIn 3 = .ok (.aload_n 0, 1) := by decide +kernel
theorem dL_partyIn_4 : decode cL_partyIn 4 = .ok (.iload_n 1, 1) := by decide +kernel
theorem dL_partyIn_5 : decode cL_partyIn 5 = .ok (.iload_n 2, 1) := by decide +kernel
theorem dL_partyIn_6 : decode cL_partyIn 6 = .ok (.iload_n 3, 1) := by decide +kernel
theorem dL_partyIn_7 : decode cL_partyIn 7 = .ok (.invokevirtual 32, 3) := by decide +kernel
theorem dL_partyIn_10 : decode cL_partyIn 10 = .ok (.i2l, 1) := by decide +kernel
theorem dL_partyIn_11 : decode cL_partyIn 11 = .ok (.lastore, 1) := by decide +kernel
theorem dL_partyIn_12 : decode cL_partyIn 12 = .ok (.goto 11, 3) := by decide +kernel
theorem dL_partyIn_15 : decode cL_partyIn 15 = .ok (.astore 5, 2) := by decide +kernel
theorem dL_partyIn_17 : decode cL_partyIn 17 = .ok (.iconst 1, 1) := by decide +kernel
theorem dL_partyIn_18 : decode cL_partyIn 18 = .ok (.ireturn, 1) := by decide +kernel
theorem dL_partyIn_19 : decode cL_partyIn 19 = .ok (.astore 5, 2) := by decide +kernel
theorem dL_partyIn_21 : decode cL_partyIn 21 = .ok (.iconst 2, 1) := by decide +kernel
theorem dL_partyIn_22 : decode cL_partyIn 22 = .ok (.ireturn, 1) := by decide +kernel
theorem dL_partyIn_23 : decode cL_partyIn 23 = .ok (.iconst 0, 1) := by decide +kernel
theorem dL_partyIn_24 : decode cL_partyIn 24 = .ok (.ireturn, 1) := by decide +kernel
theorem dL_cakeOf_0 : decode cL_cakeOf 0 = .ok (.aload_n 2, 1) := by decide +kernel
theorem dL_cakeOf_1 : decode cL_cakeOf 1 = .ok (.iconst 0, 1) := by decide +kernel
theorem dL_cakeOf_2 : decode cL_cakeOf 2 = .ok (.aload_n 0, 1) := by decide +kernel
theorem dL_cakeOf_3 : decode cL_cakeOf 3 = .ok (.iload_n 1, 1) := by decide +kernel
theorem dL_cakeOf_4 : decode cL_cakeOf 4 = .ok (.invokevirtual 36, 3) := by decide +kernel
theorem dL_cakeOf_7 : decode cL_cakeOf 7 = .ok (.i2l, 1) := by decide +kernel
theorem dL_cakeOf_8 : decode cL_cakeOf 8 = .ok (.lastore, 1) := by decide +kernel
theorem dL_cakeOf_9 : decode cL_cakeOf 9 = .ok (.goto 6, 3) := by decide +kernel
theorem dL_cakeOf_12 : decode cL_cakeOf 12 = .ok (.astore_n 3, 1) := by decide +kernel
theorem dL_cakeOf_13 : decode cL_cakeOf 13 = .ok (.iconst 1, 1) := by decide +kernel
theorem dL_cakeOf_14 : decode cL_cakeOf 14 = .ok (.ireturn, 1) := by decide +kernel
theorem dL_cakeOf_15 : decode cL_cakeOf 15 = .ok (.iconst 0, 1) := by decide +kernel
theorem dL_cakeOf_16 : decode cL_cakeOf 16 = .ok (.ireturn, 1) := by decide +kernel
theorem dL_breathOf_0 : decode cL_breathOf 0 = .ok (.aload_n 2, 1) := by decide +kernel
theorem dL_breathOf_1 : decode cL_breathOf 1 = .ok (.iconst 0, 1) := by decide +kernel
theorem dL_breathOf_2 : decode cL_breathOf 2 = .ok (.aload_n 0, 1) := by decide +kernel
theorem dL_breathOf_3 : decode cL_breathOf 3 = .ok (.iload_n 1, 1) := by decide +kernel
theorem dL_breathOf_4 : decode cL_breathOf 4 = .ok (.invokevirtual 39, 3) := by decide +kernel
theorem dL_breathOf_7 : decode cL_breathOf 7 = .ok (.i2l, 1) := by decide +kernel
theorem dL_breathOf_8 : decode cL_breathOf 8 = .ok (.lastore, 1) := by decide +kernel
theorem dL_breathOf_9 : decode cL_breathOf 9 = .ok (.goto 6, 3) := by decide +kernel
theorem dL_breathOf_12 : decode cL_breathOf 12 = .ok (.astore_n 3, 1) := by decide +kernel
theorem dL_breathOf_13 : decode cL_breathOf 13 = .ok (.iconst 1, 1) := by decide +kernel
theorem dL_breathOf_14 : decode cL_breathOf 14 = .ok (.ireturn, 1) := by decide +kernel
theorem dL_breathOf_15 : decode cL_breathOf 15 = .ok (.iconst 0, 1) := by decide +kernel
theorem dL_breathOf_16 : decode cL_breathOf 16 = .ok (.ireturn, 1) := by decide +kernel
theorem dL_ageOf_0 : decode cL_ageOf 0 = .ok (.aload_n 2, 1) := by decide +kernel
theorem dL_ageOf_1 : decode cL_ageOf 1 = .ok (.iconst 0, 1) := by decide +kernel
theorem dL_ageOf_2 : decode cL_ageOf 2 = .ok (.aload_n 0, 1) := by decide +kernel
theorem dL_ageOf_3 : decode cL_ageOf 3 = .ok (.iload_n 1, 1) := by decide +kernel
theorem dL_ageOf_4 : decode cL_ageOf 4 = .ok (.invokevirtual 42, 3) := by decide +kernel
theorem dL_ageOf_7 : decode cL_ageOf 7 = .ok (.i2l, 1) := by decide +kernel
theorem dL_ageOf_8 : decode cL_ageOf 8 = .ok (.lastore, 1) := by decide +kernel
theorem dL_ageOf_9 : decode cL_ageOf 9 = .ok (.goto 6, 3) := by decide +kernel
theorem dL_ageOf_12 : decode cL_ageOf 12 = .ok (.astore_n 3, 1) := by decide +kernel
theorem dL_ageOf_13 : decode cL_ageOf 13 = .ok (.iconst 1, 1) := by decide +kernel
theorem dL_ageOf_14 : decode cL_ageOf 14 = .ok (.ireturn, 1) := by decide +kernel
theorem dL_ageOf_15 : decode cL_ageOf 15 = .ok (.iconst 0, 1) := by decide +kernel
theorem dL_ageOf_16 : decode cL_ageOf 16 = .ok (.ireturn, 1) := by decide +kernel
theorem dL_gardenOf_0 : decode cL_gardenOf 0 = .ok (.aload_n 2, 1) := by decide +kernel
theorem dL_gardenOf_1 : decode cL_gardenOf 1 = .ok (.iconst 0, 1) := by decide +kernel
theorem dL_gardenOf_2 : decode cL_gardenOf 2 = .ok (.aload_n 0, 1) := by decide +kernel
theorem dL_gardenOf_3 : decode cL_gardenOf 3 = .ok (.iload_n 1, 1) := by decide +kernel
theorem dL_gardenOf_4 : decode cL_gardenOf 4 = .ok (.invokevirtual 45, 3) := by decide +kernel
theorem dL_gardenOf_7 : decode cL_gardenOf 7 = .ok (.i2l, 1) := by decide +kernel
theorem dL_gardenOf_8 : decode cL_gardenOf 8 = .ok (.lastore, 1) := by decide +kernel
theorem dL_gardenOf_9 : decode cL_gardenOf 9 = .ok (.goto 6, 3) := by decide +kernel
theorem dL_gardenOf_12 : decode cL_gardenOf 12 = .ok (.astore_n 3, 1) := by decide +kernel
theorem dL_gardenOf_13 : decode cL_gardenOf 13 = .ok (.iconst 1, 1) := by decide +kernel
theorem dL_gardenOf_14 : decode cL_gardenOf 14 = .ok (.ireturn, 1) := by decide +kernel
theorem dL_gardenOf_15 : decode cL_gardenOf 15 = .ok (.iconst 0, 1) := by decide +kernel
theorem dL_gardenOf_16 : decode cL_gardenOf 16 = .ok (.ireturn, 1) := by decide +kernel
theorem dL_birthdayOf_0 : decode cL_birthdayOf 0 = .ok (.aload_n 2, 1) := by decide +kernel
theorem dL_birthdayOf_1 : decode cL_birthdayOf 1 = .ok (.iconst 0, 1) := by decide +kernel
theorem dL_birthdayOf_2 : decode cL_birthdayOf 2 = .ok (.aload_n 0, 1) := by decide +kernel
theorem dL_birthdayOf_3 : decode cL_birthdayOf 3 = .ok (.iload_n 1, 1) := by decide +kernel
theorem dL_birthdayOf_4 : decode cL_birthdayOf 4 = .ok (.invokevirtual 48, 3) := by decide +kernel
theorem dL_birthdayOf_7 : decode cL_birthdayOf 7 = .ok (.i2l, 1) := by decide +kernel
theorem dL_birthdayOf_8 : decode cL_birthdayOf 8 = .ok (.lastore, 1) := by decide +kernel
theorem dL_birthdayOf_9 : decode cL_birthdayOf 9 = .ok (.goto 6, 3) := by decide +kernel
theorem dL_birthdayOf_12 : decode cL_birthdayOf 12 = .ok (.astore_n 3, 1) := by decide +kernel
theorem dL_birthdayOf_13 : decode cL_birthdayOf 13 = .ok (.iconst 1, 1) := by decide +kernel
theorem dL_birthdayOf_14 : decode cL_birthdayOf 14 = .ok (.ireturn, 1) := by decide +kernel
theorem dL_birthdayOf_15 : decode cL_birthdayOf 15 = .ok (.iconst 0, 1) := by decide +kernel
theorem dL_birthdayOf_16 : decode cL_birthdayOf 16 = .ok (.ireturn, 1) := by decide +kernel
theorem dL_daysUntilBirthday_0 : decode cL_daysUntilBirthday 0 = .ok (.aload_n 2, 1) := by decide +kernel
theorem dL_daysUntilBirthday_1 : decode cL_daysUntilBirthday 1 = .ok (.iconst 0, 1) := by decide +kernel
theorem dL_daysUntilBirthday_2 : decode cL_daysUntilBirthday 2 = .ok (.aload_n 0, 1) := by decide +kernel
theorem dL_daysUntilBirthday_3 : decode cL_daysUntilBirthday 3 = .ok (.iload_n 1, 1) := by decide +kernel
theorem dL_daysUntilBirthday_4 : decode cL_daysUntilBirthday 4 = .ok (.invokevirtual 51, 3) := by decide +kernel
theorem dL_daysUntilBirthday_7 : decode cL_daysUntilBirthday 7 = .ok (.i2l, 1) := by decide +kernel
theorem dL_daysUntilBirthday_8 : decode cL_daysUntilBirthday 8 = .ok (.lastore, 1) := by decide +kernel
theorem dL_daysUntilBirthday_9 : decode cL_daysUntilBirthday 9 = .ok (.goto 6, 3) := by decide +kernel
theorem dL_daysUntilBirthday_12 : decode cL_daysUntilBirthday 12 = .ok (.astore_n 3, 1) := by decide +kernel
theorem dL_daysUntilBirthday_13 : decode cL_daysUntilBirthday 13 = .ok (.iconst 1, 1) := by decide +kernel
theorem dL_daysUntilBirthday_14 : decode cL_daysUntilBirthday 14 = .ok (.ireturn, 1) := by decide +kernel
theorem dL_daysUntilBirthday_15 : decode cL_daysUntilBirthday 15 = .ok (.iconst 0, 1) := by decide +kernel
theorem dL_daysUntilBirthday_16 : decode cL_daysUntilBirthday 16 = .ok (.ireturn, 1) := by decide +kernel
theorem dL_partiesOf_0 : decode cL_partiesOf 0 = .ok (.aload_n 2, 1) := by decide +kernel
theorem dL_partiesOf_1 : decode cL_partiesOf 1 = .ok (.iconst 0, 1) := by decide +kernel
theorem dL_partiesOf_2 : decode cL_partiesOf 2 = .ok (.aload_n 0, 1) := by decide +kernel
theorem dL_partiesOf_3 : decode cL_partiesOf 3 = .ok (.iload_n 1, 1) := by decide +kernel
theorem dL_partiesOf_4 : decode cL_partiesOf 4 = .ok (.invokevirtual 54, 3) := by decide +kernel
theorem dL_partiesOf_7 : decode cL_partiesOf 7 = .ok (.i2l, 1) := by decide +kernel
theorem dL_partiesOf_8 : decode cL_partiesOf 8 = .ok (.lastore, 1) := by decide +kernel
theorem dL_partiesOf_9 : decode cL_partiesOf 9 = .ok (.goto 6, 3) := by decide +kernel
theorem dL_partiesOf_12 : decode cL_partiesOf 12 = .ok (.astore_n 3, 1) := by decide +kernel
theorem dL_partiesOf_13 : decode cL_partiesOf 13 = .ok (.iconst 1, 1) := by decide +kernel
theorem dL_partiesOf_14 : decode cL_partiesOf 14 = .ok (.ireturn, 1) := by decide +kernel
theorem dL_partiesOf_15 : decode cL_partiesOf 15 = .ok (.iconst 0, 1) := by decide +kernel
theorem dL_partiesOf_16 : decode cL_partiesOf 16 = .ok (.ireturn, 1) := by decide +kernel
theorem dL_wishesOf_0 : decode cL_wishesOf 0 = .ok (.aload_n 2, 1) := by decide +kernel
theorem dL_wishesOf_1 : decode cL_wishesOf 1 = .ok (.iconst 0, 1) := by decide +kernel
theorem dL_wishesOf_2 : decode cL_wishesOf 2 = .ok (.aload_n 0, 1) := by decide +kernel
theorem dL_wishesOf_3 : decode cL_wishesOf 3 = .ok (.iload_n 1, 1) := by decide +kernel
theorem dL_wishesOf_4 : decode cL_wishesOf 4 = .ok (.invokevirtual 57, 3) := by decide +kernel
theorem dL_wishesOf_7 : decode cL_wishesOf 7 = .ok (.i2l, 1) := by decide +kernel
theorem dL_wishesOf_8 : decode cL_wishesOf 8 = .ok (.lastore, 1) := by decide +kernel
theorem dL_wishesOf_9 : decode cL_wishesOf 9 = .ok (.goto 6, 3) := by decide +kernel
theorem dL_wishesOf_12 : decode cL_wishesOf 12 = .ok (.astore_n 3, 1) := by decide +kernel
theorem dL_wishesOf_13 : decode cL_wishesOf 13 = .ok (.iconst 1, 1) := by decide +kernel
theorem dL_wishesOf_14 : decode cL_wishesOf 14 = .ok (.ireturn, 1) := by decide +kernel
theorem dL_wishesOf_15 : decode cL_wishesOf 15 = .ok (.iconst 0, 1) := by decide +kernel
theorem dL_wishesOf_16 : decode cL_wishesOf 16 = .ok (.ireturn, 1) := by decide +kernel
theorem dL_strengthOf_0 : decode cL_strengthOf 0 = .ok (.aload_n 2, 1) := by decide +kernel
theorem dL_strengthOf_1 : decode cL_strengthOf 1 = .ok (.iconst 0, 1) := by decide +kernel
theorem dL_strengthOf_2 : decode cL_strengthOf 2 = .ok (.aload_n 0, 1) := by decide +kernel
theorem dL_strengthOf_3 : decode cL_strengthOf 3 = .ok (.iload_n 1, 1) := by decide +kernel
theorem dL_strengthOf_4 : decode cL_strengthOf 4 = .ok (.invokevirtual 60, 3) := by decide +kernel
theorem dL_strengthOf_7 : decode cL_strengthOf 7 = .ok (.i2l, 1) := by decide +kernel
theorem dL_strengthOf_8 : decode cL_strengthOf 8 = .ok (.lastore, 1) := by decide +kernel
theorem dL_strengthOf_9 : decode cL_strengthOf 9 = .ok (.goto 6, 3) := by decide +kernel
theorem dL_strengthOf_12 : decode cL_strengthOf 12 = .ok (.astore_n 3, 1) := by decide +kernel
theorem dL_strengthOf_13 : decode cL_strengthOf 13 = .ok (.iconst 1, 1) := by decide +kernel
theorem dL_strengthOf_14 : decode cL_strengthOf 14 = .ok (.ireturn, 1) := by decide +kernel
theorem dL_strengthOf_15 : decode cL_strengthOf 15 = .ok (.iconst 0, 1) := by decide +kernel
theorem dL_strengthOf_16 : decode cL_strengthOf 16 = .ok (.ireturn, 1) := by decide +kernel
theorem dL_childrenOn_0 : decode cL_childrenOn 0 = .ok (.aload_n 3, 1) := by decide +kernel
theorem dL_childrenOn_1 : decode cL_childrenOn 1 = .ok (.iconst 0, 1) := by decide +kernel
theorem dL_childrenOn_2 : decode cL_childrenOn 2 = .ok (.aload_n 0, 1) := by decide +kernel
theorem dL_childrenOn_3 : decode cL_childrenOn 3 = .ok (.iload_n 1, 1) := by decide +kernel
theorem dL_childrenOn_4 : decode cL_childrenOn 4 = .ok (.iload_n 2, 1) := by decide +kernel
theorem dL_childrenOn_5 : decode cL_childrenOn 5 = .ok (.invokevirtual 63, 3) := by decide +kernel
theorem dL_childrenOn_8 : decode cL_childrenOn 8 = .ok (.i2l, 1) := by decide +kernel
theorem dL_childrenOn_9 : decode cL_childrenOn 9 = .ok (.lastore, 1) := by decide +kernel
theorem dL_childrenOn_10 : decode cL_childrenOn 10 = .ok (.goto 7, 3) := by decide +kernel
theorem dL_childrenOn_13 : decode cL_childrenOn 13 = .ok (.astore 4, 2) := by decide +kernel
theorem dL_childrenOn_15 : decode cL_childrenOn 15 = .ok (.iconst 1, 1) := by decide +kernel
theorem dL_childrenOn_16 : decode cL_childrenOn 16 = .ok (.ireturn, 1) := by decide +kernel
theorem dL_childrenOn_17 : decode cL_childrenOn 17 = .ok (.iconst 0, 1) := by decide +kernel
theorem dL_childrenOn_18 : decode cL_childrenOn 18 = .ok (.ireturn, 1) := by decide +kernel
theorem dL_dateAt_0 : decode cL_dateAt 0 = .ok (.aload_n 2, 1) := by decide +kernel
theorem dL_dateAt_1 : decode cL_dateAt 1 = .ok (.iconst 0, 1) := by decide +kernel
theorem dL_dateAt_2 : decode cL_dateAt 2 = .ok (.aload_n 0, 1) := by decide +kernel
theorem dL_dateAt_3 : decode cL_dateAt 3 = .ok (.iload_n 1, 1) := by decide +kernel
theorem dL_dateAt_4 : decode cL_dateAt 4 = .ok (.invokevirtual 67, 3) := by decide +kernel
theorem dL_dateAt_7 : decode cL_dateAt 7 = .ok (.i2l, 1) := by decide +kernel
theorem dL_dateAt_8 : decode cL_dateAt 8 = .ok (.lastore, 1) := by decide +kernel
theorem dL_dateAt_9 : decode cL_dateAt 9 = .ok (.goto 6, 3) := by decide +kernel
theorem dL_dateAt_12 : decode cL_dateAt 12 = .ok (.astore_n 3, 1) := by decide +kernel
theorem dL_dateAt_13 : decode cL_dateAt 13 = .ok (.iconst 1, 1) := by decide +kernel
theorem dL_dateAt_14 : decode cL_dateAt 14 = .ok (.ireturn, 1) := by decide +kernel
theorem dL_dateAt_15 : decode cL_dateAt 15 = .ok (.iconst 0, 1) := by decide +kernel
theorem dL_dateAt_16 : decode cL_dateAt 16 = .ok (.ireturn, 1) := by decide +kernel
theorem dL_obstacle_0 : decode cL_obstacle 0 = .ok (.aload 5, 2) := by decide +kernel
theorem dL_obstacle_2 : decode cL_obstacle 2 = .ok (.iconst 0, 1) := by decide +kernel
theorem dL_obstacle_3 : decode cL_obstacle 3 = .ok (.aload_n 0, 1) := by decide +kernel
theorem dL_obstacle_4 : decode cL_obstacle 4 = .ok (.iload_n 1, 1) := by decide +kernel
theorem dL_obstacle_5 : decode cL_obstacle 5 = .ok (.iload_n 2, 1) := by decide +kernel
theorem dL_obstacle_6 : decode cL_obstacle 6 = .ok (.iload_n 3, 1) := by decide +kernel
theorem dL_obstacle_7 : decode cL_obstacle 7 = .ok (.iload 4, 2) := by decide +kernel
theorem dL_obstacle_9 : decode cL_obstacle 9 = .ok (.invokevirtual 70, 3) := by decide +kernel
theorem dL_obstacle_12 : decode cL_obstacle 12 = .ok (.i2l, 1) := by decide +kernel
theorem dL_obstacle_13 : decode cL_obstacle 13 = .ok (.lastore, 1) := by decide +kernel
theorem dL_obstacle_14 : decode cL_obstacle 14 = .ok (.goto 11, 3) := by decide +kernel
theorem dL_obstacle_17 : decode cL_obstacle 17 = .ok (.astore 6, 2) := by decide +kernel
theorem dL_obstacle_19 : decode cL_obstacle 19 = .ok (.iconst 1, 1) := by decide +kernel
theorem dL_obstacle_20 : decode cL_obstacle 20 = .ok (.ireturn, 1) := by decide +kernel
theorem dL_obstacle_21 : decode cL_obstacle 21 = .ok (.astore 6, 2) := by decide +kernel
theorem dL_obstacle_23 : decode cL_obstacle 23 = .ok (.iconst 2, 1) := by decide +kernel
theorem dL_obstacle_24 : decode cL_obstacle 24 = .ok (.ireturn, 1) := by decide +kernel
theorem dL_obstacle_25 : decode cL_obstacle 25 = .ok (.iconst 0, 1) := by decide +kernel
theorem dL_obstacle_26 : decode cL_obstacle 26 = .ok (.ireturn, 1) := by decide +kernel
theorem dL_freeGarden_0 : decode cL_freeGarden 0 = .ok (.aload 4, 2) := by decide +kernel
theorem dL_freeGarden_2 : decode cL_freeGarden 2 = .ok (.iconst 0, 1) := by decide +kernel
theorem dL_freeGarden_3 : decode cL_freeGarden 3 = .ok (.aload_n 0, 1) := by decide +kernel
theorem dL_freeGarden_4 : decode cL_freeGarden 4 = .ok (.iload_n 1, 1) := by decide +kernel
theorem dL_freeGarden_5 : decode cL_freeGarden 5 = .ok (.iload_n 2, 1) := by decide +kernel
theorem dL_freeGarden_6 : decode cL_freeGarden 6 = .ok (.iload_n 3, 1) := by decide +kernel
theorem dL_freeGarden_7 : decode cL_freeGarden 7 = .ok (.invokevirtual 74, 3) := by decide +kernel
theorem dL_freeGarden_10 : decode cL_freeGarden 10 = .ok (.i2l, 1) := by decide +kernel
theorem dL_freeGarden_11 : decode cL_freeGarden 11 = .ok (.lastore, 1) := by decide +kernel
theorem dL_freeGarden_12 : decode cL_freeGarden 12 = .ok (.goto 11, 3) := by decide +kernel
theorem dL_freeGarden_15 : decode cL_freeGarden 15 = .ok (.astore 5, 2) := by decide +kernel
theorem dL_freeGarden_17 : decode cL_freeGarden 17 = .ok (.iconst 1, 1) := by decide +kernel
theorem dL_freeGarden_18 : decode cL_freeGarden 18 = .ok (.ireturn, 1) := by decide +kernel
theorem dL_freeGarden_19 : decode cL_freeGarden 19 = .ok (.astore 5, 2) := by decide +kernel
theorem dL_freeGarden_21 : decode cL_freeGarden 21 = .ok (.iconst 2, 1) := by decide +kernel
theorem dL_freeGarden_22 : decode cL_freeGarden 22 = .ok (.ireturn, 1) := by decide +kernel
theorem dL_freeGarden_23 : decode cL_freeGarden 23 = .ok (.iconst 0, 1) := by decide +kernel
theorem dL_freeGarden_24 : decode cL_freeGarden 24 = .ok (.ireturn, 1) := by decide +kernel
theorem dL_drawsNeeded_0 : decode cL_drawsNeeded 0 = .ok (.aload_n 2, 1) := by decide +kernel
theorem dL_drawsNeeded_1 : decode cL_drawsNeeded 1 = .ok (.iconst 0, 1) := by decide +kernel
theorem dL_drawsNeeded_2 : decode cL_drawsNeeded 2 = .ok (.aload_n 0, 1) := by decide +kernel
theorem dL_drawsNeeded_3 : decode cL_drawsNeeded 3 = .ok (.iload_n 1, 1) := by decide +kernel
theorem dL_drawsNeeded_4 : decode cL_drawsNeeded 4 = .ok (.invokevirtual 77, 3) := by decide +kernel
theorem dL_drawsNeeded_7 : decode cL_drawsNeeded 7 = .ok (.i2l, 1) := by decide +kernel
theorem dL_drawsNeeded_8 : decode cL_drawsNeeded 8 = .ok (.lastore, 1) := by decide +kernel
theorem dL_drawsNeeded_9 : decode cL_drawsNeeded 9 = .ok (.goto 6, 3) := by decide +kernel
theorem dL_drawsNeeded_12 : decode cL_drawsNeeded 12 = .ok (.astore_n 3, 1) := by decide +kernel
theorem dL_drawsNeeded_13 : decode cL_drawsNeeded 13 = .ok (.iconst 1, 1) := by decide +kernel
theorem dL_drawsNeeded_14 : decode cL_drawsNeeded 14 = .ok (.ireturn, 1) := by decide +kernel
theorem dL_drawsNeeded_15 : decode cL_drawsNeeded 15 = .ok (.iconst 0, 1) := by decide +kernel
theorem dL_drawsNeeded_16 : decode cL_drawsNeeded 16 = .ok (.ireturn, 1) := by decide +kernel
theorem dL_candlesAfter_0 : decode cL_candlesAfter 0 = .ok (.aload_n 2, 1) := by decide +kernel
theorem dL_candlesAfter_1 : decode cL_candlesAfter 1 = .ok (.iconst 0, 1) := by decide +kernel
theorem dL_candlesAfter_2 : decode cL_candlesAfter 2 = .ok (.aload_n 0, 1) := by decide +kernel
theorem dL_candlesAfter_3 : decode cL_candlesAfter 3 = .ok (.iload_n 1, 1) := by decide +kernel
theorem dL_candlesAfter_4 : decode cL_candlesAfter 4 = .ok (.invokevirtual 80, 3) := by decide +kernel
theorem dL_candlesAfter_7 : decode cL_candlesAfter 7 = .ok (.i2l, 1) := by decide +kernel
theorem dL_candlesAfter_8 : decode cL_candlesAfter 8 = .ok (.lastore, 1) := by decide +kernel
theorem dL_candlesAfter_9 : decode cL_candlesAfter 9 = .ok (.goto 6, 3) := by decide +kernel
theorem dL_candlesAfter_12 : decode cL_candlesAfter 12 = .ok (.astore_n 3, 1) := by decide +kernel
theorem dL_candlesAfter_13 : decode cL_candlesAfter 13 = .ok (.iconst 1, 1) := by decide +kernel
theorem dL_candlesAfter_14 : decode cL_candlesAfter 14 = .ok (.ireturn, 1) := by decide +kernel
theorem dL_candlesAfter_15 : decode cL_candlesAfter 15 = .ok (.iconst 0, 1) := by decide +kernel
theorem dL_candlesAfter_16 : decode cL_candlesAfter 16 = .ok (.ireturn, 1) := by decide +kernel
theorem dL_wishesAfter_0 : decode cL_wishesAfter 0 = .ok (.aload_n 3, 1) := by decide +kernel
theorem dL_wishesAfter_1 : decode cL_wishesAfter 1 = .ok (.iconst 0, 1) := by decide +kernel
theorem dL_wishesAfter_2 : decode cL_wishesAfter 2 = .ok (.aload_n 0, 1) := by decide +kernel
theorem dL_wishesAfter_3 : decode cL_wishesAfter 3 = .ok (.iload_n 1, 1) := by decide +kernel
theorem dL_wishesAfter_4 : decode cL_wishesAfter 4 = .ok (.iload_n 2, 1) := by decide +kernel
theorem dL_wishesAfter_5 : decode cL_wishesAfter 5 = .ok (.invokevirtual 83, 3) := by decide +kernel
theorem dL_wishesAfter_8 : decode cL_wishesAfter 8 = .ok (.i2l, 1) := by decide +kernel
theorem dL_wishesAfter_9 : decode cL_wishesAfter 9 = .ok (.lastore, 1) := by decide +kernel
theorem dL_wishesAfter_10 : decode cL_wishesAfter 10 = .ok (.goto 11, 3) := by decide +kernel
theorem dL_wishesAfter_13 : decode cL_wishesAfter 13 = .ok (.astore 4, 2) := by decide +kernel
theorem dL_wishesAfter_15 : decode cL_wishesAfter 15 = .ok (.iconst 1, 1) := by decide +kernel
theorem dL_wishesAfter_16 : decode cL_wishesAfter 16 = .ok (.ireturn, 1) := by decide +kernel
theorem dL_wishesAfter_17 : decode cL_wishesAfter 17 = .ok (.astore 4, 2) := by decide +kernel
theorem dL_wishesAfter_19 : decode cL_wishesAfter 19 = .ok (.iconst 2, 1) := by decide +kernel
theorem dL_wishesAfter_20 : decode cL_wishesAfter 20 = .ok (.ireturn, 1) := by decide +kernel
theorem dL_wishesAfter_21 : decode cL_wishesAfter 21 = .ok (.iconst 0, 1) := by decide +kernel
theorem dL_wishesAfter_22 : decode cL_wishesAfter 22 = .ok (.ireturn, 1) := by decide +kernel
theorem dL_advance_0 : decode cL_advance 0 = .ok (.aload_n 2, 1) := by decide +kernel
theorem dL_advance_1 : decode cL_advance 1 = .ok (.iconst 0, 1) := by decide +kernel
theorem dL_advance_2 : decode cL_advance 2 = .ok (.aload_n 0, 1) := by decide +kernel
theorem dL_advance_3 : decode cL_advance 3 = .ok (.iload_n 1, 1) := by decide +kernel
theorem dL_advance_4 : decode cL_advance 4 = .ok (.invokevirtual 86, 3) := by decide +kernel
theorem dL_advance_7 : decode cL_advance 7 = .ok (.i2l, 1) := by decide +kernel
theorem dL_advance_8 : decode cL_advance 8 = .ok (.lastore, 1) := by decide +kernel
theorem dL_advance_9 : decode cL_advance 9 = .ok (.goto 9, 3) := by decide +kernel
theorem dL_advance_12 : decode cL_advance 12 = .ok (.astore_n 3, 1) := by decide +kernel
theorem dL_advance_13 : decode cL_advance 13 = .ok (.iconst 1, 1) := by decide +kernel
theorem dL_advance_14 : decode cL_advance 14 = .ok (.ireturn, 1) := by decide +kernel
theorem dL_advance_15 : decode cL_advance 15 = .ok (.astore_n 3, 1) := by decide +kernel
theorem dL_advance_16 : decode cL_advance 16 = .ok (.iconst 2, 1) := by decide +kernel
theorem dL_advance_17 : decode cL_advance 17 = .ok (.ireturn, 1) := by decide +kernel
theorem dL_advance_18 : decode cL_advance 18 = .ok (.iconst 0, 1) := by decide +kernel
theorem dL_advance_19 : decode cL_advance 19 = .ok (.ireturn, 1) := by decide +kernel
theorem dL_draw_0 : decode cL_draw 0 = .ok (.aload_n 2, 1) := by decide +kernel
theorem dL_draw_1 : decode cL_draw 1 = .ok (.iconst 0, 1) := by decide +kernel
theorem dL_draw_2 : decode cL_draw 2 = .ok (.aload_n 0, 1) := by decide +kernel
theorem dL_draw_3 : decode cL_draw 3 = .ok (.iload_n 1, 1) := by decide +kernel
theorem dL_draw_4 : decode cL_draw 4 = .ok (.invokevirtual 89, 3) := by decide +kernel
theorem dL_draw_7 : decode cL_draw 7 = .ok (.i2l, 1) := by decide +kernel
theorem dL_draw_8 : decode cL_draw 8 = .ok (.lastore, 1) := by decide +kernel
theorem dL_draw_9 : decode cL_draw 9 = .ok (.goto 9, 3) := by decide +kernel
theorem dL_draw_12 : decode cL_draw 12 = .ok (.astore_n 3, 1) := by decide +kernel
theorem dL_draw_13 : decode cL_draw 13 = .ok (.iconst 1, 1) := by decide +kernel
theorem dL_draw_14 : decode cL_draw 14 = .ok (.ireturn, 1) := by decide +kernel
theorem dL_draw_15 : decode cL_draw 15 = .ok (.astore_n 3, 1) := by decide +kernel
theorem dL_draw_16 : decode cL_draw 16 = .ok (.iconst 2, 1) := by decide +kernel
theorem dL_draw_17 : decode cL_draw 17 = .ok (.ireturn, 1) := by decide +kernel
theorem dL_draw_18 : decode cL_draw 18 = .ok (.iconst 0, 1) := by decide +kernel
theorem dL_draw_19 : decode cL_draw 19 = .ok (.ireturn, 1) := by decide +kernel
theorem dL_setBirthday_0 : decode cL_setBirthday 0 = .ok (.aload 4, 2) := by decide +kernel
theorem dL_setBirthday_2 : decode cL_setBirthday 2 = .ok (.iconst 0, 1) := by decide +kernel
theorem dL_setBirthday_3 : decode cL_setBirthday 3 = .ok (.aload_n 0, 1) := by decide +kernel
theorem dL_setBirthday_4 : decode cL_setBirthday 4 = .ok (.iload_n 1, 1) := by decide +kernel
theorem dL_setBirthday_5 : decode cL_setBirthday 5 = .ok (.iload_n 2, 1) := by decide +kernel
theorem dL_setBirthday_6 : decode cL_setBirthday 6 = .ok (.iload_n 3, 1) := by decide +kernel
theorem dL_setBirthday_7 : decode cL_setBirthday 7 = .ok (.invokevirtual 92, 3) := by decide +kernel
theorem dL_setBirthday_10 : decode cL_setBirthday 10 = .ok (.i2l, 1) := by decide +kernel
theorem dL_setBirthday_11 : decode cL_setBirthday 11 = .ok (.lastore, 1) := by decide +kernel
theorem dL_setBirthday_12 : decode cL_setBirthday 12 = .ok (.goto 15, 3) := by decide +kernel
theorem dL_setBirthday_15 : decode cL_setBirthday 15 = .ok (.astore 5, 2) := by decide +kernel
theorem dL_setBirthday_17 : decode cL_setBirthday 17 = .ok (.iconst 1, 1) := by decide +kernel
theorem dL_setBirthday_18 : decode cL_setBirthday 18 = .ok (.ireturn, 1) := by decide +kernel
theorem dL_setBirthday_19 : decode cL_setBirthday 19 = .ok (.astore 5, 2) := by decide +kernel
theorem dL_setBirthday_21 : decode cL_setBirthday 21 = .ok (.iconst 2, 1) := by decide +kernel
theorem dL_setBirthday_22 : decode cL_setBirthday 22 = .ok (.ireturn, 1) := by decide +kernel
theorem dL_setBirthday_23 : decode cL_setBirthday 23 = .ok (.astore 5, 2) := by decide +kernel
theorem dL_setBirthday_25 : decode cL_setBirthday 25 = .ok (.iconst 3, 1) := by decide +kernel
theorem dL_setBirthday_26 : decode cL_setBirthday 26 = .ok (.ireturn, 1) := by decide +kernel
theorem dL_setBirthday_27 : decode cL_setBirthday 27 = .ok (.iconst 0, 1) := by decide +kernel
theorem dL_setBirthday_28 : decode cL_setBirthday 28 = .ok (.ireturn, 1) := by decide +kernel
theorem dL_forgetBirthday_0 : decode cL_forgetBirthday 0 = .ok (.aload_n 2, 1) := by decide +kernel
theorem dL_forgetBirthday_1 : decode cL_forgetBirthday 1 = .ok (.iconst 0, 1) := by decide +kernel
theorem dL_forgetBirthday_2 : decode cL_forgetBirthday 2 = .ok (.aload_n 0, 1) := by decide +kernel
theorem dL_forgetBirthday_3 : decode cL_forgetBirthday 3 = .ok (.iload_n 1, 1) := by decide +kernel
theorem dL_forgetBirthday_4 : decode cL_forgetBirthday 4 = .ok (.invokevirtual 95, 3) := by decide +kernel
theorem dL_forgetBirthday_7 : decode cL_forgetBirthday 7 = .ok (.i2l, 1) := by decide +kernel
theorem dL_forgetBirthday_8 : decode cL_forgetBirthday 8 = .ok (.lastore, 1) := by decide +kernel
theorem dL_forgetBirthday_9 : decode cL_forgetBirthday 9 = .ok (.goto 6, 3) := by decide +kernel
theorem dL_forgetBirthday_12 : decode cL_forgetBirthday 12 = .ok (.astore_n 3, 1) := by decide +kernel
theorem dL_forgetBirthday_13 : decode cL_forgetBirthday 13 = .ok (.iconst 1, 1) := by decide +kernel
theorem dL_forgetBirthday_14 : decode cL_forgetBirthday 14 = .ok (.ireturn, 1) := by decide +kernel
theorem dL_forgetBirthday_15 : decode cL_forgetBirthday 15 = .ok (.iconst 0, 1) := by decide +kernel
theorem dL_forgetBirthday_16 : decode cL_forgetBirthday 16 = .ok (.ireturn, 1) := by decide +kernel
theorem dL_moveTo_0 : decode cL_moveTo 0 = .ok (.aload_n 3, 1) := by decide +kernel
theorem dL_moveTo_1 : decode cL_moveTo 1 = .ok (.iconst 0, 1) := by decide +kernel
theorem dL_moveTo_2 : decode cL_moveTo 2 = .ok (.aload_n 0, 1) := by decide +kernel
theorem dL_moveTo_3 : decode cL_moveTo 3 = .ok (.iload_n 1, 1) := by decide +kernel
theorem dL_moveTo_4 : decode cL_moveTo 4 = .ok (.iload_n 2, 1) := by decide +kernel
theorem dL_moveTo_5 : decode cL_moveTo 5 = .ok (.invokevirtual 98, 3) := by decide +kernel
theorem dL_moveTo_8 : decode cL_moveTo 8 = .ok (.i2l, 1) := by decide +kernel
theorem dL_moveTo_9 : decode cL_moveTo 9 = .ok (.lastore, 1) := by decide +kernel
theorem dL_moveTo_10 : decode cL_moveTo 10 = .ok (.goto 11, 3) := by decide +kernel
theorem dL_moveTo_13 : decode cL_moveTo 13 = .ok (.astore 4, 2) := by decide +kernel
theorem dL_moveTo_15 : decode cL_moveTo 15 = .ok (.iconst 1, 1) := by decide +kernel
theorem dL_moveTo_16 : decode cL_moveTo 16 = .ok (.ireturn, 1) := by decide +kernel
theorem dL_moveTo_17 : decode cL_moveTo 17 = .ok (.astore 4, 2) := by decide +kernel
theorem dL_moveTo_19 : decode cL_moveTo 19 = .ok (.iconst 2, 1) := by decide +kernel
theorem dL_moveTo_20 : decode cL_moveTo 20 = .ok (.ireturn, 1) := by decide +kernel
theorem dL_moveTo_21 : decode cL_moveTo 21 = .ok (.iconst 0, 1) := by decide +kernel
theorem dL_moveTo_22 : decode cL_moveTo 22 = .ok (.ireturn, 1) := by decide +kernel
theorem dL_buyCandles_0 : decode cL_buyCandles 0 = .ok (.aload_n 2, 1) := by decide +kernel
theorem dL_buyCandles_1 : decode cL_buyCandles 1 = .ok (.iconst 0, 1) := by decide +kernel
theorem dL_buyCandles_2 : decode cL_buyCandles 2 = .ok (.aload_n 0, 1) := by decide +kernel
theorem dL_buyCandles_3 : decode cL_buyCandles 3 = .ok (.iload_n 1, 1) := by decide +kernel
theorem dL_buyCandles_4 : decode cL_buyCandles 4 = .ok (.invokevirtual 101, 3) := by decide +kernel
theorem dL_buyCandles_7 : decode cL_buyCandles 7 = .ok (.i2l, 1) := by decide +kernel
theorem dL_buyCandles_8 : decode cL_buyCandles 8 = .ok (.lastore, 1) := by decide +kernel
theorem dL_buyCandles_9 : decode cL_buyCandles 9 = .ok (.goto 9, 3) := by decide +kernel
theorem dL_buyCandles_12 : decode cL_buyCandles 12 = .ok (.astore_n 3, 1) := by decide +kernel
theorem dL_buyCandles_13 : decode cL_buyCandles 13 = .ok (.iconst 1, 1) := by decide +kernel
theorem dL_buyCandles_14 : decode cL_buyCandles 14 = .ok (.ireturn, 1) := by decide +kernel
theorem dL_buyCandles_15 : decode cL_buyCandles 15 = .ok (.astore_n 3, 1) := by decide +kernel
theorem dL_buyCandles_16 : decode cL_buyCandles 16 = .ok (.iconst 2, 1) := by decide +kernel
theorem dL_buyCandles_17 : decode cL_buyCandles 17 = .ok (.ireturn, 1) := by decide +kernel
theorem dL_buyCandles_18 : decode cL_buyCandles 18 = .ok (.iconst 0, 1) := by decide +kernel
theorem dL_buyCandles_19 : decode cL_buyCandles 19 = .ok (.ireturn, 1) := by decide +kernel
theorem dL_bakeCakes_0 : decode cL_bakeCakes 0 = .ok (.aload_n 3, 1) := by decide +kernel
theorem dL_bakeCakes_1 : decode cL_bakeCakes 1 = .ok (.iconst 0, 1) := by decide +kernel
theorem dL_bakeCakes_2 : decode cL_bakeCakes 2 = .ok (.aload_n 0, 1) := by decide +kernel
theorem dL_bakeCakes_3 : decode cL_bakeCakes 3 = .ok (.iload_n 1, 1) := by decide +kernel
theorem dL_bakeCakes_4 : decode cL_bakeCakes 4 = .ok (.iload_n 2, 1) := by decide +kernel
theorem dL_bakeCakes_5 : decode cL_bakeCakes 5 = .ok (.invokevirtual 104, 3) := by decide +kernel
theorem dL_bakeCakes_8 : decode cL_bakeCakes 8 = .ok (.i2l, 1) := by decide +kernel
theorem dL_bakeCakes_9 : decode cL_bakeCakes 9 = .ok (.lastore, 1) := by decide +kernel
theorem dL_bakeCakes_10 : decode cL_bakeCakes 10 = .ok (.goto 11, 3) := by decide +kernel
theorem dL_bakeCakes_13 : decode cL_bakeCakes 13 = .ok (.astore 4, 2) := by decide +kernel
theorem dL_bakeCakes_15 : decode cL_bakeCakes 15 = .ok (.iconst 1, 1) := by decide +kernel
theorem dL_bakeCakes_16 : decode cL_bakeCakes 16 = .ok (.ireturn, 1) := by decide +kernel
theorem dL_bakeCakes_17 : decode cL_bakeCakes 17 = .ok (.astore 4, 2) := by decide +kernel
theorem dL_bakeCakes_19 : decode cL_bakeCakes 19 = .ok (.iconst 2, 1) := by decide +kernel
theorem dL_bakeCakes_20 : decode cL_bakeCakes 20 = .ok (.ireturn, 1) := by decide +kernel
theorem dL_bakeCakes_21 : decode cL_bakeCakes 21 = .ok (.iconst 0, 1) := by decide +kernel
theorem dL_bakeCakes_22 : decode cL_bakeCakes 22 = .ok (.ireturn, 1) := by decide +kernel
theorem dL_restore_0 : decode cL_restore 0 = .ok (.aload_n 2, 1) := by decide +kernel
theorem dL_restore_1 : decode cL_restore 1 = .ok (.iconst 0, 1) := by decide +kernel
theorem dL_restore_2 : decode cL_restore 2 = .ok (.aload_n 0, 1) := by decide +kernel
theorem dL_restore_3 : decode cL_restore 3 = .ok (.iload_n 1, 1) := by decide +kernel
theorem dL_restore_4 : decode cL_restore 4 = .ok (.invokevirtual 107, 3) := by decide +kernel
theorem dL_restore_7 : decode cL_restore 7 = .ok (.i2l, 1) := by decide +kernel
theorem dL_restore_8 : decode cL_restore 8 = .ok (.lastore, 1) := by decide +kernel
theorem dL_restore_9 : decode cL_restore 9 = .ok (.goto 9, 3) := by decide +kernel
theorem dL_restore_12 : decode cL_restore 12 = .ok (.astore_n 3, 1) := by decide +kernel
theorem dL_restore_13 : decode cL_restore 13 = .ok (.iconst 1, 1) := by decide +kernel
theorem dL_restore_14 : decode cL_restore 14 = .ok (.ireturn, 1) := by decide +kernel
theorem dL_restore_15 : decode cL_restore 15 = .ok (.astore_n 3, 1) := by decide +kernel
theorem dL_restore_16 : decode cL_restore 16 = .ok (.iconst 2, 1) := by decide +kernel
theorem dL_restore_17 : decode cL_restore 17 = .ok (.ireturn, 1) := by decide +kernel
theorem dL_restore_18 : decode cL_restore 18 = .ok (.iconst 0, 1) := by decide +kernel
theorem dL_restore_19 : decode cL_restore 19 = .ok (.ireturn, 1) := by decide +kernel
theorem dL_undo_0 : decode cL_undo 0 = .ok (.aload_n 1, 1) := by decide +kernel
theorem dL_undo_1 : decode cL_undo 1 = .ok (.iconst 0, 1) := by decide +kernel
theorem dL_undo_2 : decode cL_undo 2 = .ok (.aload_n 0, 1) := by decide +kernel
theorem dL_undo_3 : decode cL_undo 3 = .ok (.invokevirtual 110, 3) := by decide +kernel
theorem dL_undo_6 : decode cL_undo 6 = .ok (.i2l, 1) := by decide +kernel
theorem dL_undo_7 : decode cL_undo 7 = .ok (.lastore, 1) := by decide +kernel
theorem dL_undo_8 : decode cL_undo 8 = .ok (.goto 6, 3) := by decide +kernel
theorem dL_undo_11 : decode cL_undo 11 = .ok (.astore_n 2, 1) := by decide +kernel
theorem dL_undo_12 : decode cL_undo 12 = .ok (.iconst 1, 1) := by decide +kernel
theorem dL_undo_13 : decode cL_undo 13 = .ok (.ireturn, 1) := by decide +kernel
theorem dL_undo_14 : decode cL_undo 14 = .ok (.iconst 0, 1) := by decide +kernel
theorem dL_undo_15 : decode cL_undo 15 = .ok (.ireturn, 1) := by decide +kernel
theorem dL_save_0 : decode cL_save 0 = .ok (.aload_n 2, 1) := by decide +kernel
theorem dL_save_1 : decode cL_save 1 = .ok (.iconst 0, 1) := by decide +kernel
theorem dL_save_2 : decode cL_save 2 = .ok (.aload_n 0, 1) := by decide +kernel
theorem dL_save_3 : decode cL_save 3 = .ok (.iload_n 1, 1) := by decide +kernel
theorem dL_save_4 : decode cL_save 4 = .ok (.invokevirtual 114, 3) := by decide +kernel
theorem dL_save_7 : decode cL_save 7 = .ok (.i2l, 1) := by decide +kernel
theorem dL_save_8 : decode cL_save 8 = .ok (.lastore, 1) := by decide +kernel
theorem dL_save_9 : decode cL_save 9 = .ok (.goto 6, 3) := by decide +kernel
theorem dL_save_12 : decode cL_save 12 = .ok (.astore_n 3, 1) := by decide +kernel
theorem dL_save_13 : decode cL_save 13 = .ok (.iconst 1, 1) := by decide +kernel
theorem dL_save_14 : decode cL_save 14 = .ok (.ireturn, 1) := by decide +kernel
theorem dL_save_15 : decode cL_save 15 = .ok (.iconst 0, 1) := by decide +kernel
theorem dL_save_16 : decode cL_save 16 = .ok (.ireturn, 1) := by decide +kernel
theorem dL_writeChild_0 : decode cL_writeChild 0 = .ok (.aload_n 2, 1) := by decide +kernel
theorem dL_writeChild_1 : decode cL_writeChild 1 = .ok (.iconst 0, 1) := by decide +kernel
theorem dL_writeChild_2 : decode cL_writeChild 2 = .ok (.aload_n 0, 1) := by decide +kernel
theorem dL_writeChild_3 : decode cL_writeChild 3 = .ok (.iload_n 1, 1) := by decide +kernel
theorem dL_writeChild_4 : decode cL_writeChild 4 = .ok (.invokevirtual 117, 3) := by decide +kernel
theorem dL_writeChild_7 : decode cL_writeChild 7 = .ok (.i2l, 1) := by decide +kernel
theorem dL_writeChild_8 : decode cL_writeChild 8 = .ok (.lastore, 1) := by decide +kernel
theorem dL_writeChild_9 : decode cL_writeChild 9 = .ok (.goto 6, 3) := by decide +kernel
theorem dL_writeChild_12 : decode cL_writeChild 12 = .ok (.astore_n 3, 1) := by decide +kernel
theorem dL_writeChild_13 : decode cL_writeChild 13 = .ok (.iconst 1, 1) := by decide +kernel
theorem dL_writeChild_14 : decode cL_writeChild 14 = .ok (.ireturn, 1) := by decide +kernel
theorem dL_writeChild_15 : decode cL_writeChild 15 = .ok (.iconst 0, 1) := by decide +kernel
theorem dL_writeChild_16 : decode cL_writeChild 16 = .ok (.ireturn, 1) := by decide +kernel
theorem dL_outputByte_0 : decode cL_outputByte 0 = .ok (.aload_n 2, 1) := by decide +kernel
theorem dL_outputByte_1 : decode cL_outputByte 1 = .ok (.iconst 0, 1) := by decide +kernel
theorem dL_outputByte_2 : decode cL_outputByte 2 = .ok (.aload_n 0, 1) := by decide +kernel
theorem dL_outputByte_3 : decode cL_outputByte 3 = .ok (.iload_n 1, 1) := by decide +kernel
theorem dL_outputByte_4 : decode cL_outputByte 4 = .ok (.invokevirtual 120, 3) := by decide +kernel
theorem dL_outputByte_7 : decode cL_outputByte 7 = .ok (.i2l, 1) := by decide +kernel
theorem dL_outputByte_8 : decode cL_outputByte 8 = .ok (.lastore, 1) := by decide +kernel
theorem dL_outputByte_9 : decode cL_outputByte 9 = .ok (.goto 6, 3) := by decide +kernel
theorem dL_outputByte_12 : decode cL_outputByte 12 = .ok (.astore_n 3, 1) := by decide +kernel
theorem dL_outputByte_13 : decode cL_outputByte 13 = .ok (.iconst 1, 1) := by decide +kernel
theorem dL_outputByte_14 : decode cL_outputByte 14 = .ok (.ireturn, 1) := by decide +kernel
theorem dL_outputByte_15 : decode cL_outputByte 15 = .ok (.iconst 0, 1) := by decide +kernel
theorem dL_outputByte_16 : decode cL_outputByte 16 = .ok (.ireturn, 1) := by decide +kernel
