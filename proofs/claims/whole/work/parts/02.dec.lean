theorem dX0_init_0 : decode cX0_init 0 = .ok (.aload_n 0, 1) := by decide +kernel
theorem dX0_init_1 : decode cX0_init 1 = .ok (.invokespecial 3, 3) := by decide +kernel
theorem dX0_init_4 : decode cX0_init 4 = .ok (.aload_n 0, 1) := by decide +kernel
theorem dX0_init_5 : decode cX0_init 5 = .ok (.iconst 4, 1) := by decide +kernel
theorem dX0_init_6 : decode cX0_init 6 = .ok (.anewarray 9, 3) := by decide +kernel
theorem dX0_init_9 : decode cX0_init 9 = .ok (.putfield 11, 3) := by decide +kernel
theorem dX0_init_12 : decode cX0_init 12 = .ok (.aload_n 0, 1) := by decide +kernel
theorem dX0_init_13 : decode cX0_init 13 = .ok (.bipush 12, 2) := by decide +kernel
theorem dX0_init_15 : decode cX0_init 15 = .ok (.newarray .int, 2) := by decide +kernel
theorem dX0_init_17 : decode cX0_init 17 = .ok (.putfield 17, 3) := by decide +kernel
theorem dX0_init_20 : decode cX0_init 20 = .ok (.aload_n 0, 1) := by decide +kernel
theorem dX0_init_21 : decode cX0_init 21 = .ok (.bipush 12, 2) := by decide +kernel
theorem dX0_init_23 : decode cX0_init 23 = .ok (.newarray .int, 2) := by decide +kernel
theorem dX0_init_25 : decode cX0_init 25 = .ok (.putfield 21, 3) := by decide +kernel
theorem dX0_init_28 : decode cX0_init 28 = .ok (.aload_n 0, 1) := by decide +kernel
theorem dX0_init_29 : decode cX0_init 29 = .ok (.bipush 8, 2) := by decide +kernel
theorem dX0_init_31 : decode cX0_init 31 = .ok (.putfield 24, 3) := by decide +kernel
theorem dX0_init_34 : decode cX0_init 34 = .ok (.aload_n 0, 1) := by decide +kernel
theorem dX0_init_35 : decode cX0_init 35 = .ok (.iconst 4, 1) := by decide +kernel
theorem dX0_init_36 : decode cX0_init 36 = .ok (.putfield 28, 3) := by decide +kernel
theorem dX0_init_39 : decode cX0_init 39 = .ok (.iconst 0, 1) := by decide +kernel
theorem dX0_init_40 : decode cX0_init 40 = .ok (.istore_n 1, 1) := by decide +kernel
theorem dX0_init_41 : decode cX0_init 41 = .ok (.iload_n 1, 1) := by decide +kernel
theorem dX0_init_42 : decode cX0_init 42 = .ok (.aload_n 0, 1) := by decide +kernel
theorem dX0_init_43 : decode cX0_init 43 = .ok (.getfield 11, 3) := by decide +kernel
theorem dX0_init_46 : decode cX0_init 46 = .ok (.arraylength, 1) := by decide +kernel
theorem dX0_init_47 : decode cX0_init 47 = .ok (.if_icmp .ge 22, 3) := by decide +kernel
theorem dX0_init_50 : decode cX0_init 50 = .ok (.aload_n 0, 1) := by decide +kernel
theorem dX0_init_51 : decode cX0_init 51 = .ok (.getfield 11, 3) := by decide +kernel
theorem dX0_init_54 : decode cX0_init 54 = .ok (.iload_n 1, 1) := by decide +kernel
theorem dX0_init_55 : decode cX0_init 55 = .ok (.new 9, 3) := by decide +kernel
theorem dX0_init_58 : decode cX0_init 58 = .ok (.dup, 1) := by decide +kernel
theorem dX0_init_59 : decode cX0_init 59 = .ok (.invokespecial 31, 3) := by decide +kernel
theorem dX0_init_62 : decode cX0_init 62 = .ok (.aastore, 1) := by decide +kernel
theorem dX0_init_63 : decode cX0_init 63 = .ok (.iinc 1 1, 3) := by decide +kernel
theorem dX0_init_66 : decode cX0_init 66 = .ok (.goto (-25), 3) := by decide +kernel
theorem dX0_init_69 : decode cX0_init 69 = .ok (.return_, 1) := by decide +kernel
theorem dX0_clear_0 : decode cX0_clear 0 = .ok (.aload_n 0, 1) := by decide +kernel
theorem dX0_clear_1 : decode cX0_clear 1 = .ok (.iconst 0, 1) := by decide +kernel
theorem dX0_clear_2 : decode cX0_clear 2 = .ok (.putfield 32, 3) := by decide +kernel
theorem dX0_clear_5 : decode cX0_clear 5 = .ok (.aload_n 0, 1) := by decide +kernel
theorem dX0_clear_6 : decode cX0_clear 6 = .ok (.iconst 0, 1) := by decide +kernel
theorem dX0_clear_7 : decode cX0_clear 7 = .ok (.putfield 35, 3) := by decide +kernel
theorem dX0_clear_10 : decode cX0_clear 10 = .ok (.aload_n 0, 1) := by decide +kernel
theorem dX0_clear_11 : decode cX0_clear 11 = .ok (.iconst 0, 1) := by decide +kernel
theorem dX0_clear_12 : decode cX0_clear 12 = .ok (.putfield 38, 3) := by decide +kernel
theorem dX0_clear_15 : decode cX0_clear 15 = .ok (.aload_n 0, 1) := by decide +kernel
theorem dX0_clear_16 : decode cX0_clear 16 = .ok (.bipush 8, 2) := by decide +kernel
theorem dX0_clear_18 : decode cX0_clear 18 = .ok (.putfield 24, 3) := by decide +kernel
theorem dX0_clear_21 : decode cX0_clear 21 = .ok (.aload_n 0, 1) := by decide +kernel
theorem dX0_clear_22 : decode cX0_clear 22 = .ok (.iconst 4, 1) := by decide +kernel
theorem dX0_clear_23 : decode cX0_clear 23 = .ok (.putfield 28, 3) := by decide +kernel
theorem dX0_clear_26 : decode cX0_clear 26 = .ok (.return_, 1) := by decide +kernel
theorem dX0_become_0 : decode cX0_become 0 = .ok (.aload_n 0, 1) := by decide +kernel
theorem dX0_become_1 : decode cX0_become 1 = .ok (.aload_n 1, 1) := by decide +kernel
theorem dX0_become_2 : decode cX0_become 2 = .ok (.getfield 32, 3) := by decide +kernel
theorem dX0_become_5 : decode cX0_become 5 = .ok (.putfield 32, 3) := by decide +kernel
theorem dX0_become_8 : decode cX0_become 8 = .ok (.aload_n 0, 1) := by decide +kernel
theorem dX0_become_9 : decode cX0_become 9 = .ok (.aload_n 1, 1) := by decide +kernel
theorem dX0_become_10 : decode cX0_become 10 = .ok (.getfield 35, 3) := by decide +kernel
theorem dX0_become_13 : decode cX0_become 13 = .ok (.putfield 35, 3) := by decide +kernel
theorem dX0_become_16 : decode cX0_become 16 = .ok (.aload_n 0, 1) := by decide +kernel
theorem dX0_become_17 : decode cX0_become 17 = .ok (.aload_n 1, 1) := by decide +kernel
theorem dX0_become_18 : decode cX0_become 18 = .ok (.getfield 38, 3) := by decide +kernel
theorem dX0_become_21 : decode cX0_become 21 = .ok (.putfield 38, 3) := by decide +kernel
theorem dX0_become_24 : decode cX0_become 24 = .ok (.aload_n 0, 1) := by decide +kernel
theorem dX0_become_25 : decode cX0_become 25 = .ok (.aload_n 1, 1) := by decide +kernel
theorem dX0_become_26 : decode cX0_become 26 = .ok (.getfield 24, 3) := by decide +kernel
theorem dX0_become_29 : decode cX0_become 29 = .ok (.putfield 24, 3) := by decide +kernel
theorem dX0_become_32 : decode cX0_become 32 = .ok (.aload_n 0, 1) := by decide +kernel
theorem dX0_become_33 : decode cX0_become 33 = .ok (.aload_n 1, 1) := by decide +kernel
theorem dX0_become_34 : decode cX0_become 34 = .ok (.getfield 28, 3) := by decide +kernel
theorem dX0_become_37 : decode cX0_become 37 = .ok (.putfield 28, 3) := by decide +kernel
theorem dX0_become_40 : decode cX0_become 40 = .ok (.iconst 0, 1) := by decide +kernel
theorem dX0_become_41 : decode cX0_become 41 = .ok (.istore_n 2, 1) := by decide +kernel
theorem dX0_become_42 : decode cX0_become 42 = .ok (.iload_n 2, 1) := by decide +kernel
theorem dX0_become_43 : decode cX0_become 43 = .ok (.aload_n 0, 1) := by decide +kernel
theorem dX0_become_44 : decode cX0_become 44 = .ok (.getfield 32, 3) := by decide +kernel
theorem dX0_become_47 : decode cX0_become 47 = .ok (.if_icmp .ge 24, 3) := by decide +kernel
theorem dX0_become_50 : decode cX0_become 50 = .ok (.aload_n 0, 1) := by decide +kernel
theorem dX0_become_51 : decode cX0_become 51 = .ok (.getfield 11, 3) := by decide +kernel
theorem dX0_become_54 : decode cX0_become 54 = .ok (.iload_n 2, 1) := by decide +kernel
theorem dX0_become_55 : decode cX0_become 55 = .ok (.aaload, 1) := by decide +kernel
theorem dX0_become_56 : decode cX0_become 56 = .ok (.aload_n 1, 1) := by decide +kernel
theorem dX0_become_57 : decode cX0_become 57 = .ok (.getfield 11, 3) := by decide +kernel
theorem dX0_become_60 : decode cX0_become 60 = .ok (.iload_n 2, 1) := by decide +kernel
theorem dX0_become_61 : decode cX0_become 61 = .ok (.aaload, 1) := by decide +kernel
theorem dX0_become_62 : decode cX0_become 62 = .ok (.invokevirtual 41, 3) := by decide +kernel
theorem dX0_become_65 : decode cX0_become 65 = .ok (.iinc 2 1, 3) := by decide +kernel
theorem dX0_become_68 : decode cX0_become 68 = .ok (.goto (-26), 3) := by decide +kernel
theorem dX0_become_71 : decode cX0_become 71 = .ok (.iconst 0, 1) := by decide +kernel
theorem dX0_become_72 : decode cX0_become 72 = .ok (.istore_n 2, 1) := by decide +kernel
theorem dX0_become_73 : decode cX0_become 73 = .ok (.iload_n 2, 1) := by decide +kernel
theorem dX0_become_74 : decode cX0_become 74 = .ok (.aload_n 0, 1) := by decide +kernel
theorem dX0_become_75 : decode cX0_become 75 = .ok (.getfield 35, 3) := by decide +kernel
theorem dX0_become_78 : decode cX0_become 78 = .ok (.if_icmp .ge 33, 3) := by decide +kernel
theorem dX0_become_81 : decode cX0_become 81 = .ok (.aload_n 0, 1) := by decide +kernel
theorem dX0_become_82 : decode cX0_become 82 = .ok (.getfield 17, 3) := by decide +kernel
theorem dX0_become_85 : decode cX0_become 85 = .ok (.iload_n 2, 1) := by decide +kernel
theorem dX0_become_86 : decode cX0_become 86 = .ok (.aload_n 1, 1) := by decide +kernel
theorem dX0_become_87 : decode cX0_become 87 = .ok (.getfield 17, 3) := by decide +kernel
theorem dX0_become_90 : decode cX0_become 90 = .ok (.iload_n 2, 1) := by decide +kernel
theorem dX0_become_91 : decode cX0_become 91 = .ok (.iaload, 1) := by decide +kernel
theorem dX0_become_92 : decode cX0_become 92 = .ok (.iastore, 1) := by decide +kernel
theorem dX0_become_93 : decode cX0_become 93 = .ok (.aload_n 0, 1) := by decide +kernel
theorem dX0_become_94 : decode cX0_become 94 = .ok (.getfield 21, 3) := by decide +kernel
theorem dX0_become_97 : decode cX0_become 97 = .ok (.iload_n 2, 1) := by decide +kernel
theorem dX0_become_98 : decode cX0_become 98 = .ok (.aload_n 1, 1) := by decide +kernel
theorem dX0_become_99 : decode cX0_become 99 = .ok (.getfield 21, 3) := by decide +kernel
theorem dX0_become_102 : decode cX0_become 102 = .ok (.iload_n 2, 1) := by decide +kernel
theorem dX0_become_103 : decode cX0_become 103 = .ok (.iaload, 1) := by decide +kernel
theorem dX0_become_104 : decode cX0_become 104 = .ok (.iastore, 1) := by decide +kernel
theorem dX0_become_105 : decode cX0_become 105 = .ok (.iinc 2 1, 3) := by decide +kernel
theorem dX0_become_108 : decode cX0_become 108 = .ok (.goto (-35), 3) := by decide +kernel
theorem dX0_become_111 : decode cX0_become 111 = .ok (.return_, 1) := by decide +kernel
theorem dX0_takeMoods_0 : decode cX0_takeMoods 0 = .ok (.iconst 0, 1) := by decide +kernel
theorem dX0_takeMoods_1 : decode cX0_takeMoods 1 = .ok (.istore_n 2, 1) := by decide +kernel
theorem dX0_takeMoods_2 : decode cX0_takeMoods 2 = .ok (.iload_n 2, 1) := by decide +kernel
theorem dX0_takeMoods_3 : decode cX0_takeMoods 3 = .ok (.aload_n 0, 1) := by decide +kernel
theorem dX0_takeMoods_4 : decode cX0_takeMoods 4 = .ok (.getfield 32, 3) := by decide +kernel
theorem dX0_takeMoods_7 : decode cX0_takeMoods 7 = .ok (.if_icmp .ge 24, 3) := by decide +kernel
theorem dX0_takeMoods_10 : decode cX0_takeMoods 10 = .ok (.aload_n 0, 1) := by decide +kernel
theorem dX0_takeMoods_11 : decode cX0_takeMoods 11 = .ok (.getfield 11, 3) := by decide +kernel
theorem dX0_takeMoods_14 : decode cX0_takeMoods 14 = .ok (.iload_n 2, 1) := by decide +kernel
theorem dX0_takeMoods_15 : decode cX0_takeMoods 15 = .ok (.aaload, 1) := by decide +kernel
theorem dX0_takeMoods_16 : decode cX0_takeMoods 16 = .ok (.aload_n 1, 1) := by decide +kernel
theorem dX0_takeMoods_17 : decode cX0_takeMoods 17 = .ok (.getfield 11, 3) := by decide +kernel
theorem dX0_takeMoods_20 : decode cX0_takeMoods 20 = .ok (.iload_n 2, 1) := by decide +kernel
theorem dX0_takeMoods_21 : decode cX0_takeMoods 21 = .ok (.aaload, 1) := by decide +kernel
theorem dX0_takeMoods_22 : decode cX0_takeMoods 22 = .ok (.invokevirtual 45, 3) := by decide +kernel
theorem dX0_takeMoods_25 : decode cX0_takeMoods 25 = .ok (.iinc 2 1, 3) := by decide +kernel
theorem dX0_takeMoods_28 : decode cX0_takeMoods 28 = .ok (.goto (-26), 3) := by decide +kernel
theorem dX0_takeMoods_31 : decode cX0_takeMoods 31 = .ok (.return_, 1) := by decide +kernel
theorem dX0_hasVent_0 : decode cX0_hasVent 0 = .ok (.iload_n 1, 1) := by decide +kernel
theorem dX0_hasVent_1 : decode cX0_hasVent 1 = .ok (.ifCond .lt 15, 3) := by decide +kernel
theorem dX0_hasVent_4 : decode cX0_hasVent 4 = .ok (.iload_n 1, 1) := by decide +kernel
theorem dX0_hasVent_5 : decode cX0_hasVent 5 = .ok (.aload_n 0, 1) := by decide +kernel
theorem dX0_hasVent_6 : decode cX0_hasVent 6 = .ok (.getfield 32, 3) := by decide +kernel
theorem dX0_hasVent_9 : decode cX0_hasVent 9 = .ok (.if_icmp .ge 7, 3) := by decide +kernel
theorem dX0_hasVent_12 : decode cX0_hasVent 12 = .ok (.iconst 1, 1) := by decide +kernel
theorem dX0_hasVent_13 : decode cX0_hasVent 13 = .ok (.goto 4, 3) := by decide +kernel
theorem dX0_hasVent_16 : decode cX0_hasVent 16 = .ok (.iconst 0, 1) := by decide +kernel
theorem dX0_hasVent_17 : decode cX0_hasVent 17 = .ok (.ireturn, 1) := by decide +kernel
theorem dX0_hasRow_0 : decode cX0_hasRow 0 = .ok (.iload_n 1, 1) := by decide +kernel
theorem dX0_hasRow_1 : decode cX0_hasRow 1 = .ok (.ifCond .lt 15, 3) := by decide +kernel
theorem dX0_hasRow_4 : decode cX0_hasRow 4 = .ok (.iload_n 1, 1) := by decide +kernel
theorem dX0_hasRow_5 : decode cX0_hasRow 5 = .ok (.aload_n 0, 1) := by decide +kernel
theorem dX0_hasRow_6 : decode cX0_hasRow 6 = .ok (.getfield 35, 3) := by decide +kernel
theorem dX0_hasRow_9 : decode cX0_hasRow 9 = .ok (.if_icmp .ge 7, 3) := by decide +kernel
theorem dX0_hasRow_12 : decode cX0_hasRow 12 = .ok (.iconst 1, 1) := by decide +kernel
theorem dX0_hasRow_13 : decode cX0_hasRow 13 = .ok (.goto 4, 3) := by decide +kernel
theorem dX0_hasRow_16 : decode cX0_hasRow 16 = .ok (.iconst 0, 1) := by decide +kernel
theorem dX0_hasRow_17 : decode cX0_hasRow 17 = .ok (.ireturn, 1) := by decide +kernel
theorem dX0_moreVents_0 : decode cX0_moreVents 0 = .ok (.aload_n 0, 1) := by decide +kernel
theorem dX0_moreVents_1 : decode cX0_moreVents 1 = .ok (.getfield 32, 3) := by decide +kernel
theorem dX0_moreVents_4 : decode cX0_moreVents 4 = .ok (.iconst 4, 1) := by decide +kernel
theorem dX0_moreVents_5 : decode cX0_moreVents 5 = .ok (.if_icmp .lt 5, 3) := by decide +kernel
theorem dX0_moreVents_8 : decode cX0_moreVents 8 = .ok (.iconst 0, 1) := by decide +kernel
theorem dX0_moreVents_9 : decode cX0_moreVents 9 = .ok (.ireturn, 1) := by decide +kernel
theorem dX0_moreVents_10 : decode cX0_moreVents 10 = .ok (.aload_n 0, 1) := by decide +kernel
theorem dX0_moreVents_11 : decode cX0_moreVents 11 = .ok (.getfield 11, 3) := by decide +kernel
theorem dX0_moreVents_14 : decode cX0_moreVents 14 = .ok (.aload_n 0, 1) := by decide +kernel
theorem dX0_moreVents_15 : decode cX0_moreVents 15 = .ok (.getfield 32, 3) := by decide +kernel
theorem dX0_moreVents_18 : decode cX0_moreVents 18 = .ok (.aaload, 1) := by decide +kernel
theorem dX0_moreVents_19 : decode cX0_moreVents 19 = .ok (.iload_n 1, 1) := by decide +kernel
theorem dX0_moreVents_20 : decode cX0_moreVents 20 = .ok (.iload_n 2, 1) := by decide +kernel
theorem dX0_moreVents_21 : decode cX0_moreVents 21 = .ok (.iload_n 3, 1) := by decide +kernel
theorem dX0_moreVents_22 : decode cX0_moreVents 22 = .ok (.invokevirtual 48, 3) := by decide +kernel
theorem dX0_moreVents_25 : decode cX0_moreVents 25 = .ok (.aload_n 0, 1) := by decide +kernel
theorem dX0_moreVents_26 : decode cX0_moreVents 26 = .ok (.dup, 1) := by decide +kernel
theorem dX0_moreVents_27 : decode cX0_moreVents 27 = .ok (.getfield 32, 3) := by decide +kernel
theorem dX0_moreVents_30 : decode cX0_moreVents 30 = .ok (.iconst 1, 1) := by decide +kernel
theorem dX0_moreVents_31 : decode cX0_moreVents 31 = .ok (.iadd, 1) := by decide +kernel
theorem dX0_moreVents_32 : decode cX0_moreVents 32 = .ok (.putfield 32, 3) := by decide +kernel
theorem dX0_moreVents_35 : decode cX0_moreVents 35 = .ok (.iconst 1, 1) := by decide +kernel
theorem dX0_moreVents_36 : decode cX0_moreVents 36 = .ok (.ireturn, 1) := by decide +kernel
theorem dX0_moreRows_0 : decode cX0_moreRows 0 = .ok (.aload_n 0, 1) := by decide +kernel
theorem dX0_moreRows_1 : decode cX0_moreRows 1 = .ok (.getfield 35, 3) := by decide +kernel
theorem dX0_moreRows_4 : decode cX0_moreRows 4 = .ok (.bipush 12, 2) := by decide +kernel
theorem dX0_moreRows_6 : decode cX0_moreRows 6 = .ok (.if_icmp .lt 5, 3) := by decide +kernel
theorem dX0_moreRows_9 : decode cX0_moreRows 9 = .ok (.iconst 0, 1) := by decide +kernel
theorem dX0_moreRows_10 : decode cX0_moreRows 10 = .ok (.ireturn, 1) := by decide +kernel
theorem dX0_moreRows_11 : decode cX0_moreRows 11 = .ok (.aload_n 0, 1) := by decide +kernel
theorem dX0_moreRows_12 : decode cX0_moreRows 12 = .ok (.getfield 17, 3) := by decide +kernel
theorem dX0_moreRows_15 : decode cX0_moreRows 15 = .ok (.aload_n 0, 1) := by decide +kernel
theorem dX0_moreRows_16 : decode cX0_moreRows 16 = .ok (.getfield 35, 3) := by decide +kernel
theorem dX0_moreRows_19 : decode cX0_moreRows 19 = .ok (.iload_n 1, 1) := by decide +kernel
theorem dX0_moreRows_20 : decode cX0_moreRows 20 = .ok (.iastore, 1) := by decide +kernel
theorem dX0_moreRows_21 : decode cX0_moreRows 21 = .ok (.aload_n 0, 1) := by decide +kernel
theorem dX0_moreRows_22 : decode cX0_moreRows 22 = .ok (.getfield 21, 3) := by decide +kernel
theorem dX0_moreRows_25 : decode cX0_moreRows 25 = .ok (.aload_n 0, 1) := by decide +kernel
theorem dX0_moreRows_26 : decode cX0_moreRows 26 = .ok (.getfield 35, 3) := by decide +kernel
theorem dX0_moreRows_29 : decode cX0_moreRows 29 = .ok (.iload_n 2, 1) := by decide +kernel
theorem dX0_moreRows_30 : decode cX0_moreRows 30 = .ok (.iastore, 1) := by decide +kernel
theorem dX0_moreRows_31 : decode cX0_moreRows 31 = .ok (.aload_n 0, 1) := by decide +kernel
theorem dX0_moreRows_32 : decode cX0_moreRows 32 = .ok (.dup, 1) := by decide +kernel
theorem dX0_moreRows_33 : decode cX0_moreRows 33 = .ok (.getfield 35, 3) := by decide +kernel
theorem dX0_moreRows_36 : decode cX0_moreRows 36 = .ok (.iconst 1, 1) := by decide +kernel
theorem dX0_moreRows_37 : decode cX0_moreRows 37 = .ok (.iadd, 1) := by decide +kernel
theorem dX0_moreRows_38 : decode cX0_moreRows 38 = .ok (.putfield 35, 3) := by decide +kernel
theorem dX0_moreRows_41 : decode cX0_moreRows 41 = .ok (.iconst 1, 1) := by decide +kernel
theorem dX0_moreRows_42 : decode cX0_moreRows 42 = .ok (.ireturn, 1) := by decide +kernel
theorem dX0_exchange_0 : decode cX0_exchange 0 = .ok (.aload_n 0, 1) := by decide +kernel
theorem dX0_exchange_1 : decode cX0_exchange 1 = .ok (.iload_n 1, 1) := by decide +kernel
theorem dX0_exchange_2 : decode cX0_exchange 2 = .ok (.invokevirtual 52, 3) := by decide +kernel
theorem dX0_exchange_5 : decode cX0_exchange 5 = .ok (.ifCond .eq 65, 3) := by decide +kernel
theorem dX0_exchange_8 : decode cX0_exchange 8 = .ok (.aload_n 0, 1) := by decide +kernel
theorem dX0_exchange_9 : decode cX0_exchange 9 = .ok (.iload_n 2, 1) := by decide +kernel
theorem dX0_exchange_10 : decode cX0_exchange 10 = .ok (.invokevirtual 52, 3) := by decide +kernel
theorem dX0_exchange_13 : decode cX0_exchange 13 = .ok (.ifCond .eq 57, 3) := by decide +kernel
theorem dX0_exchange_16 : decode cX0_exchange 16 = .ok (.aload_n 0, 1) := by decide +kernel
theorem dX0_exchange_17 : decode cX0_exchange 17 = .ok (.getfield 17, 3) := by decide +kernel
theorem dX0_exchange_20 : decode cX0_exchange 20 = .ok (.iload_n 1, 1) := by decide +kernel
theorem dX0_exchange_21 : decode cX0_exchange 21 = .ok (.iaload, 1) := by decide +kernel
theorem dX0_exchange_22 : decode cX0_exchange 22 = .ok (.istore_n 3, 1) := by decide +kernel
theorem dX0_exchange_23 : decode cX0_exchange 23 = .ok (.aload_n 0, 1) := by decide +kernel
theorem dX0_exchange_24 : decode cX0_exchange 24 = .ok (.getfield 21, 3) := by decide +kernel
theorem dX0_exchange_27 : decode cX0_exchange 27 = .ok (.iload_n 1, 1) := by decide +kernel
theorem dX0_exchange_28 : decode cX0_exchange 28 = .ok (.iaload, 1) := by decide +kernel
theorem dX0_exchange_29 : decode cX0_exchange 29 = .ok (.istore 4, 2) := by decide +kernel
theorem dX0_exchange_31 : decode cX0_exchange 31 = .ok (.aload_n 0, 1) := by decide +kernel
theorem dX0_exchange_32 : decode cX0_exchange 32 = .ok (.getfield 17, 3) := by decide +kernel
theorem dX0_exchange_35 : decode cX0_exchange 35 = .ok (.iload_n 1, 1) := by decide +kernel
theorem dX0_exchange_36 : decode cX0_exchange 36 = .ok (.aload_n 0, 1) := by decide +kernel
theorem dX0_exchange_37 : decode cX0_exchange 37 = .ok (.getfield 17, 3) := by decide +kernel
theorem dX0_exchange_40 : decode cX0_exchange 40 = .ok (.iload_n 2, 1) := by decide +kernel
theorem dX0_exchange_41 : decode cX0_exchange 41 = .ok (.iaload, 1) := by decide +kernel
theorem dX0_exchange_42 : decode cX0_exchange 42 = .ok (.iastore, 1) := by decide +kernel
theorem dX0_exchange_43 : decode cX0_exchange 43 = .ok (.aload_n 0, 1) := by decide +kernel
theorem dX0_exchange_44 : decode cX0_exchange 44 = .ok (.getfield 21, 3) := by decide +kernel
theorem dX0_exchange_47 : decode cX0_exchange 47 = .ok (.iload_n 1, 1) := by decide +kernel
theorem dX0_exchange_48 : decode cX0_exchange 48 = .ok (.aload_n 0, 1) := by decide +kernel
theorem dX0_exchange_49 : decode cX0_exchange 49 = .ok (.getfield 21, 3) := by decide +kernel
theorem dX0_exchange_52 : decode cX0_exchange 52 = .ok (.iload_n 2, 1) := by decide +kernel
theorem dX0_exchange_53 : decode cX0_exchange 53 = .ok (.iaload, 1) := by decide +kernel
theorem dX0_exchange_54 : decode cX0_exchange 54 = .ok (.iastore, 1) := by decide +kernel
theorem dX0_exchange_55 : decode cX0_exchange 55 = .ok (.aload_n 0, 1) := by decide +kernel
theorem dX0_exchange_56 : decode cX0_exchange 56 = .ok (.getfield 17, 3) := by decide +kernel
theorem dX0_exchange_59 : decode cX0_exchange 59 = .ok (.iload_n 2, 1) := by decide +kernel
theorem dX0_exchange_60 : decode cX0_exchange 60 = .ok (.iload_n 3, 1) := by decide +kernel
theorem dX0_exchange_61 : decode cX0_exchange 61 = .ok (.iastore, 1) := by decide +kernel
theorem dX0_exchange_62 : decode cX0_exchange 62 = .ok (.aload_n 0, 1) := by decide +kernel
theorem dX0_exchange_63 : decode cX0_exchange 63 = .ok (.getfield 21, 3) := by decide +kernel
theorem dX0_exchange_66 : decode cX0_exchange 66 = .ok (.iload_n 2, 1) := by decide +kernel
theorem dX0_exchange_67 : decode cX0_exchange 67 = .ok (.iload 4, 2) := by decide +kernel
theorem dX0_exchange_69 : decode cX0_exchange 69 = .ok (.iastore, 1) := by decide +kernel
theorem dX0_exchange_70 : decode cX0_exchange 70 = .ok (.return_, 1) := by decide +kernel
theorem dX0_choice_0 : decode cX0_choice 0 = .ok (.iload_n 1, 1) := by decide +kernel
theorem dX0_choice_1 : decode cX0_choice 1 = .ok (.aload_n 0, 1) := by decide +kernel
theorem dX0_choice_2 : decode cX0_choice 2 = .ok (.getfield 32, 3) := by decide +kernel
theorem dX0_choice_5 : decode cX0_choice 5 = .ok (.if_icmp .ge 7, 3) := by decide +kernel
theorem dX0_choice_8 : decode cX0_choice 8 = .ok (.iload_n 1, 1) := by decide +kernel
theorem dX0_choice_9 : decode cX0_choice 9 = .ok (.goto 4, 3) := by decide +kernel
theorem dX0_choice_12 : decode cX0_choice 12 = .ok (.iconst 4, 1) := by decide +kernel
theorem dX0_choice_13 : decode cX0_choice 13 = .ok (.ireturn, 1) := by decide +kernel
theorem dX0_shareOf_0 : decode cX0_shareOf 0 = .ok (.aload_n 0, 1) := by decide +kernel
theorem dX0_shareOf_1 : decode cX0_shareOf 1 = .ok (.getfield 32, 3) := by decide +kernel
theorem dX0_shareOf_4 : decode cX0_shareOf 4 = .ok (.ifCond .gt 5, 3) := by decide +kernel
theorem dX0_shareOf_7 : decode cX0_shareOf 7 = .ok (.iconst 0, 1) := by decide +kernel
theorem dX0_shareOf_8 : decode cX0_shareOf 8 = .ok (.ireturn, 1) := by decide +kernel
theorem dX0_shareOf_9 : decode cX0_shareOf 9 = .ok (.aload_n 0, 1) := by decide +kernel
theorem dX0_shareOf_10 : decode cX0_shareOf 10 = .ok (.getfield 24, 3) := by decide +kernel
theorem dX0_shareOf_13 : decode cX0_shareOf 13 = .ok (.aload_n 0, 1) := by decide +kernel
theorem dX0_shareOf_14 : decode cX0_shareOf 14 = .ok (.getfield 32, 3) := by decide +kernel
theorem dX0_shareOf_17 : decode cX0_shareOf 17 = .ok (.idiv, 1) := by decide +kernel
theorem dX0_shareOf_18 : decode cX0_shareOf 18 = .ok (.iload_n 1, 1) := by decide +kernel
theorem dX0_shareOf_19 : decode cX0_shareOf 19 = .ok (.aload_n 0, 1) := by decide +kernel
theorem dX0_shareOf_20 : decode cX0_shareOf 20 = .ok (.getfield 24, 3) := by decide +kernel
theorem dX0_shareOf_23 : decode cX0_shareOf 23 = .ok (.aload_n 0, 1) := by decide +kernel
theorem dX0_shareOf_24 : decode cX0_shareOf 24 = .ok (.getfield 32, 3) := by decide +kernel
theorem dX0_shareOf_27 : decode cX0_shareOf 27 = .ok (.irem, 1) := by decide +kernel
theorem dX0_shareOf_28 : decode cX0_shareOf 28 = .ok (.if_icmp .ge 7, 3) := by decide +kernel
theorem dX0_shareOf_31 : decode cX0_shareOf 31 = .ok (.iconst 1, 1) := by decide +kernel
theorem dX0_shareOf_32 : decode cX0_shareOf 32 = .ok (.goto 4, 3) := by decide +kernel
theorem dX0_shareOf_35 : decode cX0_shareOf 35 = .ok (.iconst 0, 1) := by decide +kernel
theorem dX0_shareOf_36 : decode cX0_shareOf 36 = .ok (.iadd, 1) := by decide +kernel
theorem dX0_shareOf_37 : decode cX0_shareOf 37 = .ok (.ireturn, 1) := by decide +kernel
theorem dX0_turn_0 : decode cX0_turn 0 = .ok (.aload_n 0, 1) := by decide +kernel
theorem dX0_turn_1 : decode cX0_turn 1 = .ok (.getfield 35, 3) := by decide +kernel
theorem dX0_turn_4 : decode cX0_turn 4 = .ok (.ifCond .le 15, 3) := by decide +kernel
theorem dX0_turn_7 : decode cX0_turn 7 = .ok (.aload_n 0, 1) := by decide +kernel
theorem dX0_turn_8 : decode cX0_turn 8 = .ok (.getfield 38, 3) := by decide +kernel
theorem dX0_turn_11 : decode cX0_turn 11 = .ok (.aload_n 0, 1) := by decide +kernel
theorem dX0_turn_12 : decode cX0_turn 12 = .ok (.getfield 35, 3) := by decide +kernel
theorem dX0_turn_15 : decode cX0_turn 15 = .ok (.irem, 1) := by decide +kernel
theorem dX0_turn_16 : decode cX0_turn 16 = .ok (.goto 5, 3) := by decide +kernel
theorem dX0_turn_19 : decode cX0_turn 19 = .ok (.bipush (-4), 2) := by decide +kernel
theorem dX0_turn_21 : decode cX0_turn 21 = .ok (.ireturn, 1) := by decide +kernel
theorem dX0_watchersNow_0 : decode cX0_watchersNow 0 = .ok (.aload_n 0, 1) := by decide +kernel
theorem dX0_watchersNow_1 : decode cX0_watchersNow 1 = .ok (.invokevirtual 56, 3) := by decide +kernel
theorem dX0_watchersNow_4 : decode cX0_watchersNow 4 = .ok (.istore_n 1, 1) := by decide +kernel
theorem dX0_watchersNow_5 : decode cX0_watchersNow 5 = .ok (.aload_n 0, 1) := by decide +kernel
theorem dX0_watchersNow_6 : decode cX0_watchersNow 6 = .ok (.iload_n 1, 1) := by decide +kernel
theorem dX0_watchersNow_7 : decode cX0_watchersNow 7 = .ok (.invokevirtual 52, 3) := by decide +kernel
theorem dX0_watchersNow_10 : decode cX0_watchersNow 10 = .ok (.ifCond .eq 12, 3) := by decide +kernel
theorem dX0_watchersNow_13 : decode cX0_watchersNow 13 = .ok (.aload_n 0, 1) := by decide +kernel
theorem dX0_watchersNow_14 : decode cX0_watchersNow 14 = .ok (.getfield 17, 3) := by decide +kernel
theorem dX0_watchersNow_17 : decode cX0_watchersNow 17 = .ok (.iload_n 1, 1) := by decide +kernel
theorem dX0_watchersNow_18 : decode cX0_watchersNow 18 = .ok (.iaload, 1) := by decide +kernel
theorem dX0_watchersNow_19 : decode cX0_watchersNow 19 = .ok (.goto 4, 3) := by decide +kernel
theorem dX0_watchersNow_22 : decode cX0_watchersNow 22 = .ok (.iconst 0, 1) := by decide +kernel
theorem dX0_watchersNow_23 : decode cX0_watchersNow 23 = .ok (.ireturn, 1) := by decide +kernel
theorem dX0_companyNow_0 : decode cX0_companyNow 0 = .ok (.aload_n 0, 1) := by decide +kernel
theorem dX0_companyNow_1 : decode cX0_companyNow 1 = .ok (.invokevirtual 56, 3) := by decide +kernel
theorem dX0_companyNow_4 : decode cX0_companyNow 4 = .ok (.istore_n 1, 1) := by decide +kernel
theorem dX0_companyNow_5 : decode cX0_companyNow 5 = .ok (.aload_n 0, 1) := by decide +kernel
theorem dX0_companyNow_6 : decode cX0_companyNow 6 = .ok (.iload_n 1, 1) := by decide +kernel
theorem dX0_companyNow_7 : decode cX0_companyNow 7 = .ok (.invokevirtual 52, 3) := by decide +kernel
theorem dX0_companyNow_10 : decode cX0_companyNow 10 = .ok (.ifCond .eq 12, 3) := by decide +kernel
theorem dX0_companyNow_13 : decode cX0_companyNow 13 = .ok (.aload_n 0, 1) := by decide +kernel
theorem dX0_companyNow_14 : decode cX0_companyNow 14 = .ok (.getfield 21, 3) := by decide +kernel
theorem dX0_companyNow_17 : decode cX0_companyNow 17 = .ok (.iload_n 1, 1) := by decide +kernel
theorem dX0_companyNow_18 : decode cX0_companyNow 18 = .ok (.iaload, 1) := by decide +kernel
theorem dX0_companyNow_19 : decode cX0_companyNow 19 = .ok (.goto 4, 3) := by decide +kernel
theorem dX0_companyNow_22 : decode cX0_companyNow 22 = .ok (.iconst 4, 1) := by decide +kernel
theorem dX0_companyNow_23 : decode cX0_companyNow 23 = .ok (.ireturn, 1) := by decide +kernel
theorem dX0_pass_0 : decode cX0_pass 0 = .ok (.iconst 0, 1) := by decide +kernel
theorem dX0_pass_1 : decode cX0_pass 1 = .ok (.istore_n 3, 1) := by decide +kernel
theorem dX0_pass_2 : decode cX0_pass 2 = .ok (.iconst 0, 1) := by decide +kernel
theorem dX0_pass_3 : decode cX0_pass 3 = .ok (.istore 4, 2) := by decide +kernel
theorem dX0_pass_5 : decode cX0_pass 5 = .ok (.iload 4, 2) := by decide +kernel
theorem dX0_pass_7 : decode cX0_pass 7 = .ok (.aload_n 0, 1) := by decide +kernel
theorem dX0_pass_8 : decode cX0_pass 8 = .ok (.getfield 32, 3) := by decide +kernel
theorem dX0_pass_11 : decode cX0_pass 11 = .ok (.if_icmp .ge 50, 3) := by decide +kernel
theorem dX0_pass_14 : decode cX0_pass 14 = .ok (.aload_n 0, 1) := by decide +kernel
theorem dX0_pass_15 : decode cX0_pass 15 = .ok (.getfield 11, 3) := by decide +kernel
theorem dX0_pass_18 : decode cX0_pass 18 = .ok (.iload 4, 2) := by decide +kernel
theorem dX0_pass_20 : decode cX0_pass 20 = .ok (.aaload, 1) := by decide +kernel
theorem dX0_pass_21 : decode cX0_pass 21 = .ok (.aload_n 0, 1) := by decide +kernel
theorem dX0_pass_22 : decode cX0_pass 22 = .ok (.iload 4, 2) := by decide +kernel
theorem dX0_pass_24 : decode cX0_pass 24 = .ok (.invokevirtual 60, 3) := by decide +kernel
theorem dX0_pass_27 : decode cX0_pass 27 = .ok (.iload_n 1, 1) := by decide +kernel
theorem dX0_pass_28 : decode cX0_pass 28 = .ok (.iload 4, 2) := by decide +kernel
theorem dX0_pass_30 : decode cX0_pass 30 = .ok (.iload_n 2, 1) := by decide +kernel
theorem dX0_pass_31 : decode cX0_pass 31 = .ok (.if_icmp .ne 10, 3) := by decide +kernel
theorem dX0_pass_34 : decode cX0_pass 34 = .ok (.aload_n 0, 1) := by decide +kernel
theorem dX0_pass_35 : decode cX0_pass 35 = .ok (.getfield 28, 3) := by decide +kernel
theorem dX0_pass_38 : decode cX0_pass 38 = .ok (.goto 4, 3) := by decide +kernel
theorem dX0_pass_41 : decode cX0_pass 41 = .ok (.iconst 0, 1) := by decide +kernel
theorem dX0_pass_42 : decode cX0_pass 42 = .ok (.invokevirtual 64, 3) := by decide +kernel
theorem dX0_pass_45 : decode cX0_pass 45 = .ok (.ifCond .eq 10, 3) := by decide +kernel
theorem dX0_pass_48 : decode cX0_pass 48 = .ok (.iload_n 3, 1) := by decide +kernel
theorem dX0_pass_49 : decode cX0_pass 49 = .ok (.iconst 1, 1) := by decide +kernel
theorem dX0_pass_50 : decode cX0_pass 50 = .ok (.iload 4, 2) := by decide +kernel
theorem dX0_pass_52 : decode cX0_pass 52 = .ok (.ishl, 1) := by decide +kernel
theorem dX0_pass_53 : decode cX0_pass 53 = .ok (.ior, 1) := by decide +kernel
theorem dX0_pass_54 : decode cX0_pass 54 = .ok (.istore_n 3, 1) := by decide +kernel
theorem dX0_pass_55 : decode cX0_pass 55 = .ok (.iinc 4 1, 3) := by decide +kernel
theorem dX0_pass_58 : decode cX0_pass 58 = .ok (.goto (-53), 3) := by decide +kernel
theorem dX0_pass_61 : decode cX0_pass 61 = .ok (.aload_n 0, 1) := by decide +kernel
theorem dX0_pass_62 : decode cX0_pass 62 = .ok (.dup, 1) := by decide +kernel
theorem dX0_pass_63 : decode cX0_pass 63 = .ok (.getfield 38, 3) := by decide +kernel
theorem dX0_pass_66 : decode cX0_pass 66 = .ok (.iconst 1, 1) := by decide +kernel
theorem dX0_pass_67 : decode cX0_pass 67 = .ok (.iadd, 1) := by decide +kernel
theorem dX0_pass_68 : decode cX0_pass 68 = .ok (.putfield 38, 3) := by decide +kernel
theorem dX0_pass_71 : decode cX0_pass 71 = .ok (.iload_n 3, 1) := by decide +kernel
theorem dX0_pass_72 : decode cX0_pass 72 = .ok (.ireturn, 1) := by decide +kernel
theorem dX0_passByPlan_0 : decode cX0_passByPlan 0 = .ok (.aload_n 0, 1) := by decide +kernel
theorem dX0_passByPlan_1 : decode cX0_passByPlan 1 = .ok (.aload_n 0, 1) := by decide +kernel
theorem dX0_passByPlan_2 : decode cX0_passByPlan 2 = .ok (.invokevirtual 68, 3) := by decide +kernel
theorem dX0_passByPlan_5 : decode cX0_passByPlan 5 = .ok (.aload_n 0, 1) := by decide +kernel
theorem dX0_passByPlan_6 : decode cX0_passByPlan 6 = .ok (.invokevirtual 71, 3) := by decide +kernel
theorem dX0_passByPlan_9 : decode cX0_passByPlan 9 = .ok (.invokevirtual 74, 3) := by decide +kernel
theorem dX0_passByPlan_12 : decode cX0_passByPlan 12 = .ok (.ireturn, 1) := by decide +kernel
theorem dX0_upsOfAll_0 : decode cX0_upsOfAll 0 = .ok (.iconst 0, 1) := by decide +kernel
theorem dX0_upsOfAll_1 : decode cX0_upsOfAll 1 = .ok (.istore_n 2, 1) := by decide +kernel
theorem dX0_upsOfAll_2 : decode cX0_upsOfAll 2 = .ok (.iconst 0, 1) := by decide +kernel
theorem dX0_upsOfAll_3 : decode cX0_upsOfAll 3 = .ok (.istore_n 3, 1) := by decide +kernel
theorem dX0_upsOfAll_4 : decode cX0_upsOfAll 4 = .ok (.iload_n 3, 1) := by decide +kernel
theorem dX0_upsOfAll_5 : decode cX0_upsOfAll 5 = .ok (.iload_n 1, 1) := by decide +kernel
theorem dX0_upsOfAll_6 : decode cX0_upsOfAll 6 = .ok (.if_icmp .ge 19, 3) := by decide +kernel
theorem dX0_upsOfAll_9 : decode cX0_upsOfAll 9 = .ok (.iload_n 2, 1) := by decide +kernel
theorem dX0_upsOfAll_10 : decode cX0_upsOfAll 10 = .ok (.aload_n 0, 1) := by decide +kernel
theorem dX0_upsOfAll_11 : decode cX0_upsOfAll 11 = .ok (.invokevirtual 77, 3) := by decide +kernel
theorem dX0_upsOfAll_14 : decode cX0_upsOfAll 14 = .ok (.invokestatic 80, 3) := by decide +kernel
theorem dX0_upsOfAll_17 : decode cX0_upsOfAll 17 = .ok (.iadd, 1) := by decide +kernel
theorem dX0_upsOfAll_18 : decode cX0_upsOfAll 18 = .ok (.istore_n 2, 1) := by decide +kernel
theorem dX0_upsOfAll_19 : decode cX0_upsOfAll 19 = .ok (.iinc 3 1, 3) := by decide +kernel
theorem dX0_upsOfAll_22 : decode cX0_upsOfAll 22 = .ok (.goto (-18), 3) := by decide +kernel
theorem dX0_upsOfAll_25 : decode cX0_upsOfAll 25 = .ok (.iload_n 2, 1) := by decide +kernel
theorem dX0_upsOfAll_26 : decode cX0_upsOfAll 26 = .ok (.ireturn, 1) := by decide +kernel
theorem dX0_upsOf_0 : decode cX0_upsOf 0 = .ok (.iconst 0, 1) := by decide +kernel
theorem dX0_upsOf_1 : decode cX0_upsOf 1 = .ok (.istore_n 3, 1) := by decide +kernel
theorem dX0_upsOf_2 : decode cX0_upsOf 2 = .ok (.iconst 0, 1) := by decide +kernel
theorem dX0_upsOf_3 : decode cX0_upsOf 3 = .ok (.istore 4, 2) := by decide +kernel
theorem dX0_upsOf_5 : decode cX0_upsOf 5 = .ok (.iload 4, 2) := by decide +kernel
theorem dX0_upsOf_7 : decode cX0_upsOf 7 = .ok (.iload_n 2, 1) := by decide +kernel
theorem dX0_upsOf_8 : decode cX0_upsOf 8 = .ok (.if_icmp .ge 20, 3) := by decide +kernel
theorem dX0_upsOf_11 : decode cX0_upsOf 11 = .ok (.iload_n 3, 1) := by decide +kernel
theorem dX0_upsOf_12 : decode cX0_upsOf 12 = .ok (.aload_n 0, 1) := by decide +kernel
theorem dX0_upsOf_13 : decode cX0_upsOf 13 = .ok (.invokevirtual 77, 3) := by decide +kernel
theorem dX0_upsOf_16 : decode cX0_upsOf 16 = .ok (.iload_n 1, 1) := by decide +kernel
theorem dX0_upsOf_17 : decode cX0_upsOf 17 = .ok (.invokestatic 85, 3) := by decide +kernel
theorem dX0_upsOf_20 : decode cX0_upsOf 20 = .ok (.iadd, 1) := by decide +kernel
theorem dX0_upsOf_21 : decode cX0_upsOf 21 = .ok (.istore_n 3, 1) := by decide +kernel
theorem dX0_upsOf_22 : decode cX0_upsOf 22 = .ok (.iinc 4 1, 3) := by decide +kernel
theorem dX0_upsOf_25 : decode cX0_upsOf 25 = .ok (.goto (-20), 3) := by decide +kernel
theorem dX0_upsOf_28 : decode cX0_upsOf 28 = .ok (.iload_n 3, 1) := by decide +kernel
theorem dX0_upsOf_29 : decode cX0_upsOf 29 = .ok (.ireturn, 1) := by decide +kernel
theorem dX0_tally_0 : decode cX0_tally 0 = .ok (.iconst 0, 1) := by decide +kernel
theorem dX0_tally_1 : decode cX0_tally 1 = .ok (.istore_n 3, 1) := by decide +kernel
theorem dX0_tally_2 : decode cX0_tally 2 = .ok (.iconst 0, 1) := by decide +kernel
theorem dX0_tally_3 : decode cX0_tally 3 = .ok (.istore 4, 2) := by decide +kernel
theorem dX0_tally_5 : decode cX0_tally 5 = .ok (.iconst 0, 1) := by decide +kernel
theorem dX0_tally_6 : decode cX0_tally 6 = .ok (.istore 5, 2) := by decide +kernel
theorem dX0_tally_8 : decode cX0_tally 8 = .ok (.aload_n 0, 1) := by decide +kernel
theorem dX0_tally_9 : decode cX0_tally 9 = .ok (.invokevirtual 88, 3) := by decide +kernel
theorem dX0_tally_12 : decode cX0_tally 12 = .ok (.istore 6, 2) := by decide +kernel
theorem dX0_tally_14 : decode cX0_tally 14 = .ok (.iconst 0, 1) := by decide +kernel
theorem dX0_tally_15 : decode cX0_tally 15 = .ok (.istore 7, 2) := by decide +kernel
theorem dX0_tally_17 : decode cX0_tally 17 = .ok (.iload 7, 2) := by decide +kernel
theorem dX0_tally_19 : decode cX0_tally 19 = .ok (.iload_n 1, 1) := by decide +kernel
theorem dX0_tally_20 : decode cX0_tally 20 = .ok (.if_icmp .ge 62, 3) := by decide +kernel
theorem dX0_tally_23 : decode cX0_tally 23 = .ok (.aload_n 0, 1) := by decide +kernel
theorem dX0_tally_24 : decode cX0_tally 24 = .ok (.invokevirtual 68, 3) := by decide +kernel
theorem dX0_tally_27 : decode cX0_tally 27 = .ok (.istore 8, 2) := by decide +kernel
theorem dX0_tally_29 : decode cX0_tally 29 = .ok (.aload_n 0, 1) := by decide +kernel
theorem dX0_tally_30 : decode cX0_tally 30 = .ok (.invokevirtual 77, 3) := by decide +kernel
theorem dX0_tally_33 : decode cX0_tally 33 = .ok (.istore 9, 2) := by decide +kernel
theorem dX0_tally_35 : decode cX0_tally 35 = .ok (.iload_n 3, 1) := by decide +kernel
theorem dX0_tally_36 : decode cX0_tally 36 = .ok (.iload 9, 2) := by decide +kernel
theorem dX0_tally_38 : decode cX0_tally 38 = .ok (.invokestatic 80, 3) := by decide +kernel
theorem dX0_tally_41 : decode cX0_tally 41 = .ok (.iadd, 1) := by decide +kernel
theorem dX0_tally_42 : decode cX0_tally 42 = .ok (.istore_n 3, 1) := by decide +kernel
theorem dX0_tally_43 : decode cX0_tally 43 = .ok (.iload 9, 2) := by decide +kernel
theorem dX0_tally_45 : decode cX0_tally 45 = .ok (.ifCond .eq 13, 3) := by decide +kernel
theorem dX0_tally_48 : decode cX0_tally 48 = .ok (.iload 4, 2) := by decide +kernel
theorem dX0_tally_50 : decode cX0_tally 50 = .ok (.iload 8, 2) := by decide +kernel
theorem dX0_tally_52 : decode cX0_tally 52 = .ok (.iadd, 1) := by decide +kernel
theorem dX0_tally_53 : decode cX0_tally 53 = .ok (.istore 4, 2) := by decide +kernel
theorem dX0_tally_55 : decode cX0_tally 55 = .ok (.goto 10, 3) := by decide +kernel
theorem dX0_tally_58 : decode cX0_tally 58 = .ok (.iload 5, 2) := by decide +kernel
theorem dX0_tally_60 : decode cX0_tally 60 = .ok (.iload 8, 2) := by decide +kernel
theorem dX0_tally_62 : decode cX0_tally 62 = .ok (.iadd, 1) := by decide +kernel
theorem dX0_tally_63 : decode cX0_tally 63 = .ok (.istore 5, 2) := by decide +kernel
theorem dX0_tally_65 : decode cX0_tally 65 = .ok (.iload 6, 2) := by decide +kernel
theorem dX0_tally_67 : decode cX0_tally 67 = .ok (.aload_n 0, 1) := by decide +kernel
theorem dX0_tally_68 : decode cX0_tally 68 = .ok (.invokevirtual 88, 3) := by decide +kernel
theorem dX0_tally_71 : decode cX0_tally 71 = .ok (.invokestatic 91, 3) := by decide +kernel
theorem dX0_tally_74 : decode cX0_tally 74 = .ok (.istore 6, 2) := by decide +kernel
theorem dX0_tally_76 : decode cX0_tally 76 = .ok (.iinc 7 1, 3) := by decide +kernel
theorem dX0_tally_79 : decode cX0_tally 79 = .ok (.goto (-62), 3) := by decide +kernel
theorem dX0_tally_82 : decode cX0_tally 82 = .ok (.iload_n 2, 1) := by decide +kernel
theorem dX0_tally_83 : decode cX0_tally 83 = .ok (.tableswitch 43 0 3 #[29, 31, 34, 37], 29) := by decide +kernel
theorem dX0_tally_112 : decode cX0_tally 112 = .ok (.iload_n 3, 1) := by decide +kernel
theorem dX0_tally_113 : decode cX0_tally 113 = .ok (.ireturn, 1) := by decide +kernel
theorem dX0_tally_114 : decode cX0_tally 114 = .ok (.iload 4, 2) := by decide +kernel
theorem dX0_tally_116 : decode cX0_tally 116 = .ok (.ireturn, 1) := by decide +kernel
theorem dX0_tally_117 : decode cX0_tally 117 = .ok (.iload 5, 2) := by decide +kernel
theorem dX0_tally_119 : decode cX0_tally 119 = .ok (.ireturn, 1) := by decide +kernel
theorem dX0_tally_120 : decode cX0_tally 120 = .ok (.aload_n 0, 1) := by decide +kernel
theorem dX0_tally_121 : decode cX0_tally 121 = .ok (.iconst 4, 1) := by decide +kernel
theorem dX0_tally_122 : decode cX0_tally 122 = .ok (.invokevirtual 96, 3) := by decide +kernel
theorem dX0_tally_125 : decode cX0_tally 125 = .ok (.ireturn, 1) := by decide +kernel
theorem dX0_tally_126 : decode cX0_tally 126 = .ok (.iload 6, 2) := by decide +kernel
theorem dX0_tally_128 : decode cX0_tally 128 = .ok (.ireturn, 1) := by decide +kernel
theorem dX0_standsAs_0 : decode cX0_standsAs 0 = .ok (.aload_n 0, 1) := by decide +kernel
theorem dX0_standsAs_1 : decode cX0_standsAs 1 = .ok (.invokevirtual 56, 3) := by decide +kernel
theorem dX0_standsAs_4 : decode cX0_standsAs 4 = .ok (.aload_n 1, 1) := by decide +kernel
theorem dX0_standsAs_5 : decode cX0_standsAs 5 = .ok (.invokevirtual 56, 3) := by decide +kernel
theorem dX0_standsAs_8 : decode cX0_standsAs 8 = .ok (.if_icmp .ne 14, 3) := by decide +kernel
theorem dX0_standsAs_11 : decode cX0_standsAs 11 = .ok (.aload_n 0, 1) := by decide +kernel
theorem dX0_standsAs_12 : decode cX0_standsAs 12 = .ok (.getfield 32, 3) := by decide +kernel
theorem dX0_standsAs_15 : decode cX0_standsAs 15 = .ok (.aload_n 1, 1) := by decide +kernel
theorem dX0_standsAs_16 : decode cX0_standsAs 16 = .ok (.getfield 32, 3) := by decide +kernel
theorem dX0_standsAs_19 : decode cX0_standsAs 19 = .ok (.if_icmp .eq 5, 3) := by decide +kernel
theorem dX0_standsAs_22 : decode cX0_standsAs 22 = .ok (.iconst 0, 1) := by decide +kernel
theorem dX0_standsAs_23 : decode cX0_standsAs 23 = .ok (.ireturn, 1) := by decide +kernel
theorem dX0_standsAs_24 : decode cX0_standsAs 24 = .ok (.iconst 0, 1) := by decide +kernel
theorem dX0_standsAs_25 : decode cX0_standsAs 25 = .ok (.istore_n 2, 1) := by decide +kernel
theorem dX0_standsAs_26 : decode cX0_standsAs 26 = .ok (.iload_n 2, 1) := by decide +kernel
theorem dX0_standsAs_27 : decode cX0_standsAs 27 = .ok (.aload_n 0, 1) := by decide +kernel
theorem dX0_standsAs_28 : decode cX0_standsAs 28 = .ok (.getfield 32, 3) := by decide +kernel
theorem dX0_standsAs_31 : decode cX0_standsAs 31 = .ok (.if_icmp .ge 53, 3) := by decide +kernel
theorem dX0_standsAs_34 : decode cX0_standsAs 34 = .ok (.aload_n 0, 1) := by decide +kernel
theorem dX0_standsAs_35 : decode cX0_standsAs 35 = .ok (.getfield 11, 3) := by decide +kernel
theorem dX0_standsAs_38 : decode cX0_standsAs 38 = .ok (.iload_n 2, 1) := by decide +kernel
theorem dX0_standsAs_39 : decode cX0_standsAs 39 = .ok (.aaload, 1) := by decide +kernel
theorem dX0_standsAs_40 : decode cX0_standsAs 40 = .ok (.getfield 99, 3) := by decide +kernel
theorem dX0_standsAs_43 : decode cX0_standsAs 43 = .ok (.aload_n 1, 1) := by decide +kernel
theorem dX0_standsAs_44 : decode cX0_standsAs 44 = .ok (.getfield 11, 3) := by decide +kernel
theorem dX0_standsAs_47 : decode cX0_standsAs 47 = .ok (.iload_n 2, 1) := by decide +kernel
theorem dX0_standsAs_48 : decode cX0_standsAs 48 = .ok (.aaload, 1) := by decide +kernel
theorem dX0_standsAs_49 : decode cX0_standsAs 49 = .ok (.getfield 99, 3) := by decide +kernel
theorem dX0_standsAs_52 : decode cX0_standsAs 52 = .ok (.if_icmp .ne 24, 3) := by decide +kernel
theorem dX0_standsAs_55 : decode cX0_standsAs 55 = .ok (.aload_n 0, 1) := by decide +kernel
theorem dX0_standsAs_56 : decode cX0_standsAs 56 = .ok (.getfield 11, 3) := by decide +kernel
theorem dX0_standsAs_59 : decode cX0_standsAs 59 = .ok (.iload_n 2, 1) := by decide +kernel
theorem dX0_standsAs_60 : decode cX0_standsAs 60 = .ok (.aaload, 1) := by decide +kernel
theorem dX0_standsAs_61 : decode cX0_standsAs 61 = .ok (.getfield 102, 3) := by decide +kernel
theorem dX0_standsAs_64 : decode cX0_standsAs 64 = .ok (.aload_n 1, 1) := by decide +kernel
theorem dX0_standsAs_65 : decode cX0_standsAs 65 = .ok (.getfield 11, 3) := by decide +kernel
theorem dX0_standsAs_68 : decode cX0_standsAs 68 = .ok (.iload_n 2, 1) := by decide +kernel
theorem dX0_standsAs_69 : decode cX0_standsAs 69 = .ok (.aaload, 1) := by decide +kernel
theorem dX0_standsAs_70 : decode cX0_standsAs 70 = .ok (.getfield 102, 3) := by decide +kernel
theorem dX0_standsAs_73 : decode cX0_standsAs 73 = .ok (.if_icmp .eq 5, 3) := by decide +kernel
theorem dX0_standsAs_76 : decode cX0_standsAs 76 = .ok (.iconst 0, 1) := by decide +kernel
theorem dX0_standsAs_77 : decode cX0_standsAs 77 = .ok (.ireturn, 1) := by decide +kernel
theorem dX0_standsAs_78 : decode cX0_standsAs 78 = .ok (.iinc 2 1, 3) := by decide +kernel
theorem dX0_standsAs_81 : decode cX0_standsAs 81 = .ok (.goto (-55), 3) := by decide +kernel
theorem dX0_standsAs_84 : decode cX0_standsAs 84 = .ok (.iconst 1, 1) := by decide +kernel
theorem dX0_standsAs_85 : decode cX0_standsAs 85 = .ok (.ireturn, 1) := by decide +kernel
theorem dX0_greatestHeat_0 : decode cX0_greatestHeat 0 = .ok (.iconst 0, 1) := by decide +kernel
theorem dX0_greatestHeat_1 : decode cX0_greatestHeat 1 = .ok (.istore_n 1, 1) := by decide +kernel
theorem dX0_greatestHeat_2 : decode cX0_greatestHeat 2 = .ok (.iconst 0, 1) := by decide +kernel
theorem dX0_greatestHeat_3 : decode cX0_greatestHeat 3 = .ok (.istore_n 2, 1) := by decide +kernel
theorem dX0_greatestHeat_4 : decode cX0_greatestHeat 4 = .ok (.iload_n 2, 1) := by decide +kernel
theorem dX0_greatestHeat_5 : decode cX0_greatestHeat 5 = .ok (.aload_n 0, 1) := by decide +kernel
theorem dX0_greatestHeat_6 : decode cX0_greatestHeat 6 = .ok (.getfield 32, 3) := by decide +kernel
theorem dX0_greatestHeat_9 : decode cX0_greatestHeat 9 = .ok (.if_icmp .ge 23, 3) := by decide +kernel
theorem dX0_greatestHeat_12 : decode cX0_greatestHeat 12 = .ok (.iload_n 1, 1) := by decide +kernel
theorem dX0_greatestHeat_13 : decode cX0_greatestHeat 13 = .ok (.aload_n 0, 1) := by decide +kernel
theorem dX0_greatestHeat_14 : decode cX0_greatestHeat 14 = .ok (.getfield 11, 3) := by decide +kernel
theorem dX0_greatestHeat_17 : decode cX0_greatestHeat 17 = .ok (.iload_n 2, 1) := by decide +kernel
theorem dX0_greatestHeat_18 : decode cX0_greatestHeat 18 = .ok (.aaload, 1) := by decide +kernel
theorem dX0_greatestHeat_19 : decode cX0_greatestHeat 19 = .ok (.getfield 99, 3) := by decide +kernel
theorem dX0_greatestHeat_22 : decode cX0_greatestHeat 22 = .ok (.invokestatic 91, 3) := by decide +kernel
theorem dX0_greatestHeat_25 : decode cX0_greatestHeat 25 = .ok (.istore_n 1, 1) := by decide +kernel
theorem dX0_greatestHeat_26 : decode cX0_greatestHeat 26 = .ok (.iinc 2 1, 3) := by decide +kernel
theorem dX0_greatestHeat_29 : decode cX0_greatestHeat 29 = .ok (.goto (-25), 3) := by decide +kernel
theorem dX0_greatestHeat_32 : decode cX0_greatestHeat 32 = .ok (.iload_n 1, 1) := by decide +kernel
theorem dX0_greatestHeat_33 : decode cX0_greatestHeat 33 = .ok (.ireturn, 1) := by decide +kernel
theorem dX0_sumOf_0 : decode cX0_sumOf 0 = .ok (.iconst 0, 1) := by decide +kernel
theorem dX0_sumOf_1 : decode cX0_sumOf 1 = .ok (.istore_n 2, 1) := by decide +kernel
theorem dX0_sumOf_2 : decode cX0_sumOf 2 = .ok (.iconst 0, 1) := by decide +kernel
theorem dX0_sumOf_3 : decode cX0_sumOf 3 = .ok (.istore_n 3, 1) := by decide +kernel
theorem dX0_sumOf_4 : decode cX0_sumOf 4 = .ok (.iload_n 3, 1) := by decide +kernel
theorem dX0_sumOf_5 : decode cX0_sumOf 5 = .ok (.aload_n 0, 1) := by decide +kernel
theorem dX0_sumOf_6 : decode cX0_sumOf 6 = .ok (.getfield 32, 3) := by decide +kernel
theorem dX0_sumOf_9 : decode cX0_sumOf 9 = .ok (.if_icmp .ge 22, 3) := by decide +kernel
theorem dX0_sumOf_12 : decode cX0_sumOf 12 = .ok (.iload_n 2, 1) := by decide +kernel
theorem dX0_sumOf_13 : decode cX0_sumOf 13 = .ok (.aload_n 0, 1) := by decide +kernel
theorem dX0_sumOf_14 : decode cX0_sumOf 14 = .ok (.getfield 11, 3) := by decide +kernel
theorem dX0_sumOf_17 : decode cX0_sumOf 17 = .ok (.iload_n 3, 1) := by decide +kernel
theorem dX0_sumOf_18 : decode cX0_sumOf 18 = .ok (.aaload, 1) := by decide +kernel
theorem dX0_sumOf_19 : decode cX0_sumOf 19 = .ok (.iload_n 1, 1) := by decide +kernel
theorem dX0_sumOf_20 : decode cX0_sumOf 20 = .ok (.invokevirtual 105, 3) := by decide +kernel
theorem dX0_sumOf_23 : decode cX0_sumOf 23 = .ok (.iadd, 1) := by decide +kernel
theorem dX0_sumOf_24 : decode cX0_sumOf 24 = .ok (.istore_n 2, 1) := by decide +kernel
theorem dX0_sumOf_25 : decode cX0_sumOf 25 = .ok (.iinc 3 1, 3) := by decide +kernel
theorem dX0_sumOf_28 : decode cX0_sumOf 28 = .ok (.goto (-24), 3) := by decide +kernel
theorem dX0_sumOf_31 : decode cX0_sumOf 31 = .ok (.iload_n 2, 1) := by decide +kernel
theorem dX0_sumOf_32 : decode cX0_sumOf 32 = .ok (.ireturn, 1) := by decide +kernel
theorem dX0_sumOfWatchers_0 : decode cX0_sumOfWatchers 0 = .ok (.iconst 0, 1) := by decide +kernel
theorem dX0_sumOfWatchers_1 : decode cX0_sumOfWatchers 1 = .ok (.istore_n 1, 1) := by decide +kernel
theorem dX0_sumOfWatchers_2 : decode cX0_sumOfWatchers 2 = .ok (.iconst 0, 1) := by decide +kernel
theorem dX0_sumOfWatchers_3 : decode cX0_sumOfWatchers 3 = .ok (.istore_n 2, 1) := by decide +kernel
theorem dX0_sumOfWatchers_4 : decode cX0_sumOfWatchers 4 = .ok (.iload_n 2, 1) := by decide +kernel
theorem dX0_sumOfWatchers_5 : decode cX0_sumOfWatchers 5 = .ok (.aload_n 0, 1) := by decide +kernel
theorem dX0_sumOfWatchers_6 : decode cX0_sumOfWatchers 6 = .ok (.getfield 35, 3) := by decide +kernel
theorem dX0_sumOfWatchers_9 : decode cX0_sumOfWatchers 9 = .ok (.if_icmp .ge 18, 3) := by decide +kernel
theorem dX0_sumOfWatchers_12 : decode cX0_sumOfWatchers 12 = .ok (.iload_n 1, 1) := by decide +kernel
theorem dX0_sumOfWatchers_13 : decode cX0_sumOfWatchers 13 = .ok (.aload_n 0, 1) := by decide +kernel
theorem dX0_sumOfWatchers_14 : decode cX0_sumOfWatchers 14 = .ok (.getfield 17, 3) := by decide +kernel
theorem dX0_sumOfWatchers_17 : decode cX0_sumOfWatchers 17 = .ok (.iload_n 2, 1) := by decide +kernel
theorem dX0_sumOfWatchers_18 : decode cX0_sumOfWatchers 18 = .ok (.iaload, 1) := by decide +kernel
theorem dX0_sumOfWatchers_19 : decode cX0_sumOfWatchers 19 = .ok (.iadd, 1) := by decide +kernel
theorem dX0_sumOfWatchers_20 : decode cX0_sumOfWatchers 20 = .ok (.istore_n 1, 1) := by decide +kernel
theorem dX0_sumOfWatchers_21 : decode cX0_sumOfWatchers 21 = .ok (.iinc 2 1, 3) := by decide +kernel
theorem dX0_sumOfWatchers_24 : decode cX0_sumOfWatchers 24 = .ok (.goto (-20), 3) := by decide +kernel
theorem dX0_sumOfWatchers_27 : decode cX0_sumOfWatchers 27 = .ok (.iload_n 1, 1) := by decide +kernel
theorem dX0_sumOfWatchers_28 : decode cX0_sumOfWatchers 28 = .ok (.ireturn, 1) := by decide +kernel
theorem dX1_init_0 : decode cX1_init 0 = .ok (.aload_n 0, 1) := by decide +kernel
theorem dX1_init_1 : decode cX1_init 1 = .ok (.invokespecial 3, 3) := by decide +kernel
theorem dX1_init_4 : decode cX1_init 4 = .ok (.aload_n 0, 1) := by decide +kernel
theorem dX1_init_5 : decode cX1_init 5 = .ok (.new 9, 3) := by decide +kernel
theorem dX1_init_8 : decode cX1_init 8 = .ok (.dup, 1) := by decide +kernel
theorem dX1_init_9 : decode cX1_init 9 = .ok (.invokespecial 11, 3) := by decide +kernel
theorem dX1_init_12 : decode cX1_init 12 = .ok (.putfield 12, 3) := by decide +kernel
theorem dX1_init_15 : decode cX1_init 15 = .ok (.return_, 1) := by decide +kernel
theorem dX1_takeAll_0 : decode cX1_takeAll 0 = .ok (.aload_n 0, 1) := by decide +kernel
theorem dX1_takeAll_1 : decode cX1_takeAll 1 = .ok (.iconst 0, 1) := by decide +kernel
theorem dX1_takeAll_2 : decode cX1_takeAll 2 = .ok (.putfield 18, 3) := by decide +kernel
theorem dX1_takeAll_5 : decode cX1_takeAll 5 = .ok (.aload_n 0, 1) := by decide +kernel
theorem dX1_takeAll_6 : decode cX1_takeAll 6 = .ok (.iconst 0, 1) := by decide +kernel
theorem dX1_takeAll_7 : decode cX1_takeAll 7 = .ok (.putfield 22, 3) := by decide +kernel
theorem dX1_takeAll_10 : decode cX1_takeAll 10 = .ok (.aload_n 0, 1) := by decide +kernel
theorem dX1_takeAll_11 : decode cX1_takeAll 11 = .ok (.iconst 0, 1) := by decide +kernel
theorem dX1_takeAll_12 : decode cX1_takeAll 12 = .ok (.putfield 25, 3) := by decide +kernel
theorem dX1_takeAll_15 : decode cX1_takeAll 15 = .ok (.aload_n 0, 1) := by decide +kernel
theorem dX1_takeAll_16 : decode cX1_takeAll 16 = .ok (.iconst 0, 1) := by decide +kernel
theorem dX1_takeAll_17 : decode cX1_takeAll 17 = .ok (.putfield 28, 3) := by decide +kernel
theorem dX1_takeAll_20 : decode cX1_takeAll 20 = .ok (.aload_n 0, 1) := by decide +kernel
theorem dX1_takeAll_21 : decode cX1_takeAll 21 = .ok (.iconst 0, 1) := by decide +kernel
theorem dX1_takeAll_22 : decode cX1_takeAll 22 = .ok (.putfield 32, 3) := by decide +kernel
theorem dX1_takeAll_25 : decode cX1_takeAll 25 = .ok (.aload_n 1, 1) := by decide +kernel
theorem dX1_takeAll_26 : decode cX1_takeAll 26 = .ok (.invokevirtual 35, 3) := by decide +kernel
theorem dX1_takeAll_29 : decode cX1_takeAll 29 = .ok (.iconst 0, 1) := by decide +kernel
theorem dX1_takeAll_30 : decode cX1_takeAll 30 = .ok (.istore_n 2, 1) := by decide +kernel
theorem dX1_takeAll_31 : decode cX1_takeAll 31 = .ok (.aload_n 0, 1) := by decide +kernel
theorem dX1_takeAll_32 : decode cX1_takeAll 32 = .ok (.invokevirtual 40, 3) := by decide +kernel
theorem dX1_takeAll_35 : decode cX1_takeAll 35 = .ok (.iconst 0, 1) := by decide +kernel
theorem dX1_takeAll_36 : decode cX1_takeAll 36 = .ok (.istore_n 3, 1) := by decide +kernel
theorem dX1_takeAll_37 : decode cX1_takeAll 37 = .ok (.iload_n 3, 1) := by decide +kernel
theorem dX1_takeAll_38 : decode cX1_takeAll 38 = .ok (.sipush 160, 3) := by decide +kernel
theorem dX1_takeAll_41 : decode cX1_takeAll 41 = .ok (.if_icmp .gt 31, 3) := by decide +kernel
theorem dX1_takeAll_44 : decode cX1_takeAll 44 = .ok (.aload_n 0, 1) := by decide +kernel
theorem dX1_takeAll_45 : decode cX1_takeAll 45 = .ok (.getfield 22, 3) := by decide +kernel
theorem dX1_takeAll_48 : decode cX1_takeAll 48 = .ok (.ifCond .ne 24, 3) := by decide +kernel
theorem dX1_takeAll_51 : decode cX1_takeAll 51 = .ok (.aload_n 0, 1) := by decide +kernel
theorem dX1_takeAll_52 : decode cX1_takeAll 52 = .ok (.getfield 43, 3) := by decide +kernel
theorem dX1_takeAll_55 : decode cX1_takeAll 55 = .ok (.ifCond .eq 17, 3) := by decide +kernel
theorem dX1_takeAll_58 : decode cX1_takeAll 58 = .ok (.aload_n 0, 1) := by decide +kernel
theorem dX1_takeAll_59 : decode cX1_takeAll 59 = .ok (.aload_n 1, 1) := by decide +kernel
theorem dX1_takeAll_60 : decode cX1_takeAll 60 = .ok (.invokevirtual 46, 3) := by decide +kernel
theorem dX1_takeAll_63 : decode cX1_takeAll 63 = .ok (.iinc 2 1, 3) := by decide +kernel
theorem dX1_takeAll_66 : decode cX1_takeAll 66 = .ok (.iinc 3 1, 3) := by decide +kernel
theorem dX1_takeAll_69 : decode cX1_takeAll 69 = .ok (.goto (-32), 3) := by decide +kernel
theorem dX1_takeAll_72 : decode cX1_takeAll 72 = .ok (.iload_n 2, 1) := by decide +kernel
theorem dX1_takeAll_73 : decode cX1_takeAll 73 = .ok (.ireturn, 1) := by decide +kernel
theorem dX1_takeLine_0 : decode cX1_takeLine 0 = .ok (.aload_n 0, 1) := by decide +kernel
theorem dX1_takeLine_1 : decode cX1_takeLine 1 = .ok (.invokevirtual 50, 3) := by decide +kernel
theorem dX1_takeLine_4 : decode cX1_takeLine 4 = .ok (.istore_n 2, 1) := by decide +kernel
theorem dX1_takeLine_5 : decode cX1_takeLine 5 = .ok (.iload_n 2, 1) := by decide +kernel
theorem dX1_takeLine_6 : decode cX1_takeLine 6 = .ok (.bipush 7, 2) := by decide +kernel
theorem dX1_takeLine_8 : decode cX1_takeLine 8 = .ok (.if_icmp .ne 15, 3) := by decide +kernel
theorem dX1_takeLine_11 : decode cX1_takeLine 11 = .ok (.aload_n 0, 1) := by decide +kernel
theorem dX1_takeLine_12 : decode cX1_takeLine 12 = .ok (.iconst 2, 1) := by decide +kernel
theorem dX1_takeLine_13 : decode cX1_takeLine 13 = .ok (.aload_n 0, 1) := by decide +kernel
theorem dX1_takeLine_14 : decode cX1_takeLine 14 = .ok (.getfield 54, 3) := by decide +kernel
theorem dX1_takeLine_17 : decode cX1_takeLine 17 = .ok (.invokevirtual 57, 3) := by decide +kernel
theorem dX1_takeLine_20 : decode cX1_takeLine 20 = .ok (.goto 49, 3) := by decide +kernel
theorem dX1_takeLine_23 : decode cX1_takeLine 23 = .ok (.iload_n 2, 1) := by decide +kernel
theorem dX1_takeLine_24 : decode cX1_takeLine 24 = .ok (.iconst 4, 1) := by decide +kernel
theorem dX1_takeLine_25 : decode cX1_takeLine 25 = .ok (.if_icmp .ne 11, 3) := by decide +kernel
theorem dX1_takeLine_28 : decode cX1_takeLine 28 = .ok (.aload_n 0, 1) := by decide +kernel
theorem dX1_takeLine_29 : decode cX1_takeLine 29 = .ok (.aload_n 1, 1) := by decide +kernel
theorem dX1_takeLine_30 : decode cX1_takeLine 30 = .ok (.invokevirtual 61, 3) := by decide +kernel
theorem dX1_takeLine_33 : decode cX1_takeLine 33 = .ok (.goto 36, 3) := by decide +kernel
theorem dX1_takeLine_36 : decode cX1_takeLine 36 = .ok (.iload_n 2, 1) := by decide +kernel
theorem dX1_takeLine_37 : decode cX1_takeLine 37 = .ok (.iconst 5, 1) := by decide +kernel
theorem dX1_takeLine_38 : decode cX1_takeLine 38 = .ok (.if_icmp .ne 11, 3) := by decide +kernel
theorem dX1_takeLine_41 : decode cX1_takeLine 41 = .ok (.aload_n 0, 1) := by decide +kernel
theorem dX1_takeLine_42 : decode cX1_takeLine 42 = .ok (.aload_n 1, 1) := by decide +kernel
theorem dX1_takeLine_43 : decode cX1_takeLine 43 = .ok (.invokevirtual 64, 3) := by decide +kernel
theorem dX1_takeLine_46 : decode cX1_takeLine 46 = .ok (.goto 23, 3) := by decide +kernel
theorem dX1_takeLine_49 : decode cX1_takeLine 49 = .ok (.iload_n 2, 1) := by decide +kernel
theorem dX1_takeLine_50 : decode cX1_takeLine 50 = .ok (.bipush 6, 2) := by decide +kernel
theorem dX1_takeLine_52 : decode cX1_takeLine 52 = .ok (.if_icmp .ne 11, 3) := by decide +kernel
theorem dX1_takeLine_55 : decode cX1_takeLine 55 = .ok (.aload_n 0, 1) := by decide +kernel
theorem dX1_takeLine_56 : decode cX1_takeLine 56 = .ok (.aload_n 1, 1) := by decide +kernel
theorem dX1_takeLine_57 : decode cX1_takeLine 57 = .ok (.invokevirtual 67, 3) := by decide +kernel
theorem dX1_takeLine_60 : decode cX1_takeLine 60 = .ok (.goto 9, 3) := by decide +kernel
theorem dX1_takeLine_63 : decode cX1_takeLine 63 = .ok (.aload_n 0, 1) := by decide +kernel
theorem dX1_takeLine_64 : decode cX1_takeLine 64 = .ok (.aload_n 1, 1) := by decide +kernel
theorem dX1_takeLine_65 : decode cX1_takeLine 65 = .ok (.iload_n 2, 1) := by decide +kernel
theorem dX1_takeLine_66 : decode cX1_takeLine 66 = .ok (.invokevirtual 70, 3) := by decide +kernel
theorem dX1_takeLine_69 : decode cX1_takeLine 69 = .ok (.return_, 1) := by decide +kernel
theorem dX1_takeFlow_0 : decode cX1_takeFlow 0 = .ok (.aload_n 0, 1) := by decide +kernel
theorem dX1_takeFlow_1 : decode cX1_takeFlow 1 = .ok (.getfield 28, 3) := by decide +kernel
theorem dX1_takeFlow_4 : decode cX1_takeFlow 4 = .ok (.ifCond .eq 12, 3) := by decide +kernel
theorem dX1_takeFlow_7 : decode cX1_takeFlow 7 = .ok (.aload_n 0, 1) := by decide +kernel
theorem dX1_takeFlow_8 : decode cX1_takeFlow 8 = .ok (.iconst 4, 1) := by decide +kernel
theorem dX1_takeFlow_9 : decode cX1_takeFlow 9 = .ok (.aload_n 0, 1) := by decide +kernel
theorem dX1_takeFlow_10 : decode cX1_takeFlow 10 = .ok (.getfield 54, 3) := by decide +kernel
theorem dX1_takeFlow_13 : decode cX1_takeFlow 13 = .ok (.invokevirtual 57, 3) := by decide +kernel
theorem dX1_takeFlow_16 : decode cX1_takeFlow 16 = .ok (.aload_n 0, 1) := by decide +kernel
theorem dX1_takeFlow_17 : decode cX1_takeFlow 17 = .ok (.iconst 1, 1) := by decide +kernel
theorem dX1_takeFlow_18 : decode cX1_takeFlow 18 = .ok (.putfield 28, 3) := by decide +kernel
theorem dX1_takeFlow_21 : decode cX1_takeFlow 21 = .ok (.aload_n 0, 1) := by decide +kernel
theorem dX1_takeFlow_22 : decode cX1_takeFlow 22 = .ok (.invokevirtual 74, 3) := by decide +kernel
theorem dX1_takeFlow_25 : decode cX1_takeFlow 25 = .ok (.aload_n 1, 1) := by decide +kernel
theorem dX1_takeFlow_26 : decode cX1_takeFlow 26 = .ok (.aload_n 0, 1) := by decide +kernel
theorem dX1_takeFlow_27 : decode cX1_takeFlow 27 = .ok (.iconst 0, 1) := by decide +kernel
theorem dX1_takeFlow_28 : decode cX1_takeFlow 28 = .ok (.bipush 40, 2) := by decide +kernel
theorem dX1_takeFlow_30 : decode cX1_takeFlow 30 = .ok (.invokevirtual 77, 3) := by decide +kernel
theorem dX1_takeFlow_33 : decode cX1_takeFlow 33 = .ok (.putfield 81, 3) := by decide +kernel
theorem dX1_takeFlow_36 : decode cX1_takeFlow 36 = .ok (.aload_n 0, 1) := by decide +kernel
theorem dX1_takeFlow_37 : decode cX1_takeFlow 37 = .ok (.invokevirtual 84, 3) := by decide +kernel
theorem dX1_takeFlow_40 : decode cX1_takeFlow 40 = .ok (.return_, 1) := by decide +kernel
theorem dX1_takeCalm_0 : decode cX1_takeCalm 0 = .ok (.aload_n 0, 1) := by decide +kernel
theorem dX1_takeCalm_1 : decode cX1_takeCalm 1 = .ok (.getfield 32, 3) := by decide +kernel
theorem dX1_takeCalm_4 : decode cX1_takeCalm 4 = .ok (.ifCond .eq 12, 3) := by decide +kernel
theorem dX1_takeCalm_7 : decode cX1_takeCalm 7 = .ok (.aload_n 0, 1) := by decide +kernel
theorem dX1_takeCalm_8 : decode cX1_takeCalm 8 = .ok (.iconst 4, 1) := by decide +kernel
theorem dX1_takeCalm_9 : decode cX1_takeCalm 9 = .ok (.aload_n 0, 1) := by decide +kernel
theorem dX1_takeCalm_10 : decode cX1_takeCalm 10 = .ok (.getfield 54, 3) := by decide +kernel
theorem dX1_takeCalm_13 : decode cX1_takeCalm 13 = .ok (.invokevirtual 57, 3) := by decide +kernel
theorem dX1_takeCalm_16 : decode cX1_takeCalm 16 = .ok (.aload_n 0, 1) := by decide +kernel
theorem dX1_takeCalm_17 : decode cX1_takeCalm 17 = .ok (.iconst 1, 1) := by decide +kernel
theorem dX1_takeCalm_18 : decode cX1_takeCalm 18 = .ok (.putfield 32, 3) := by decide +kernel
theorem dX1_takeCalm_21 : decode cX1_takeCalm 21 = .ok (.aload_n 0, 1) := by decide +kernel
theorem dX1_takeCalm_22 : decode cX1_takeCalm 22 = .ok (.invokevirtual 74, 3) := by decide +kernel
theorem dX1_takeCalm_25 : decode cX1_takeCalm 25 = .ok (.aload_n 1, 1) := by decide +kernel
theorem dX1_takeCalm_26 : decode cX1_takeCalm 26 = .ok (.aload_n 0, 1) := by decide +kernel
theorem dX1_takeCalm_27 : decode cX1_takeCalm 27 = .ok (.iconst 0, 1) := by decide +kernel
theorem dX1_takeCalm_28 : decode cX1_takeCalm 28 = .ok (.bipush 20, 2) := by decide +kernel
theorem dX1_takeCalm_30 : decode cX1_takeCalm 30 = .ok (.invokevirtual 77, 3) := by decide +kernel
theorem dX1_takeCalm_33 : decode cX1_takeCalm 33 = .ok (.putfield 87, 3) := by decide +kernel
theorem dX1_takeCalm_36 : decode cX1_takeCalm 36 = .ok (.aload_n 0, 1) := by decide +kernel
theorem dX1_takeCalm_37 : decode cX1_takeCalm 37 = .ok (.invokevirtual 84, 3) := by decide +kernel
theorem dX1_takeCalm_40 : decode cX1_takeCalm 40 = .ok (.return_, 1) := by decide +kernel
theorem dX1_takeHour_0 : decode cX1_takeHour 0 = .ok (.aload_n 1, 1) := by decide +kernel
theorem dX1_takeHour_1 : decode cX1_takeHour 1 = .ok (.getfield 90, 3) := by decide +kernel
theorem dX1_takeHour_4 : decode cX1_takeHour 4 = .ok (.bipush 12, 2) := by decide +kernel
theorem dX1_takeHour_6 : decode cX1_takeHour 6 = .ok (.if_icmp .lt 12, 3) := by decide +kernel
theorem dX1_takeHour_9 : decode cX1_takeHour 9 = .ok (.aload_n 0, 1) := by decide +kernel
theorem dX1_takeHour_10 : decode cX1_takeHour 10 = .ok (.iconst 5, 1) := by decide +kernel
theorem dX1_takeHour_11 : decode cX1_takeHour 11 = .ok (.aload_n 0, 1) := by decide +kernel
theorem dX1_takeHour_12 : decode cX1_takeHour 12 = .ok (.getfield 54, 3) := by decide +kernel
theorem dX1_takeHour_15 : decode cX1_takeHour 15 = .ok (.invokevirtual 57, 3) := by decide +kernel
theorem dX1_takeHour_18 : decode cX1_takeHour 18 = .ok (.aload_n 0, 1) := by decide +kernel
theorem dX1_takeHour_19 : decode cX1_takeHour 19 = .ok (.invokevirtual 74, 3) := by decide +kernel
theorem dX1_takeHour_22 : decode cX1_takeHour 22 = .ok (.aload_n 0, 1) := by decide +kernel
theorem dX1_takeHour_23 : decode cX1_takeHour 23 = .ok (.iconst 0, 1) := by decide +kernel
theorem dX1_takeHour_24 : decode cX1_takeHour 24 = .ok (.bipush 9, 2) := by decide +kernel
theorem dX1_takeHour_26 : decode cX1_takeHour 26 = .ok (.invokevirtual 77, 3) := by decide +kernel
theorem dX1_takeHour_29 : decode cX1_takeHour 29 = .ok (.istore_n 2, 1) := by decide +kernel
theorem dX1_takeHour_30 : decode cX1_takeHour 30 = .ok (.aload_n 0, 1) := by decide +kernel
theorem dX1_takeHour_31 : decode cX1_takeHour 31 = .ok (.iconst 0, 1) := by decide +kernel
theorem dX1_takeHour_32 : decode cX1_takeHour 32 = .ok (.iconst 4, 1) := by decide +kernel
theorem dX1_takeHour_33 : decode cX1_takeHour 33 = .ok (.invokevirtual 77, 3) := by decide +kernel
theorem dX1_takeHour_36 : decode cX1_takeHour 36 = .ok (.istore_n 3, 1) := by decide +kernel
theorem dX1_takeHour_37 : decode cX1_takeHour 37 = .ok (.aload_n 0, 1) := by decide +kernel
theorem dX1_takeHour_38 : decode cX1_takeHour 38 = .ok (.invokevirtual 84, 3) := by decide +kernel
theorem dX1_takeHour_41 : decode cX1_takeHour 41 = .ok (.aload_n 1, 1) := by decide +kernel
theorem dX1_takeHour_42 : decode cX1_takeHour 42 = .ok (.iload_n 2, 1) := by decide +kernel
theorem dX1_takeHour_43 : decode cX1_takeHour 43 = .ok (.iload_n 3, 1) := by decide +kernel
theorem dX1_takeHour_44 : decode cX1_takeHour 44 = .ok (.invokevirtual 93, 3) := by decide +kernel
theorem dX1_takeHour_47 : decode cX1_takeHour 47 = .ok (.pop, 1) := by decide +kernel
theorem dX1_takeHour_48 : decode cX1_takeHour 48 = .ok (.return_, 1) := by decide +kernel
theorem dX1_takeVent_0 : decode cX1_takeVent 0 = .ok (.aload_n 1, 1) := by decide +kernel
theorem dX1_takeVent_1 : decode cX1_takeVent 1 = .ok (.getfield 97, 3) := by decide +kernel
theorem dX1_takeVent_4 : decode cX1_takeVent 4 = .ok (.iconst 4, 1) := by decide +kernel
theorem dX1_takeVent_5 : decode cX1_takeVent 5 = .ok (.if_icmp .lt 12, 3) := by decide +kernel
theorem dX1_takeVent_8 : decode cX1_takeVent 8 = .ok (.aload_n 0, 1) := by decide +kernel
theorem dX1_takeVent_9 : decode cX1_takeVent 9 = .ok (.iconst 5, 1) := by decide +kernel
theorem dX1_takeVent_10 : decode cX1_takeVent 10 = .ok (.aload_n 0, 1) := by decide +kernel
theorem dX1_takeVent_11 : decode cX1_takeVent 11 = .ok (.getfield 54, 3) := by decide +kernel
theorem dX1_takeVent_14 : decode cX1_takeVent 14 = .ok (.invokevirtual 57, 3) := by decide +kernel
theorem dX1_takeVent_17 : decode cX1_takeVent 17 = .ok (.aload_n 0, 1) := by decide +kernel
theorem dX1_takeVent_18 : decode cX1_takeVent 18 = .ok (.invokevirtual 74, 3) := by decide +kernel
theorem dX1_takeVent_21 : decode cX1_takeVent 21 = .ok (.aload_n 0, 1) := by decide +kernel
theorem dX1_takeVent_22 : decode cX1_takeVent 22 = .ok (.iconst 1, 1) := by decide +kernel
theorem dX1_takeVent_23 : decode cX1_takeVent 23 = .ok (.bipush 60, 2) := by decide +kernel
theorem dX1_takeVent_25 : decode cX1_takeVent 25 = .ok (.invokevirtual 77, 3) := by decide +kernel
theorem dX1_takeVent_28 : decode cX1_takeVent 28 = .ok (.istore_n 3, 1) := by decide +kernel
theorem dX1_takeVent_29 : decode cX1_takeVent 29 = .ok (.aload_n 0, 1) := by decide +kernel
theorem dX1_takeVent_30 : decode cX1_takeVent 30 = .ok (.iconst 0, 1) := by decide +kernel
theorem dX1_takeVent_31 : decode cX1_takeVent 31 = .ok (.bipush 9, 2) := by decide +kernel
theorem dX1_takeVent_33 : decode cX1_takeVent 33 = .ok (.invokevirtual 77, 3) := by decide +kernel
theorem dX1_takeVent_36 : decode cX1_takeVent 36 = .ok (.istore 4, 2) := by decide +kernel
theorem dX1_takeVent_38 : decode cX1_takeVent 38 = .ok (.aload_n 0, 1) := by decide +kernel
theorem dX1_takeVent_39 : decode cX1_takeVent 39 = .ok (.invokevirtual 84, 3) := by decide +kernel
theorem dX1_takeVent_42 : decode cX1_takeVent 42 = .ok (.aload_n 1, 1) := by decide +kernel
theorem dX1_takeVent_43 : decode cX1_takeVent 43 = .ok (.iload_n 2, 1) := by decide +kernel
theorem dX1_takeVent_44 : decode cX1_takeVent 44 = .ok (.iload_n 3, 1) := by decide +kernel
theorem dX1_takeVent_45 : decode cX1_takeVent 45 = .ok (.iload 4, 2) := by decide +kernel
theorem dX1_takeVent_47 : decode cX1_takeVent 47 = .ok (.invokevirtual 100, 3) := by decide +kernel
theorem dX1_takeVent_50 : decode cX1_takeVent 50 = .ok (.pop, 1) := by decide +kernel
theorem dX1_takeVent_51 : decode cX1_takeVent 51 = .ok (.return_, 1) := by decide +kernel
theorem dX1_passName_0 : decode cX1_passName 0 = .ok (.aload_n 0, 1) := by decide +kernel
theorem dX1_passName_1 : decode cX1_passName 1 = .ok (.getfield 22, 3) := by decide +kernel
theorem dX1_passName_4 : decode cX1_passName 4 = .ok (.ifCond .ne 7, 3) := by decide +kernel
theorem dX1_passName_7 : decode cX1_passName 7 = .ok (.aload_n 0, 1) := by decide +kernel
theorem dX1_passName_8 : decode cX1_passName 8 = .ok (.invokevirtual 40, 3) := by decide +kernel
theorem dX1_passName_11 : decode cX1_passName 11 = .ok (.return_, 1) := by decide +kernel
theorem dX1_takeNumber_0 : decode cX1_takeNumber 0 = .ok (.aload_n 0, 1) := by decide +kernel
theorem dX1_takeNumber_1 : decode cX1_takeNumber 1 = .ok (.getfield 22, 3) := by decide +kernel
theorem dX1_takeNumber_4 : decode cX1_takeNumber 4 = .ok (.ifCond .eq 5, 3) := by decide +kernel
theorem dX1_takeNumber_7 : decode cX1_takeNumber 7 = .ok (.iload_n 1, 1) := by decide +kernel
theorem dX1_takeNumber_8 : decode cX1_takeNumber 8 = .ok (.ireturn, 1) := by decide +kernel
theorem dX1_takeNumber_9 : decode cX1_takeNumber 9 = .ok (.aload_n 0, 1) := by decide +kernel
theorem dX1_takeNumber_10 : decode cX1_takeNumber 10 = .ok (.getfield 43, 3) := by decide +kernel
theorem dX1_takeNumber_13 : decode cX1_takeNumber 13 = .ok (.iconst 2, 1) := by decide +kernel
theorem dX1_takeNumber_14 : decode cX1_takeNumber 14 = .ok (.if_icmp .eq 14, 3) := by decide +kernel
theorem dX1_takeNumber_17 : decode cX1_takeNumber 17 = .ok (.aload_n 0, 1) := by decide +kernel
theorem dX1_takeNumber_18 : decode cX1_takeNumber 18 = .ok (.iconst 2, 1) := by decide +kernel
theorem dX1_takeNumber_19 : decode cX1_takeNumber 19 = .ok (.aload_n 0, 1) := by decide +kernel
theorem dX1_takeNumber_20 : decode cX1_takeNumber 20 = .ok (.getfield 54, 3) := by decide +kernel
theorem dX1_takeNumber_23 : decode cX1_takeNumber 23 = .ok (.invokevirtual 57, 3) := by decide +kernel
theorem dX1_takeNumber_26 : decode cX1_takeNumber 26 = .ok (.iload_n 1, 1) := by decide +kernel
theorem dX1_takeNumber_27 : decode cX1_takeNumber 27 = .ok (.ireturn, 1) := by decide +kernel
theorem dX1_takeNumber_28 : decode cX1_takeNumber 28 = .ok (.aload_n 0, 1) := by decide +kernel
theorem dX1_takeNumber_29 : decode cX1_takeNumber 29 = .ok (.getfield 104, 3) := by decide +kernel
theorem dX1_takeNumber_32 : decode cX1_takeNumber 32 = .ok (.iload_n 1, 1) := by decide +kernel
theorem dX1_takeNumber_33 : decode cX1_takeNumber 33 = .ok (.iload_n 2, 1) := by decide +kernel
theorem dX1_takeNumber_34 : decode cX1_takeNumber 34 = .ok (.invokestatic 107, 3) := by decide +kernel
theorem dX1_takeNumber_37 : decode cX1_takeNumber 37 = .ok (.ifCond .ne 14, 3) := by decide +kernel
theorem dX1_takeNumber_40 : decode cX1_takeNumber 40 = .ok (.aload_n 0, 1) := by decide +kernel
theorem dX1_takeNumber_41 : decode cX1_takeNumber 41 = .ok (.iconst 3, 1) := by decide +kernel
theorem dX1_takeNumber_42 : decode cX1_takeNumber 42 = .ok (.aload_n 0, 1) := by decide +kernel
theorem dX1_takeNumber_43 : decode cX1_takeNumber 43 = .ok (.getfield 54, 3) := by decide +kernel
theorem dX1_takeNumber_46 : decode cX1_takeNumber 46 = .ok (.invokevirtual 57, 3) := by decide +kernel
theorem dX1_takeNumber_49 : decode cX1_takeNumber 49 = .ok (.iload_n 1, 1) := by decide +kernel
theorem dX1_takeNumber_50 : decode cX1_takeNumber 50 = .ok (.ireturn, 1) := by decide +kernel
theorem dX1_takeNumber_51 : decode cX1_takeNumber 51 = .ok (.aload_n 0, 1) := by decide +kernel
theorem dX1_takeNumber_52 : decode cX1_takeNumber 52 = .ok (.getfield 104, 3) := by decide +kernel
theorem dX1_takeNumber_55 : decode cX1_takeNumber 55 = .ok (.istore_n 3, 1) := by decide +kernel
theorem dX1_takeNumber_56 : decode cX1_takeNumber 56 = .ok (.aload_n 0, 1) := by decide +kernel
theorem dX1_takeNumber_57 : decode cX1_takeNumber 57 = .ok (.invokevirtual 40, 3) := by decide +kernel
theorem dX1_takeNumber_60 : decode cX1_takeNumber 60 = .ok (.iload_n 3, 1) := by decide +kernel
theorem dX1_takeNumber_61 : decode cX1_takeNumber 61 = .ok (.ireturn, 1) := by decide +kernel
theorem dX1_takeStop_0 : decode cX1_takeStop 0 = .ok (.aload_n 0, 1) := by decide +kernel
theorem dX1_takeStop_1 : decode cX1_takeStop 1 = .ok (.getfield 22, 3) := by decide +kernel
theorem dX1_takeStop_4 : decode cX1_takeStop 4 = .ok (.ifCond .ne 20, 3) := by decide +kernel
theorem dX1_takeStop_7 : decode cX1_takeStop 7 = .ok (.aload_n 0, 1) := by decide +kernel
theorem dX1_takeStop_8 : decode cX1_takeStop 8 = .ok (.getfield 43, 3) := by decide +kernel
theorem dX1_takeStop_11 : decode cX1_takeStop 11 = .ok (.iconst 3, 1) := by decide +kernel
theorem dX1_takeStop_12 : decode cX1_takeStop 12 = .ok (.if_icmp .eq 12, 3) := by decide +kernel
theorem dX1_takeStop_15 : decode cX1_takeStop 15 = .ok (.aload_n 0, 1) := by decide +kernel
theorem dX1_takeStop_16 : decode cX1_takeStop 16 = .ok (.iconst 2, 1) := by decide +kernel
theorem dX1_takeStop_17 : decode cX1_takeStop 17 = .ok (.aload_n 0, 1) := by decide +kernel
theorem dX1_takeStop_18 : decode cX1_takeStop 18 = .ok (.getfield 54, 3) := by decide +kernel
theorem dX1_takeStop_21 : decode cX1_takeStop 21 = .ok (.invokevirtual 57, 3) := by decide +kernel
theorem dX1_takeStop_24 : decode cX1_takeStop 24 = .ok (.aload_n 0, 1) := by decide +kernel
theorem dX1_takeStop_25 : decode cX1_takeStop 25 = .ok (.getfield 22, 3) := by decide +kernel
theorem dX1_takeStop_28 : decode cX1_takeStop 28 = .ok (.ifCond .ne 7, 3) := by decide +kernel
theorem dX1_takeStop_31 : decode cX1_takeStop 31 = .ok (.aload_n 0, 1) := by decide +kernel
theorem dX1_takeStop_32 : decode cX1_takeStop 32 = .ok (.invokevirtual 40, 3) := by decide +kernel
theorem dX1_takeStop_35 : decode cX1_takeStop 35 = .ok (.return_, 1) := by decide +kernel
theorem dX1_fail_0 : decode cX1_fail 0 = .ok (.aload_n 0, 1) := by decide +kernel
theorem dX1_fail_1 : decode cX1_fail 1 = .ok (.getfield 22, 3) := by decide +kernel
theorem dX1_fail_4 : decode cX1_fail 4 = .ok (.ifCond .ne 13, 3) := by decide +kernel
theorem dX1_fail_7 : decode cX1_fail 7 = .ok (.aload_n 0, 1) := by decide +kernel
theorem dX1_fail_8 : decode cX1_fail 8 = .ok (.iload_n 1, 1) := by decide +kernel
theorem dX1_fail_9 : decode cX1_fail 9 = .ok (.putfield 22, 3) := by decide +kernel
theorem dX1_fail_12 : decode cX1_fail 12 = .ok (.aload_n 0, 1) := by decide +kernel
theorem dX1_fail_13 : decode cX1_fail 13 = .ok (.iload_n 2, 1) := by decide +kernel
theorem dX1_fail_14 : decode cX1_fail 14 = .ok (.putfield 25, 3) := by decide +kernel
theorem dX1_fail_17 : decode cX1_fail 17 = .ok (.return_, 1) := by decide +kernel
theorem dX1_advance_0 : decode cX1_advance 0 = .ok (.iconst 0, 1) := by decide +kernel
theorem dX1_advance_1 : decode cX1_advance 1 = .ok (.istore_n 1, 1) := by decide +kernel
theorem dX1_advance_2 : decode cX1_advance 2 = .ok (.iload_n 1, 1) := by decide +kernel
theorem dX1_advance_3 : decode cX1_advance 3 = .ok (.sipush 160, 3) := by decide +kernel
theorem dX1_advance_6 : decode cX1_advance 6 = .ok (.if_icmp .ge 35, 3) := by decide +kernel
theorem dX1_advance_9 : decode cX1_advance 9 = .ok (.aload_n 0, 1) := by decide +kernel
theorem dX1_advance_10 : decode cX1_advance 10 = .ok (.getfield 12, 3) := by decide +kernel
theorem dX1_advance_13 : decode cX1_advance 13 = .ok (.aload_n 0, 1) := by decide +kernel
theorem dX1_advance_14 : decode cX1_advance 14 = .ok (.getfield 18, 3) := by decide +kernel
theorem dX1_advance_17 : decode cX1_advance 17 = .ok (.invokevirtual 110, 3) := by decide +kernel
theorem dX1_advance_20 : decode cX1_advance 20 = .ok (.bipush 32, 2) := by decide +kernel
theorem dX1_advance_22 : decode cX1_advance 22 = .ok (.if_icmp .ne 19, 3) := by decide +kernel
theorem dX1_advance_25 : decode cX1_advance 25 = .ok (.aload_n 0, 1) := by decide +kernel
theorem dX1_advance_26 : decode cX1_advance 26 = .ok (.dup, 1) := by decide +kernel
theorem dX1_advance_27 : decode cX1_advance 27 = .ok (.getfield 18, 3) := by decide +kernel
theorem dX1_advance_30 : decode cX1_advance 30 = .ok (.iconst 1, 1) := by decide +kernel
theorem dX1_advance_31 : decode cX1_advance 31 = .ok (.iadd, 1) := by decide +kernel
theorem dX1_advance_32 : decode cX1_advance 32 = .ok (.putfield 18, 3) := by decide +kernel
theorem dX1_advance_35 : decode cX1_advance 35 = .ok (.iinc 1 1, 3) := by decide +kernel
theorem dX1_advance_38 : decode cX1_advance 38 = .ok (.goto (-36), 3) := by decide +kernel
theorem dX1_advance_41 : decode cX1_advance 41 = .ok (.aload_n 0, 1) := by decide +kernel
theorem dX1_advance_42 : decode cX1_advance 42 = .ok (.aload_n 0, 1) := by decide +kernel
theorem dX1_advance_43 : decode cX1_advance 43 = .ok (.getfield 18, 3) := by decide +kernel
theorem dX1_advance_46 : decode cX1_advance 46 = .ok (.putfield 54, 3) := by decide +kernel
theorem dX1_advance_49 : decode cX1_advance 49 = .ok (.aload_n 0, 1) := by decide +kernel
theorem dX1_advance_50 : decode cX1_advance 50 = .ok (.iconst 0, 1) := by decide +kernel
theorem dX1_advance_51 : decode cX1_advance 51 = .ok (.putfield 104, 3) := by decide +kernel
theorem dX1_advance_54 : decode cX1_advance 54 = .ok (.aload_n 0, 1) := by decide +kernel
theorem dX1_advance_55 : decode cX1_advance 55 = .ok (.getfield 12, 3) := by decide +kernel
theorem dX1_advance_58 : decode cX1_advance 58 = .ok (.aload_n 0, 1) := by decide +kernel
theorem dX1_advance_59 : decode cX1_advance 59 = .ok (.getfield 18, 3) := by decide +kernel
theorem dX1_advance_62 : decode cX1_advance 62 = .ok (.invokevirtual 110, 3) := by decide +kernel
theorem dX1_advance_65 : decode cX1_advance 65 = .ok (.istore_n 1, 1) := by decide +kernel
theorem dX1_advance_66 : decode cX1_advance 66 = .ok (.aload_n 0, 1) := by decide +kernel
theorem dX1_advance_67 : decode cX1_advance 67 = .ok (.dup, 1) := by decide +kernel
theorem dX1_advance_68 : decode cX1_advance 68 = .ok (.getfield 18, 3) := by decide +kernel
theorem dX1_advance_71 : decode cX1_advance 71 = .ok (.iconst 1, 1) := by decide +kernel
theorem dX1_advance_72 : decode cX1_advance 72 = .ok (.iadd, 1) := by decide +kernel
theorem dX1_advance_73 : decode cX1_advance 73 = .ok (.putfield 18, 3) := by decide +kernel
theorem dX1_advance_76 : decode cX1_advance 76 = .ok (.iload_n 1, 1) := by decide +kernel
theorem dX1_advance_77 : decode cX1_advance 77 = .ok (.ifCond .ge 11, 3) := by decide +kernel
theorem dX1_advance_80 : decode cX1_advance 80 = .ok (.aload_n 0, 1) := by decide +kernel
theorem dX1_advance_81 : decode cX1_advance 81 = .ok (.iconst 0, 1) := by decide +kernel
theorem dX1_advance_82 : decode cX1_advance 82 = .ok (.putfield 43, 3) := by decide +kernel
theorem dX1_advance_85 : decode cX1_advance 85 = .ok (.goto 185, 3) := by decide +kernel
theorem dX1_advance_88 : decode cX1_advance 88 = .ok (.iload_n 1, 1) := by decide +kernel
theorem dX1_advance_89 : decode cX1_advance 89 = .ok (.bipush 59, 2) := by decide +kernel
theorem dX1_advance_91 : decode cX1_advance 91 = .ok (.if_icmp .ne 11, 3) := by decide +kernel
theorem dX1_advance_94 : decode cX1_advance 94 = .ok (.aload_n 0, 1) := by decide +kernel
theorem dX1_advance_95 : decode cX1_advance 95 = .ok (.iconst 3, 1) := by decide +kernel
theorem dX1_advance_96 : decode cX1_advance 96 = .ok (.putfield 43, 3) := by decide +kernel
theorem dX1_advance_99 : decode cX1_advance 99 = .ok (.goto 171, 3) := by decide +kernel
theorem dX1_advance_102 : decode cX1_advance 102 = .ok (.iload_n 1, 1) := by decide +kernel
theorem dX1_advance_103 : decode cX1_advance 103 = .ok (.invokestatic 114, 3) := by decide +kernel
theorem dX1_advance_106 : decode cX1_advance 106 = .ok (.ifCond .eq 53, 3) := by decide +kernel
theorem dX1_advance_109 : decode cX1_advance 109 = .ok (.aload_n 0, 1) := by decide +kernel
theorem dX1_advance_110 : decode cX1_advance 110 = .ok (.iconst 1, 1) := by decide +kernel
theorem dX1_advance_111 : decode cX1_advance 111 = .ok (.putfield 43, 3) := by decide +kernel
theorem dX1_advance_114 : decode cX1_advance 114 = .ok (.iconst 0, 1) := by decide +kernel
theorem dX1_advance_115 : decode cX1_advance 115 = .ok (.istore_n 2, 1) := by decide +kernel
theorem dX1_advance_116 : decode cX1_advance 116 = .ok (.iload_n 2, 1) := by decide +kernel
theorem dX1_advance_117 : decode cX1_advance 117 = .ok (.sipush 160, 3) := by decide +kernel
theorem dX1_advance_120 : decode cX1_advance 120 = .ok (.if_icmp .ge 36, 3) := by decide +kernel
theorem dX1_advance_123 : decode cX1_advance 123 = .ok (.aload_n 0, 1) := by decide +kernel
theorem dX1_advance_124 : decode cX1_advance 124 = .ok (.getfield 12, 3) := by decide +kernel
theorem dX1_advance_127 : decode cX1_advance 127 = .ok (.aload_n 0, 1) := by decide +kernel
theorem dX1_advance_128 : decode cX1_advance 128 = .ok (.getfield 18, 3) := by decide +kernel
theorem dX1_advance_131 : decode cX1_advance 131 = .ok (.invokevirtual 110, 3) := by decide +kernel
theorem dX1_advance_134 : decode cX1_advance 134 = .ok (.invokestatic 114, 3) := by decide +kernel
theorem dX1_advance_137 : decode cX1_advance 137 = .ok (.ifCond .eq 19, 3) := by decide +kernel
theorem dX1_advance_140 : decode cX1_advance 140 = .ok (.aload_n 0, 1) := by decide +kernel
theorem dX1_advance_141 : decode cX1_advance 141 = .ok (.dup, 1) := by decide +kernel
theorem dX1_advance_142 : decode cX1_advance 142 = .ok (.getfield 18, 3) := by decide +kernel
theorem dX1_advance_145 : decode cX1_advance 145 = .ok (.iconst 1, 1) := by decide +kernel
theorem dX1_advance_146 : decode cX1_advance 146 = .ok (.iadd, 1) := by decide +kernel
theorem dX1_advance_147 : decode cX1_advance 147 = .ok (.putfield 18, 3) := by decide +kernel
theorem dX1_advance_150 : decode cX1_advance 150 = .ok (.iinc 2 1, 3) := by decide +kernel
theorem dX1_advance_153 : decode cX1_advance 153 = .ok (.goto (-37), 3) := by decide +kernel
theorem dX1_advance_156 : decode cX1_advance 156 = .ok (.goto 114, 3) := by decide +kernel
theorem dX1_advance_159 : decode cX1_advance 159 = .ok (.iload_n 1, 1) := by decide +kernel
theorem dX1_advance_160 : decode cX1_advance 160 = .ok (.invokestatic 118, 3) := by decide +kernel
theorem dX1_advance_163 : decode cX1_advance 163 = .ok (.ifCond .eq 102, 3) := by decide +kernel
theorem dX1_advance_166 : decode cX1_advance 166 = .ok (.aload_n 0, 1) := by decide +kernel
theorem dX1_advance_167 : decode cX1_advance 167 = .ok (.iload_n 1, 1) := by decide +kernel
theorem dX1_advance_168 : decode cX1_advance 168 = .ok (.bipush 48, 2) := by decide +kernel
theorem dX1_advance_170 : decode cX1_advance 170 = .ok (.isub, 1) := by decide +kernel
theorem dX1_advance_171 : decode cX1_advance 171 = .ok (.putfield 104, 3) := by decide +kernel
theorem dX1_advance_174 : decode cX1_advance 174 = .ok (.iconst 0, 1) := by decide +kernel
theorem dX1_advance_175 : decode cX1_advance 175 = .ok (.istore_n 2, 1) := by decide +kernel
theorem dX1_advance_176 : decode cX1_advance 176 = .ok (.iload_n 2, 1) := by decide +kernel
theorem dX1_advance_177 : decode cX1_advance 177 = .ok (.iconst 2, 1) := by decide +kernel
theorem dX1_advance_178 : decode cX1_advance 178 = .ok (.if_icmp .ge 62, 3) := by decide +kernel
theorem dX1_advance_181 : decode cX1_advance 181 = .ok (.aload_n 0, 1) := by decide +kernel
theorem dX1_advance_182 : decode cX1_advance 182 = .ok (.getfield 12, 3) := by decide +kernel
theorem dX1_advance_185 : decode cX1_advance 185 = .ok (.aload_n 0, 1) := by decide +kernel
theorem dX1_advance_186 : decode cX1_advance 186 = .ok (.getfield 18, 3) := by decide +kernel
theorem dX1_advance_189 : decode cX1_advance 189 = .ok (.invokevirtual 110, 3) := by decide +kernel
theorem dX1_advance_192 : decode cX1_advance 192 = .ok (.invokestatic 118, 3) := by decide +kernel
theorem dX1_advance_195 : decode cX1_advance 195 = .ok (.ifCond .eq 45, 3) := by decide +kernel
theorem dX1_advance_198 : decode cX1_advance 198 = .ok (.aload_n 0, 1) := by decide +kernel
theorem dX1_advance_199 : decode cX1_advance 199 = .ok (.bipush 10, 2) := by decide +kernel
theorem dX1_advance_201 : decode cX1_advance 201 = .ok (.aload_n 0, 1) := by decide +kernel
theorem dX1_advance_202 : decode cX1_advance 202 = .ok (.getfield 104, 3) := by decide +kernel
theorem dX1_advance_205 : decode cX1_advance 205 = .ok (.imul, 1) := by decide +kernel
theorem dX1_advance_206 : decode cX1_advance 206 = .ok (.aload_n 0, 1) := by decide +kernel
theorem dX1_advance_207 : decode cX1_advance 207 = .ok (.getfield 12, 3) := by decide +kernel
theorem dX1_advance_210 : decode cX1_advance 210 = .ok (.aload_n 0, 1) := by decide +kernel
theorem dX1_advance_211 : decode cX1_advance 211 = .ok (.getfield 18, 3) := by decide +kernel
theorem dX1_advance_214 : decode cX1_advance 214 = .ok (.invokevirtual 110, 3) := by decide +kernel
theorem dX1_advance_217 : decode cX1_advance 217 = .ok (.iadd, 1) := by decide +kernel
theorem dX1_advance_218 : decode cX1_advance 218 = .ok (.bipush 48, 2) := by decide +kernel
theorem dX1_advance_220 : decode cX1_advance 220 = .ok (.isub, 1) := by decide +kernel
theorem dX1_advance_221 : decode cX1_advance 221 = .ok (.putfield 104, 3) := by decide +kernel
theorem dX1_advance_224 : decode cX1_advance 224 = .ok (.aload_n 0, 1) := by decide +kernel
theorem dX1_advance_225 : decode cX1_advance 225 = .ok (.dup, 1) := by decide +kernel
theorem dX1_advance_226 : decode cX1_advance 226 = .ok (.getfield 18, 3) := by decide +kernel
theorem dX1_advance_229 : decode cX1_advance 229 = .ok (.iconst 1, 1) := by decide +kernel
theorem dX1_advance_230 : decode cX1_advance 230 = .ok (.iadd, 1) := by decide +kernel
theorem dX1_advance_231 : decode cX1_advance 231 = .ok (.putfield 18, 3) := by decide +kernel
theorem dX1_advance_234 : decode cX1_advance 234 = .ok (.iinc 2 1, 3) := by decide +kernel
theorem dX1_advance_237 : decode cX1_advance 237 = .ok (.goto (-61), 3) := by decide +kernel
theorem dX1_advance_240 : decode cX1_advance 240 = .ok (.aload_n 0, 1) := by decide +kernel
theorem dX1_advance_241 : decode cX1_advance 241 = .ok (.aload_n 0, 1) := by decide +kernel
theorem dX1_advance_242 : decode cX1_advance 242 = .ok (.getfield 18, 3) := by decide +kernel
theorem dX1_advance_245 : decode cX1_advance 245 = .ok (.aload_n 0, 1) := by decide +kernel
theorem dX1_advance_246 : decode cX1_advance 246 = .ok (.getfield 54, 3) := by decide +kernel
theorem dX1_advance_249 : decode cX1_advance 249 = .ok (.isub, 1) := by decide +kernel
theorem dX1_advance_250 : decode cX1_advance 250 = .ok (.iconst 2, 1) := by decide +kernel
theorem dX1_advance_251 : decode cX1_advance 251 = .ok (.if_icmp .le 7, 3) := by decide +kernel
theorem dX1_advance_254 : decode cX1_advance 254 = .ok (.iconst 4, 1) := by decide +kernel
theorem dX1_advance_255 : decode cX1_advance 255 = .ok (.goto 4, 3) := by decide +kernel
theorem dX1_advance_258 : decode cX1_advance 258 = .ok (.iconst 2, 1) := by decide +kernel
theorem dX1_advance_259 : decode cX1_advance 259 = .ok (.putfield 43, 3) := by decide +kernel
theorem dX1_advance_262 : decode cX1_advance 262 = .ok (.goto 8, 3) := by decide +kernel
theorem dX1_advance_265 : decode cX1_advance 265 = .ok (.aload_n 0, 1) := by decide +kernel
theorem dX1_advance_266 : decode cX1_advance 266 = .ok (.iconst 4, 1) := by decide +kernel
theorem dX1_advance_267 : decode cX1_advance 267 = .ok (.putfield 43, 3) := by decide +kernel
theorem dX1_advance_270 : decode cX1_advance 270 = .ok (.aload_n 0, 1) := by decide +kernel
theorem dX1_advance_271 : decode cX1_advance 271 = .ok (.getfield 43, 3) := by decide +kernel
theorem dX1_advance_274 : decode cX1_advance 274 = .ok (.iconst 4, 1) := by decide +kernel
theorem dX1_advance_275 : decode cX1_advance 275 = .ok (.if_icmp .ne 12, 3) := by decide +kernel
theorem dX1_advance_278 : decode cX1_advance 278 = .ok (.aload_n 0, 1) := by decide +kernel
theorem dX1_advance_279 : decode cX1_advance 279 = .ok (.iconst 1, 1) := by decide +kernel
theorem dX1_advance_280 : decode cX1_advance 280 = .ok (.aload_n 0, 1) := by decide +kernel
theorem dX1_advance_281 : decode cX1_advance 281 = .ok (.getfield 54, 3) := by decide +kernel
theorem dX1_advance_284 : decode cX1_advance 284 = .ok (.invokevirtual 57, 3) := by decide +kernel
theorem dX1_advance_287 : decode cX1_advance 287 = .ok (.return_, 1) := by decide +kernel
theorem dX1_isLetter_0 : decode cX1_isLetter 0 = .ok (.iload_n 0, 1) := by decide +kernel
theorem dX1_isLetter_1 : decode cX1_isLetter 1 = .ok (.bipush 97, 2) := by decide +kernel
theorem dX1_isLetter_3 : decode cX1_isLetter 3 = .ok (.if_icmp .lt 13, 3) := by decide +kernel
theorem dX1_isLetter_6 : decode cX1_isLetter 6 = .ok (.iload_n 0, 1) := by decide +kernel
theorem dX1_isLetter_7 : decode cX1_isLetter 7 = .ok (.bipush 122, 2) := by decide +kernel
theorem dX1_isLetter_9 : decode cX1_isLetter 9 = .ok (.if_icmp .gt 7, 3) := by decide +kernel
theorem dX1_isLetter_12 : decode cX1_isLetter 12 = .ok (.iconst 1, 1) := by decide +kernel
theorem dX1_isLetter_13 : decode cX1_isLetter 13 = .ok (.goto 4, 3) := by decide +kernel
theorem dX1_isLetter_16 : decode cX1_isLetter 16 = .ok (.iconst 0, 1) := by decide +kernel
theorem dX1_isLetter_17 : decode cX1_isLetter 17 = .ok (.ireturn, 1) := by decide +kernel
theorem dX1_isFigure_0 : decode cX1_isFigure 0 = .ok (.iload_n 0, 1) := by decide +kernel
theorem dX1_isFigure_1 : decode cX1_isFigure 1 = .ok (.bipush 48, 2) := by decide +kernel
theorem dX1_isFigure_3 : decode cX1_isFigure 3 = .ok (.if_icmp .lt 13, 3) := by decide +kernel
theorem dX1_isFigure_6 : decode cX1_isFigure 6 = .ok (.iload_n 0, 1) := by decide +kernel
theorem dX1_isFigure_7 : decode cX1_isFigure 7 = .ok (.bipush 57, 2) := by decide +kernel
theorem dX1_isFigure_9 : decode cX1_isFigure 9 = .ok (.if_icmp .gt 7, 3) := by decide +kernel
theorem dX1_isFigure_12 : decode cX1_isFigure 12 = .ok (.iconst 1, 1) := by decide +kernel
theorem dX1_isFigure_13 : decode cX1_isFigure 13 = .ok (.goto 4, 3) := by decide +kernel
theorem dX1_isFigure_16 : decode cX1_isFigure 16 = .ok (.iconst 0, 1) := by decide +kernel
theorem dX1_isFigure_17 : decode cX1_isFigure 17 = .ok (.ireturn, 1) := by decide +kernel
theorem dX1_lineOfName_0 : decode cX1_lineOfName 0 = .ok (.aload_n 0, 1) := by decide +kernel
theorem dX1_lineOfName_1 : decode cX1_lineOfName 1 = .ok (.getfield 43, 3) := by decide +kernel
theorem dX1_lineOfName_4 : decode cX1_lineOfName 4 = .ok (.iconst 1, 1) := by decide +kernel
theorem dX1_lineOfName_5 : decode cX1_lineOfName 5 = .ok (.if_icmp .eq 6, 3) := by decide +kernel
theorem dX1_lineOfName_8 : decode cX1_lineOfName 8 = .ok (.bipush 7, 2) := by decide +kernel
theorem dX1_lineOfName_10 : decode cX1_lineOfName 10 = .ok (.ireturn, 1) := by decide +kernel
theorem dX1_lineOfName_11 : decode cX1_lineOfName 11 = .ok (.aload_n 0, 1) := by decide +kernel
theorem dX1_lineOfName_12 : decode cX1_lineOfName 12 = .ok (.ldc 121, 2) := by decide +kernel
theorem dX1_lineOfName_14 : decode cX1_lineOfName 14 = .ok (.invokevirtual 123, 3) := by decide +kernel
theorem dX1_lineOfName_17 : decode cX1_lineOfName 17 = .ok (.ifCond .eq 5, 3) := by decide +kernel
theorem dX1_lineOfName_20 : decode cX1_lineOfName 20 = .ok (.iconst 0, 1) := by decide +kernel
theorem dX1_lineOfName_21 : decode cX1_lineOfName 21 = .ok (.ireturn, 1) := by decide +kernel
theorem dX1_lineOfName_22 : decode cX1_lineOfName 22 = .ok (.aload_n 0, 1) := by decide +kernel
theorem dX1_lineOfName_23 : decode cX1_lineOfName 23 = .ok (.ldc 127, 2) := by decide +kernel
theorem dX1_lineOfName_25 : decode cX1_lineOfName 25 = .ok (.invokevirtual 123, 3) := by decide +kernel
theorem dX1_lineOfName_28 : decode cX1_lineOfName 28 = .ok (.ifCond .eq 5, 3) := by decide +kernel
theorem dX1_lineOfName_31 : decode cX1_lineOfName 31 = .ok (.iconst 1, 1) := by decide +kernel
theorem dX1_lineOfName_32 : decode cX1_lineOfName 32 = .ok (.ireturn, 1) := by decide +kernel
theorem dX1_lineOfName_33 : decode cX1_lineOfName 33 = .ok (.aload_n 0, 1) := by decide +kernel
theorem dX1_lineOfName_34 : decode cX1_lineOfName 34 = .ok (.ldc 129, 2) := by decide +kernel
theorem dX1_lineOfName_36 : decode cX1_lineOfName 36 = .ok (.invokevirtual 123, 3) := by decide +kernel
theorem dX1_lineOfName_39 : decode cX1_lineOfName 39 = .ok (.ifCond .eq 5, 3) := by decide +kernel
theorem dX1_lineOfName_42 : decode cX1_lineOfName 42 = .ok (.iconst 2, 1) := by decide +kernel
theorem dX1_lineOfName_43 : decode cX1_lineOfName 43 = .ok (.ireturn, 1) := by decide +kernel
theorem dX1_lineOfName_44 : decode cX1_lineOfName 44 = .ok (.aload_n 0, 1) := by decide +kernel
theorem dX1_lineOfName_45 : decode cX1_lineOfName 45 = .ok (.ldc 131, 2) := by decide +kernel
theorem dX1_lineOfName_47 : decode cX1_lineOfName 47 = .ok (.invokevirtual 123, 3) := by decide +kernel
theorem dX1_lineOfName_50 : decode cX1_lineOfName 50 = .ok (.ifCond .eq 5, 3) := by decide +kernel
theorem dX1_lineOfName_53 : decode cX1_lineOfName 53 = .ok (.iconst 3, 1) := by decide +kernel
theorem dX1_lineOfName_54 : decode cX1_lineOfName 54 = .ok (.ireturn, 1) := by decide +kernel
theorem dX1_lineOfName_55 : decode cX1_lineOfName 55 = .ok (.aload_n 0, 1) := by decide +kernel
theorem dX1_lineOfName_56 : decode cX1_lineOfName 56 = .ok (.ldc 133, 2) := by decide +kernel
theorem dX1_lineOfName_58 : decode cX1_lineOfName 58 = .ok (.invokevirtual 123, 3) := by decide +kernel
theorem dX1_lineOfName_61 : decode cX1_lineOfName 61 = .ok (.ifCond .eq 5, 3) := by decide +kernel
theorem dX1_lineOfName_64 : decode cX1_lineOfName 64 = .ok (.iconst 4, 1) := by decide +kernel
theorem dX1_lineOfName_65 : decode cX1_lineOfName 65 = .ok (.ireturn, 1) := by decide +kernel
theorem dX1_lineOfName_66 : decode cX1_lineOfName 66 = .ok (.aload_n 0, 1) := by decide +kernel
theorem dX1_lineOfName_67 : decode cX1_lineOfName 67 = .ok (.ldc 134, 2) := by decide +kernel
theorem dX1_lineOfName_69 : decode cX1_lineOfName 69 = .ok (.invokevirtual 123, 3) := by decide +kernel
theorem dX1_lineOfName_72 : decode cX1_lineOfName 72 = .ok (.ifCond .eq 5, 3) := by decide +kernel
theorem dX1_lineOfName_75 : decode cX1_lineOfName 75 = .ok (.iconst 5, 1) := by decide +kernel
theorem dX1_lineOfName_76 : decode cX1_lineOfName 76 = .ok (.ireturn, 1) := by decide +kernel
theorem dX1_lineOfName_77 : decode cX1_lineOfName 77 = .ok (.aload_n 0, 1) := by decide +kernel
theorem dX1_lineOfName_78 : decode cX1_lineOfName 78 = .ok (.ldc 135, 2) := by decide +kernel
theorem dX1_lineOfName_80 : decode cX1_lineOfName 80 = .ok (.invokevirtual 123, 3) := by decide +kernel
theorem dX1_lineOfName_83 : decode cX1_lineOfName 83 = .ok (.ifCond .eq 8, 3) := by decide +kernel
theorem dX1_lineOfName_86 : decode cX1_lineOfName 86 = .ok (.bipush 6, 2) := by decide +kernel
theorem dX1_lineOfName_88 : decode cX1_lineOfName 88 = .ok (.goto 5, 3) := by decide +kernel
theorem dX1_lineOfName_91 : decode cX1_lineOfName 91 = .ok (.bipush 7, 2) := by decide +kernel
theorem dX1_lineOfName_93 : decode cX1_lineOfName 93 = .ok (.ireturn, 1) := by decide +kernel
theorem dX1_nameIs_0 : decode cX1_nameIs 0 = .ok (.aload_n 0, 1) := by decide +kernel
theorem dX1_nameIs_1 : decode cX1_nameIs 1 = .ok (.getfield 18, 3) := by decide +kernel
theorem dX1_nameIs_4 : decode cX1_nameIs 4 = .ok (.aload_n 0, 1) := by decide +kernel
theorem dX1_nameIs_5 : decode cX1_nameIs 5 = .ok (.getfield 54, 3) := by decide +kernel
theorem dX1_nameIs_8 : decode cX1_nameIs 8 = .ok (.isub, 1) := by decide +kernel
theorem dX1_nameIs_9 : decode cX1_nameIs 9 = .ok (.aload_n 1, 1) := by decide +kernel
theorem dX1_nameIs_10 : decode cX1_nameIs 10 = .ok (.invokevirtual 137, 3) := by decide +kernel
theorem dX1_nameIs_13 : decode cX1_nameIs 13 = .ok (.if_icmp .eq 5, 3) := by decide +kernel
theorem dX1_nameIs_16 : decode cX1_nameIs 16 = .ok (.iconst 0, 1) := by decide +kernel
theorem dX1_nameIs_17 : decode cX1_nameIs 17 = .ok (.ireturn, 1) := by decide +kernel
theorem dX1_nameIs_18 : decode cX1_nameIs 18 = .ok (.iconst 0, 1) := by decide +kernel
theorem dX1_nameIs_19 : decode cX1_nameIs 19 = .ok (.istore_n 2, 1) := by decide +kernel
theorem dX1_nameIs_20 : decode cX1_nameIs 20 = .ok (.iload_n 2, 1) := by decide +kernel
theorem dX1_nameIs_21 : decode cX1_nameIs 21 = .ok (.aload_n 1, 1) := by decide +kernel
theorem dX1_nameIs_22 : decode cX1_nameIs 22 = .ok (.invokevirtual 137, 3) := by decide +kernel
theorem dX1_nameIs_25 : decode cX1_nameIs 25 = .ok (.if_icmp .ge 32, 3) := by decide +kernel
theorem dX1_nameIs_28 : decode cX1_nameIs 28 = .ok (.aload_n 0, 1) := by decide +kernel
theorem dX1_nameIs_29 : decode cX1_nameIs 29 = .ok (.getfield 12, 3) := by decide +kernel
theorem dX1_nameIs_32 : decode cX1_nameIs 32 = .ok (.aload_n 0, 1) := by decide +kernel
theorem dX1_nameIs_33 : decode cX1_nameIs 33 = .ok (.getfield 54, 3) := by decide +kernel
theorem dX1_nameIs_36 : decode cX1_nameIs 36 = .ok (.iload_n 2, 1) := by decide +kernel
theorem dX1_nameIs_37 : decode cX1_nameIs 37 = .ok (.iadd, 1) := by decide +kernel
theorem dX1_nameIs_38 : decode cX1_nameIs 38 = .ok (.invokevirtual 110, 3) := by decide +kernel
theorem dX1_nameIs_41 : decode cX1_nameIs 41 = .ok (.aload_n 1, 1) := by decide +kernel
theorem dX1_nameIs_42 : decode cX1_nameIs 42 = .ok (.iload_n 2, 1) := by decide +kernel
theorem dX1_nameIs_43 : decode cX1_nameIs 43 = .ok (.invokevirtual 142, 3) := by decide +kernel
theorem dX1_nameIs_46 : decode cX1_nameIs 46 = .ok (.if_icmp .eq 5, 3) := by decide +kernel
theorem dX1_nameIs_49 : decode cX1_nameIs 49 = .ok (.iconst 0, 1) := by decide +kernel
theorem dX1_nameIs_50 : decode cX1_nameIs 50 = .ok (.ireturn, 1) := by decide +kernel
theorem dX1_nameIs_51 : decode cX1_nameIs 51 = .ok (.iinc 2 1, 3) := by decide +kernel
theorem dX1_nameIs_54 : decode cX1_nameIs 54 = .ok (.goto (-34), 3) := by decide +kernel
theorem dX1_nameIs_57 : decode cX1_nameIs 57 = .ok (.iconst 1, 1) := by decide +kernel
theorem dX1_nameIs_58 : decode cX1_nameIs 58 = .ok (.ireturn, 1) := by decide +kernel
theorem dX2_init_0 : decode cX2_init 0 = .ok (.aload_n 0, 1) := by decide +kernel
theorem dX2_init_1 : decode cX2_init 1 = .ok (.invokespecial 3, 3) := by decide +kernel
theorem dX2_init_4 : decode cX2_init 4 = .ok (.aload_n 0, 1) := by decide +kernel
theorem dX2_init_5 : decode cX2_init 5 = .ok (.bipush 6, 2) := by decide +kernel
theorem dX2_init_7 : decode cX2_init 7 = .ok (.newarray .int, 2) := by decide +kernel
theorem dX2_init_9 : decode cX2_init 9 = .ok (.putfield 9, 3) := by decide +kernel
theorem dX2_init_12 : decode cX2_init 12 = .ok (.aload_n 0, 1) := by decide +kernel
theorem dX2_init_13 : decode cX2_init 13 = .ok (.bipush 6, 2) := by decide +kernel
theorem dX2_init_15 : decode cX2_init 15 = .ok (.newarray .int, 2) := by decide +kernel
theorem dX2_init_17 : decode cX2_init 17 = .ok (.putfield 15, 3) := by decide +kernel
theorem dX2_init_20 : decode cX2_init 20 = .ok (.aload_n 0, 1) := by decide +kernel
theorem dX2_init_21 : decode cX2_init 21 = .ok (.bipush 6, 2) := by decide +kernel
theorem dX2_init_23 : decode cX2_init 23 = .ok (.newarray .int, 2) := by decide +kernel
theorem dX2_init_25 : decode cX2_init 25 = .ok (.putfield 18, 3) := by decide +kernel
theorem dX2_init_28 : decode cX2_init 28 = .ok (.return_, 1) := by decide +kernel
theorem dX2_take_0 : decode cX2_take 0 = .ok (.aload_n 0, 1) := by decide +kernel
theorem dX2_take_1 : decode cX2_take 1 = .ok (.getfield 21, 3) := by decide +kernel
theorem dX2_take_4 : decode cX2_take 4 = .ok (.bipush 6, 2) := by decide +kernel
theorem dX2_take_6 : decode cX2_take 6 = .ok (.if_icmp .lt 5, 3) := by decide +kernel
theorem dX2_take_9 : decode cX2_take 9 = .ok (.iconst 0, 1) := by decide +kernel
theorem dX2_take_10 : decode cX2_take 10 = .ok (.ireturn, 1) := by decide +kernel
theorem dX2_take_11 : decode cX2_take 11 = .ok (.aload_n 0, 1) := by decide +kernel
theorem dX2_take_12 : decode cX2_take 12 = .ok (.getfield 9, 3) := by decide +kernel
theorem dX2_take_15 : decode cX2_take 15 = .ok (.aload_n 0, 1) := by decide +kernel
theorem dX2_take_16 : decode cX2_take 16 = .ok (.getfield 21, 3) := by decide +kernel
theorem dX2_take_19 : decode cX2_take 19 = .ok (.iload_n 1, 1) := by decide +kernel
theorem dX2_take_20 : decode cX2_take 20 = .ok (.iastore, 1) := by decide +kernel
theorem dX2_take_21 : decode cX2_take 21 = .ok (.aload_n 0, 1) := by decide +kernel
theorem dX2_take_22 : decode cX2_take 22 = .ok (.getfield 15, 3) := by decide +kernel
theorem dX2_take_25 : decode cX2_take 25 = .ok (.aload_n 0, 1) := by decide +kernel
theorem dX2_take_26 : decode cX2_take 26 = .ok (.getfield 21, 3) := by decide +kernel
theorem dX2_take_29 : decode cX2_take 29 = .ok (.iload_n 2, 1) := by decide +kernel
theorem dX2_take_30 : decode cX2_take 30 = .ok (.iastore, 1) := by decide +kernel
theorem dX2_take_31 : decode cX2_take 31 = .ok (.aload_n 0, 1) := by decide +kernel
theorem dX2_take_32 : decode cX2_take 32 = .ok (.getfield 18, 3) := by decide +kernel
theorem dX2_take_35 : decode cX2_take 35 = .ok (.aload_n 0, 1) := by decide +kernel
theorem dX2_take_36 : decode cX2_take 36 = .ok (.getfield 21, 3) := by decide +kernel
theorem dX2_take_39 : decode cX2_take 39 = .ok (.iload_n 3, 1) := by decide +kernel
theorem dX2_take_40 : decode cX2_take 40 = .ok (.iastore, 1) := by decide +kernel
theorem dX2_take_41 : decode cX2_take 41 = .ok (.aload_n 0, 1) := by decide +kernel
theorem dX2_take_42 : decode cX2_take 42 = .ok (.dup, 1) := by decide +kernel
theorem dX2_take_43 : decode cX2_take 43 = .ok (.getfield 21, 3) := by decide +kernel
theorem dX2_take_46 : decode cX2_take 46 = .ok (.iconst 1, 1) := by decide +kernel
theorem dX2_take_47 : decode cX2_take 47 = .ok (.iadd, 1) := by decide +kernel
theorem dX2_take_48 : decode cX2_take 48 = .ok (.putfield 21, 3) := by decide +kernel
theorem dX2_take_51 : decode cX2_take 51 = .ok (.iconst 1, 1) := by decide +kernel
theorem dX2_take_52 : decode cX2_take 52 = .ok (.ireturn, 1) := by decide +kernel
theorem dX2_agrees_0 : decode cX2_agrees 0 = .ok (.iconst 0, 1) := by decide +kernel
theorem dX2_agrees_1 : decode cX2_agrees 1 = .ok (.istore_n 2, 1) := by decide +kernel
theorem dX2_agrees_2 : decode cX2_agrees 2 = .ok (.iload_n 2, 1) := by decide +kernel
theorem dX2_agrees_3 : decode cX2_agrees 3 = .ok (.aload_n 0, 1) := by decide +kernel
theorem dX2_agrees_4 : decode cX2_agrees 4 = .ok (.getfield 21, 3) := by decide +kernel
theorem dX2_agrees_7 : decode cX2_agrees 7 = .ok (.if_icmp .ge 49, 3) := by decide +kernel
theorem dX2_agrees_10 : decode cX2_agrees 10 = .ok (.aload_n 0, 1) := by decide +kernel
theorem dX2_agrees_11 : decode cX2_agrees 11 = .ok (.getfield 9, 3) := by decide +kernel
theorem dX2_agrees_14 : decode cX2_agrees 14 = .ok (.iload_n 2, 1) := by decide +kernel
theorem dX2_agrees_15 : decode cX2_agrees 15 = .ok (.iaload, 1) := by decide +kernel
theorem dX2_agrees_16 : decode cX2_agrees 16 = .ok (.istore_n 3, 1) := by decide +kernel
theorem dX2_agrees_17 : decode cX2_agrees 17 = .ok (.iload_n 3, 1) := by decide +kernel
theorem dX2_agrees_18 : decode cX2_agrees 18 = .ok (.ifCond .lt 30, 3) := by decide +kernel
theorem dX2_agrees_21 : decode cX2_agrees 21 = .ok (.iload_n 3, 1) := by decide +kernel
theorem dX2_agrees_22 : decode cX2_agrees 22 = .ok (.aload_n 1, 1) := by decide +kernel
theorem dX2_agrees_23 : decode cX2_agrees 23 = .ok (.arraylength, 1) := by decide +kernel
theorem dX2_agrees_24 : decode cX2_agrees 24 = .ok (.if_icmp .ge 24, 3) := by decide +kernel
theorem dX2_agrees_27 : decode cX2_agrees 27 = .ok (.aload_n 1, 1) := by decide +kernel
theorem dX2_agrees_28 : decode cX2_agrees 28 = .ok (.iload_n 3, 1) := by decide +kernel
theorem dX2_agrees_29 : decode cX2_agrees 29 = .ok (.iaload, 1) := by decide +kernel
theorem dX2_agrees_30 : decode cX2_agrees 30 = .ok (.aload_n 0, 1) := by decide +kernel
theorem dX2_agrees_31 : decode cX2_agrees 31 = .ok (.getfield 15, 3) := by decide +kernel
theorem dX2_agrees_34 : decode cX2_agrees 34 = .ok (.iload_n 2, 1) := by decide +kernel
theorem dX2_agrees_35 : decode cX2_agrees 35 = .ok (.iaload, 1) := by decide +kernel
theorem dX2_agrees_36 : decode cX2_agrees 36 = .ok (.invokestatic 25, 3) := by decide +kernel
theorem dX2_agrees_39 : decode cX2_agrees 39 = .ok (.aload_n 0, 1) := by decide +kernel
theorem dX2_agrees_40 : decode cX2_agrees 40 = .ok (.getfield 18, 3) := by decide +kernel
theorem dX2_agrees_43 : decode cX2_agrees 43 = .ok (.iload_n 2, 1) := by decide +kernel
theorem dX2_agrees_44 : decode cX2_agrees 44 = .ok (.iaload, 1) := by decide +kernel
theorem dX2_agrees_45 : decode cX2_agrees 45 = .ok (.if_icmp .eq 5, 3) := by decide +kernel
theorem dX2_agrees_48 : decode cX2_agrees 48 = .ok (.iconst 0, 1) := by decide +kernel
theorem dX2_agrees_49 : decode cX2_agrees 49 = .ok (.ireturn, 1) := by decide +kernel
theorem dX2_agrees_50 : decode cX2_agrees 50 = .ok (.iinc 2 1, 3) := by decide +kernel
theorem dX2_agrees_53 : decode cX2_agrees 53 = .ok (.goto (-51), 3) := by decide +kernel
theorem dX2_agrees_56 : decode cX2_agrees 56 = .ok (.iconst 1, 1) := by decide +kernel
theorem dX2_agrees_57 : decode cX2_agrees 57 = .ok (.ireturn, 1) := by decide +kernel
theorem dX3_init_0 : decode cX3_init 0 = .ok (.aload_n 0, 1) := by decide +kernel
theorem dX3_init_1 : decode cX3_init 1 = .ok (.invokespecial 3, 3) := by decide +kernel
theorem dX3_init_4 : decode cX3_init 4 = .ok (.aload_n 0, 1) := by decide +kernel
theorem dX3_init_5 : decode cX3_init 5 = .ok (.bipush 40, 2) := by decide +kernel
theorem dX3_init_7 : decode cX3_init 7 = .ok (.newarray .int, 2) := by decide +kernel
theorem dX3_init_9 : decode cX3_init 9 = .ok (.putfield 9, 3) := by decide +kernel
theorem dX3_init_12 : decode cX3_init 12 = .ok (.aload_n 0, 1) := by decide +kernel
theorem dX3_init_13 : decode cX3_init 13 = .ok (.bipush (-4), 2) := by decide +kernel
theorem dX3_init_15 : decode cX3_init 15 = .ok (.putfield 15, 3) := by decide +kernel
theorem dX3_init_18 : decode cX3_init 18 = .ok (.return_, 1) := by decide +kernel
theorem dX3_renew_0 : decode cX3_renew 0 = .ok (.aload_n 0, 1) := by decide +kernel
theorem dX3_renew_1 : decode cX3_renew 1 = .ok (.iload_n 1, 1) := by decide +kernel
theorem dX3_renew_2 : decode cX3_renew 2 = .ok (.putfield 19, 3) := by decide +kernel
theorem dX3_renew_5 : decode cX3_renew 5 = .ok (.aload_n 0, 1) := by decide +kernel
theorem dX3_renew_6 : decode cX3_renew 6 = .ok (.iconst 0, 1) := by decide +kernel
theorem dX3_renew_7 : decode cX3_renew 7 = .ok (.iload_n 2, 1) := by decide +kernel
theorem dX3_renew_8 : decode cX3_renew 8 = .ok (.bipush 40, 2) := by decide +kernel
theorem dX3_renew_10 : decode cX3_renew 10 = .ok (.invokestatic 22, 3) := by decide +kernel
theorem dX3_renew_13 : decode cX3_renew 13 = .ok (.invokestatic 28, 3) := by decide +kernel
theorem dX3_renew_16 : decode cX3_renew 16 = .ok (.putfield 15, 3) := by decide +kernel
theorem dX3_renew_19 : decode cX3_renew 19 = .ok (.iconst 0, 1) := by decide +kernel
theorem dX3_renew_20 : decode cX3_renew 20 = .ok (.istore_n 3, 1) := by decide +kernel
theorem dX3_renew_21 : decode cX3_renew 21 = .ok (.iload_n 3, 1) := by decide +kernel
theorem dX3_renew_22 : decode cX3_renew 22 = .ok (.aload_n 0, 1) := by decide +kernel
theorem dX3_renew_23 : decode cX3_renew 23 = .ok (.getfield 9, 3) := by decide +kernel
theorem dX3_renew_26 : decode cX3_renew 26 = .ok (.arraylength, 1) := by decide +kernel
theorem dX3_renew_27 : decode cX3_renew 27 = .ok (.if_icmp .ge 16, 3) := by decide +kernel
theorem dX3_renew_30 : decode cX3_renew 30 = .ok (.aload_n 0, 1) := by decide +kernel
theorem dX3_renew_31 : decode cX3_renew 31 = .ok (.getfield 9, 3) := by decide +kernel
theorem dX3_renew_34 : decode cX3_renew 34 = .ok (.iload_n 3, 1) := by decide +kernel
theorem dX3_renew_35 : decode cX3_renew 35 = .ok (.iconst 0, 1) := by decide +kernel
theorem dX3_renew_36 : decode cX3_renew 36 = .ok (.iastore, 1) := by decide +kernel
theorem dX3_renew_37 : decode cX3_renew 37 = .ok (.iinc 3 1, 3) := by decide +kernel
theorem dX3_renew_40 : decode cX3_renew 40 = .ok (.goto (-19), 3) := by decide +kernel
theorem dX3_renew_43 : decode cX3_renew 43 = .ok (.return_, 1) := by decide +kernel
theorem dX3_faultAt_0 : decode cX3_faultAt 0 = .ok (.aload_n 0, 1) := by decide +kernel
theorem dX3_faultAt_1 : decode cX3_faultAt 1 = .ok (.getfield 15, 3) := by decide +kernel
theorem dX3_faultAt_4 : decode cX3_faultAt 4 = .ok (.ifCond .ge 5, 3) := by decide +kernel
theorem dX3_faultAt_7 : decode cX3_faultAt 7 = .ok (.iconst 1, 1) := by decide +kernel
theorem dX3_faultAt_8 : decode cX3_faultAt 8 = .ok (.ireturn, 1) := by decide +kernel
theorem dX3_faultAt_9 : decode cX3_faultAt 9 = .ok (.iload_n 1, 1) := by decide +kernel
theorem dX3_faultAt_10 : decode cX3_faultAt 10 = .ok (.aload_n 0, 1) := by decide +kernel
theorem dX3_faultAt_11 : decode cX3_faultAt 11 = .ok (.getfield 19, 3) := by decide +kernel
theorem dX3_faultAt_14 : decode cX3_faultAt 14 = .ok (.if_icmp .eq 5, 3) := by decide +kernel
theorem dX3_faultAt_17 : decode cX3_faultAt 17 = .ok (.iconst 3, 1) := by decide +kernel
theorem dX3_faultAt_18 : decode cX3_faultAt 18 = .ok (.ireturn, 1) := by decide +kernel
theorem dX3_faultAt_19 : decode cX3_faultAt 19 = .ok (.lload_n 2, 1) := by decide +kernel
theorem dX3_faultAt_20 : decode cX3_faultAt 20 = .ok (.lconst 0, 1) := by decide +kernel
theorem dX3_faultAt_21 : decode cX3_faultAt 21 = .ok (.lcmp, 1) := by decide +kernel
theorem dX3_faultAt_22 : decode cX3_faultAt 22 = .ok (.ifCond .lt 13, 3) := by decide +kernel
theorem dX3_faultAt_25 : decode cX3_faultAt 25 = .ok (.lload_n 2, 1) := by decide +kernel
theorem dX3_faultAt_26 : decode cX3_faultAt 26 = .ok (.aload_n 0, 1) := by decide +kernel
theorem dX3_faultAt_27 : decode cX3_faultAt 27 = .ok (.getfield 15, 3) := by decide +kernel
theorem dX3_faultAt_30 : decode cX3_faultAt 30 = .ok (.i2l, 1) := by decide +kernel
theorem dX3_faultAt_31 : decode cX3_faultAt 31 = .ok (.lcmp, 1) := by decide +kernel
theorem dX3_faultAt_32 : decode cX3_faultAt 32 = .ok (.ifCond .lt 7, 3) := by decide +kernel
theorem dX3_faultAt_35 : decode cX3_faultAt 35 = .ok (.iconst 2, 1) := by decide +kernel
theorem dX3_faultAt_36 : decode cX3_faultAt 36 = .ok (.goto 4, 3) := by decide +kernel
theorem dX3_faultAt_39 : decode cX3_faultAt 39 = .ok (.iconst 0, 1) := by decide +kernel
theorem dX3_faultAt_40 : decode cX3_faultAt 40 = .ok (.ireturn, 1) := by decide +kernel
theorem dX3_faultOfTwo_0 : decode cX3_faultOfTwo 0 = .ok (.aload_n 0, 1) := by decide +kernel
theorem dX3_faultOfTwo_1 : decode cX3_faultOfTwo 1 = .ok (.iload_n 1, 1) := by decide +kernel
theorem dX3_faultOfTwo_2 : decode cX3_faultOfTwo 2 = .ok (.lload_n 2, 1) := by decide +kernel
theorem dX3_faultOfTwo_3 : decode cX3_faultOfTwo 3 = .ok (.invokevirtual 31, 3) := by decide +kernel
theorem dX3_faultOfTwo_6 : decode cX3_faultOfTwo 6 = .ok (.istore 4, 2) := by decide +kernel
theorem dX3_faultOfTwo_8 : decode cX3_faultOfTwo 8 = .ok (.iload 4, 2) := by decide +kernel
theorem dX3_faultOfTwo_10 : decode cX3_faultOfTwo 10 = .ok (.ifCond .eq 8, 3) := by decide +kernel
theorem dX3_faultOfTwo_13 : decode cX3_faultOfTwo 13 = .ok (.iload 4, 2) := by decide +kernel
theorem dX3_faultOfTwo_15 : decode cX3_faultOfTwo 15 = .ok (.goto 11, 3) := by decide +kernel
theorem dX3_faultOfTwo_18 : decode cX3_faultOfTwo 18 = .ok (.aload_n 0, 1) := by decide +kernel
theorem dX3_faultOfTwo_19 : decode cX3_faultOfTwo 19 = .ok (.iload_n 1, 1) := by decide +kernel
theorem dX3_faultOfTwo_20 : decode cX3_faultOfTwo 20 = .ok (.lload_n 2, 1) := by decide +kernel
theorem dX3_faultOfTwo_21 : decode cX3_faultOfTwo 21 = .ok (.lconst 1, 1) := by decide +kernel
theorem dX3_faultOfTwo_22 : decode cX3_faultOfTwo 22 = .ok (.ladd, 1) := by decide +kernel
theorem dX3_faultOfTwo_23 : decode cX3_faultOfTwo 23 = .ok (.invokevirtual 31, 3) := by decide +kernel
theorem dX3_faultOfTwo_26 : decode cX3_faultOfTwo 26 = .ok (.ireturn, 1) := by decide +kernel
theorem dX3_put_0 : decode cX3_put 0 = .ok (.iload_n 1, 1) := by decide +kernel
theorem dX3_put_1 : decode cX3_put 1 = .ok (.ifCond .lt 30, 3) := by decide +kernel
theorem dX3_put_4 : decode cX3_put 4 = .ok (.iload_n 1, 1) := by decide +kernel
theorem dX3_put_5 : decode cX3_put 5 = .ok (.aload_n 0, 1) := by decide +kernel
theorem dX3_put_6 : decode cX3_put 6 = .ok (.getfield 15, 3) := by decide +kernel
theorem dX3_put_9 : decode cX3_put 9 = .ok (.if_icmp .ge 22, 3) := by decide +kernel
theorem dX3_put_12 : decode cX3_put 12 = .ok (.aload_n 0, 1) := by decide +kernel
theorem dX3_put_13 : decode cX3_put 13 = .ok (.getfield 9, 3) := by decide +kernel
theorem dX3_put_16 : decode cX3_put 16 = .ok (.iload_n 1, 1) := by decide +kernel
theorem dX3_put_17 : decode cX3_put 17 = .ok (.aload_n 0, 1) := by decide +kernel
theorem dX3_put_18 : decode cX3_put 18 = .ok (.getfield 19, 3) := by decide +kernel
theorem dX3_put_21 : decode cX3_put 21 = .ok (.ifCond .ne 8, 3) := by decide +kernel
theorem dX3_put_24 : decode cX3_put 24 = .ok (.iload_n 2, 1) := by decide +kernel
theorem dX3_put_25 : decode cX3_put 25 = .ok (.i2s, 1) := by decide +kernel
theorem dX3_put_26 : decode cX3_put 26 = .ok (.goto 4, 3) := by decide +kernel
theorem dX3_put_29 : decode cX3_put 29 = .ok (.iload_n 2, 1) := by decide +kernel
theorem dX3_put_30 : decode cX3_put 30 = .ok (.iastore, 1) := by decide +kernel
theorem dX3_put_31 : decode cX3_put 31 = .ok (.return_, 1) := by decide +kernel
theorem dX3_cellAt_0 : decode cX3_cellAt 0 = .ok (.lload_n 1, 1) := by decide +kernel
theorem dX3_cellAt_1 : decode cX3_cellAt 1 = .ok (.lconst 0, 1) := by decide +kernel
theorem dX3_cellAt_2 : decode cX3_cellAt 2 = .ok (.lcmp, 1) := by decide +kernel
theorem dX3_cellAt_3 : decode cX3_cellAt 3 = .ok (.ifCond .lt 23, 3) := by decide +kernel
theorem dX3_cellAt_6 : decode cX3_cellAt 6 = .ok (.lload_n 1, 1) := by decide +kernel
theorem dX3_cellAt_7 : decode cX3_cellAt 7 = .ok (.aload_n 0, 1) := by decide +kernel
theorem dX3_cellAt_8 : decode cX3_cellAt 8 = .ok (.getfield 15, 3) := by decide +kernel
theorem dX3_cellAt_11 : decode cX3_cellAt 11 = .ok (.i2l, 1) := by decide +kernel
theorem dX3_cellAt_12 : decode cX3_cellAt 12 = .ok (.lcmp, 1) := by decide +kernel
theorem dX3_cellAt_13 : decode cX3_cellAt 13 = .ok (.ifCond .ge 13, 3) := by decide +kernel
theorem dX3_cellAt_16 : decode cX3_cellAt 16 = .ok (.aload_n 0, 1) := by decide +kernel
theorem dX3_cellAt_17 : decode cX3_cellAt 17 = .ok (.getfield 9, 3) := by decide +kernel
theorem dX3_cellAt_20 : decode cX3_cellAt 20 = .ok (.lload_n 1, 1) := by decide +kernel
theorem dX3_cellAt_21 : decode cX3_cellAt 21 = .ok (.l2i, 1) := by decide +kernel
theorem dX3_cellAt_22 : decode cX3_cellAt 22 = .ok (.iaload, 1) := by decide +kernel
theorem dX3_cellAt_23 : decode cX3_cellAt 23 = .ok (.goto 4, 3) := by decide +kernel
theorem dX3_cellAt_26 : decode cX3_cellAt 26 = .ok (.iconst 0, 1) := by decide +kernel
theorem dX3_cellAt_27 : decode cX3_cellAt 27 = .ok (.ireturn, 1) := by decide +kernel
theorem dX4_init_0 : decode cX4_init 0 = .ok (.aload_n 0, 1) := by decide +kernel
theorem dX4_init_1 : decode cX4_init 1 = .ok (.invokespecial 3, 3) := by decide +kernel
theorem dX4_init_4 : decode cX4_init 4 = .ok (.aload_n 0, 1) := by decide +kernel
theorem dX4_init_5 : decode cX4_init 5 = .ok (.sipush 160, 3) := by decide +kernel
theorem dX4_init_8 : decode cX4_init 8 = .ok (.newarray .byte, 2) := by decide +kernel
theorem dX4_init_10 : decode cX4_init 10 = .ok (.putfield 9, 3) := by decide +kernel
theorem dX4_init_13 : decode cX4_init 13 = .ok (.return_, 1) := by decide +kernel
theorem dX4_take_0 : decode cX4_take 0 = .ok (.aload_n 0, 1) := by decide +kernel
theorem dX4_take_1 : decode cX4_take 1 = .ok (.getfield 15, 3) := by decide +kernel
theorem dX4_take_4 : decode cX4_take 4 = .ok (.sipush 160, 3) := by decide +kernel
theorem dX4_take_7 : decode cX4_take 7 = .ok (.if_icmp .lt 5, 3) := by decide +kernel
theorem dX4_take_10 : decode cX4_take 10 = .ok (.iconst 0, 1) := by decide +kernel
theorem dX4_take_11 : decode cX4_take 11 = .ok (.ireturn, 1) := by decide +kernel
theorem dX4_take_12 : decode cX4_take 12 = .ok (.aload_n 0, 1) := by decide +kernel
theorem dX4_take_13 : decode cX4_take 13 = .ok (.getfield 9, 3) := by decide +kernel
theorem dX4_take_16 : decode cX4_take 16 = .ok (.aload_n 0, 1) := by decide +kernel
theorem dX4_take_17 : decode cX4_take 17 = .ok (.getfield 15, 3) := by decide +kernel
theorem dX4_take_20 : decode cX4_take 20 = .ok (.iload_n 1, 1) := by decide +kernel
theorem dX4_take_21 : decode cX4_take 21 = .ok (.i2b, 1) := by decide +kernel
theorem dX4_take_22 : decode cX4_take 22 = .ok (.bastore, 1) := by decide +kernel
theorem dX4_take_23 : decode cX4_take 23 = .ok (.aload_n 0, 1) := by decide +kernel
theorem dX4_take_24 : decode cX4_take 24 = .ok (.dup, 1) := by decide +kernel
theorem dX4_take_25 : decode cX4_take 25 = .ok (.getfield 15, 3) := by decide +kernel
theorem dX4_take_28 : decode cX4_take 28 = .ok (.iconst 1, 1) := by decide +kernel
theorem dX4_take_29 : decode cX4_take 29 = .ok (.iadd, 1) := by decide +kernel
theorem dX4_take_30 : decode cX4_take 30 = .ok (.putfield 15, 3) := by decide +kernel
theorem dX4_take_33 : decode cX4_take 33 = .ok (.iconst 1, 1) := by decide +kernel
theorem dX4_take_34 : decode cX4_take 34 = .ok (.ireturn, 1) := by decide +kernel
theorem dX4_byteAt_0 : decode cX4_byteAt 0 = .ok (.iload_n 1, 1) := by decide +kernel
theorem dX4_byteAt_1 : decode cX4_byteAt 1 = .ok (.ifCond .lt 20, 3) := by decide +kernel
theorem dX4_byteAt_4 : decode cX4_byteAt 4 = .ok (.iload_n 1, 1) := by decide +kernel
theorem dX4_byteAt_5 : decode cX4_byteAt 5 = .ok (.aload_n 0, 1) := by decide +kernel
theorem dX4_byteAt_6 : decode cX4_byteAt 6 = .ok (.getfield 15, 3) := by decide +kernel
theorem dX4_byteAt_9 : decode cX4_byteAt 9 = .ok (.if_icmp .ge 12, 3) := by decide +kernel
theorem dX4_byteAt_12 : decode cX4_byteAt 12 = .ok (.aload_n 0, 1) := by decide +kernel
theorem dX4_byteAt_13 : decode cX4_byteAt 13 = .ok (.getfield 9, 3) := by decide +kernel
theorem dX4_byteAt_16 : decode cX4_byteAt 16 = .ok (.iload_n 1, 1) := by decide +kernel
theorem dX4_byteAt_17 : decode cX4_byteAt 17 = .ok (.baload, 1) := by decide +kernel
theorem dX4_byteAt_18 : decode cX4_byteAt 18 = .ok (.goto 4, 3) := by decide +kernel
theorem dX4_byteAt_21 : decode cX4_byteAt 21 = .ok (.iconst (-1), 1) := by decide +kernel
theorem dX4_byteAt_22 : decode cX4_byteAt 22 = .ok (.ireturn, 1) := by decide +kernel
theorem dX5_init_0 : decode cX5_init 0 = .ok (.aload_n 0, 1) := by decide +kernel
theorem dX5_init_1 : decode cX5_init 1 = .ok (.invokespecial 3, 3) := by decide +kernel
theorem dX5_init_4 : decode cX5_init 4 = .ok (.return_, 1) := by decide +kernel
theorem dX5_begin_0 : decode cX5_begin 0 = .ok (.aload_n 0, 1) := by decide +kernel
theorem dX5_begin_1 : decode cX5_begin 1 = .ok (.iload_n 1, 1) := by decide +kernel
theorem dX5_begin_2 : decode cX5_begin 2 = .ok (.putfield 9, 3) := by decide +kernel
theorem dX5_begin_5 : decode cX5_begin 5 = .ok (.aload_n 0, 1) := by decide +kernel
theorem dX5_begin_6 : decode cX5_begin 6 = .ok (.iload_n 2, 1) := by decide +kernel
theorem dX5_begin_7 : decode cX5_begin 7 = .ok (.putfield 15, 3) := by decide +kernel
theorem dX5_begin_10 : decode cX5_begin 10 = .ok (.aload_n 0, 1) := by decide +kernel
theorem dX5_begin_11 : decode cX5_begin 11 = .ok (.iload_n 3, 1) := by decide +kernel
theorem dX5_begin_12 : decode cX5_begin 12 = .ok (.putfield 18, 3) := by decide +kernel
theorem dX5_begin_15 : decode cX5_begin 15 = .ok (.aload_n 0, 1) := by decide +kernel
theorem dX5_begin_16 : decode cX5_begin 16 = .ok (.iconst 0, 1) := by decide +kernel
theorem dX5_begin_17 : decode cX5_begin 17 = .ok (.putfield 21, 3) := by decide +kernel
theorem dX5_begin_20 : decode cX5_begin 20 = .ok (.aload_n 0, 1) := by decide +kernel
theorem dX5_begin_21 : decode cX5_begin 21 = .ok (.iconst 0, 1) := by decide +kernel
theorem dX5_begin_22 : decode cX5_begin 22 = .ok (.putfield 24, 3) := by decide +kernel
theorem dX5_begin_25 : decode cX5_begin 25 = .ok (.aload_n 0, 1) := by decide +kernel
theorem dX5_begin_26 : decode cX5_begin 26 = .ok (.iconst 0, 1) := by decide +kernel
theorem dX5_begin_27 : decode cX5_begin 27 = .ok (.putfield 27, 3) := by decide +kernel
theorem dX5_begin_30 : decode cX5_begin 30 = .ok (.return_, 1) := by decide +kernel
theorem dX5_become_0 : decode cX5_become 0 = .ok (.aload_n 0, 1) := by decide +kernel
theorem dX5_become_1 : decode cX5_become 1 = .ok (.aload_n 1, 1) := by decide +kernel
theorem dX5_become_2 : decode cX5_become 2 = .ok (.getfield 9, 3) := by decide +kernel
theorem dX5_become_5 : decode cX5_become 5 = .ok (.putfield 9, 3) := by decide +kernel
theorem dX5_become_8 : decode cX5_become 8 = .ok (.aload_n 0, 1) := by decide +kernel
theorem dX5_become_9 : decode cX5_become 9 = .ok (.aload_n 1, 1) := by decide +kernel
theorem dX5_become_10 : decode cX5_become 10 = .ok (.getfield 15, 3) := by decide +kernel
theorem dX5_become_13 : decode cX5_become 13 = .ok (.putfield 15, 3) := by decide +kernel
theorem dX5_become_16 : decode cX5_become 16 = .ok (.aload_n 0, 1) := by decide +kernel
theorem dX5_become_17 : decode cX5_become 17 = .ok (.aload_n 1, 1) := by decide +kernel
theorem dX5_become_18 : decode cX5_become 18 = .ok (.getfield 18, 3) := by decide +kernel
theorem dX5_become_21 : decode cX5_become 21 = .ok (.putfield 18, 3) := by decide +kernel
theorem dX5_become_24 : decode cX5_become 24 = .ok (.aload_n 0, 1) := by decide +kernel
theorem dX5_become_25 : decode cX5_become 25 = .ok (.aload_n 1, 1) := by decide +kernel
theorem dX5_become_26 : decode cX5_become 26 = .ok (.invokevirtual 30, 3) := by decide +kernel
theorem dX5_become_29 : decode cX5_become 29 = .ok (.return_, 1) := by decide +kernel
theorem dX5_takeMood_0 : decode cX5_takeMood 0 = .ok (.aload_n 0, 1) := by decide +kernel
theorem dX5_takeMood_1 : decode cX5_takeMood 1 = .ok (.aload_n 1, 1) := by decide +kernel
theorem dX5_takeMood_2 : decode cX5_takeMood 2 = .ok (.getfield 21, 3) := by decide +kernel
theorem dX5_takeMood_5 : decode cX5_takeMood 5 = .ok (.putfield 21, 3) := by decide +kernel
theorem dX5_takeMood_8 : decode cX5_takeMood 8 = .ok (.aload_n 0, 1) := by decide +kernel
theorem dX5_takeMood_9 : decode cX5_takeMood 9 = .ok (.aload_n 1, 1) := by decide +kernel
theorem dX5_takeMood_10 : decode cX5_takeMood 10 = .ok (.getfield 24, 3) := by decide +kernel
theorem dX5_takeMood_13 : decode cX5_takeMood 13 = .ok (.putfield 24, 3) := by decide +kernel
theorem dX5_takeMood_16 : decode cX5_takeMood 16 = .ok (.aload_n 0, 1) := by decide +kernel
theorem dX5_takeMood_17 : decode cX5_takeMood 17 = .ok (.aload_n 1, 1) := by decide +kernel
theorem dX5_takeMood_18 : decode cX5_takeMood 18 = .ok (.getfield 27, 3) := by decide +kernel
theorem dX5_takeMood_21 : decode cX5_takeMood 21 = .ok (.putfield 27, 3) := by decide +kernel
theorem dX5_takeMood_24 : decode cX5_takeMood 24 = .ok (.return_, 1) := by decide +kernel
theorem dX5_part_0 : decode cX5_part 0 = .ok (.iload_n 1, 1) := by decide +kernel
theorem dX5_part_1 : decode cX5_part 1 = .ok (.tableswitch 60 0 4 #[35, 40, 45, 50, 55], 35) := by decide +kernel
theorem dX5_part_36 : decode cX5_part 36 = .ok (.aload_n 0, 1) := by decide +kernel
theorem dX5_part_37 : decode cX5_part 37 = .ok (.getfield 9, 3) := by decide +kernel
theorem dX5_part_40 : decode cX5_part 40 = .ok (.ireturn, 1) := by decide +kernel
theorem dX5_part_41 : decode cX5_part 41 = .ok (.aload_n 0, 1) := by decide +kernel
theorem dX5_part_42 : decode cX5_part 42 = .ok (.getfield 15, 3) := by decide +kernel
theorem dX5_part_45 : decode cX5_part 45 = .ok (.ireturn, 1) := by decide +kernel
theorem dX5_part_46 : decode cX5_part 46 = .ok (.aload_n 0, 1) := by decide +kernel
theorem dX5_part_47 : decode cX5_part 47 = .ok (.getfield 18, 3) := by decide +kernel
theorem dX5_part_50 : decode cX5_part 50 = .ok (.ireturn, 1) := by decide +kernel
theorem dX5_part_51 : decode cX5_part 51 = .ok (.aload_n 0, 1) := by decide +kernel
theorem dX5_part_52 : decode cX5_part 52 = .ok (.getfield 21, 3) := by decide +kernel
theorem dX5_part_55 : decode cX5_part 55 = .ok (.ireturn, 1) := by decide +kernel
theorem dX5_part_56 : decode cX5_part 56 = .ok (.aload_n 0, 1) := by decide +kernel
theorem dX5_part_57 : decode cX5_part 57 = .ok (.getfield 24, 3) := by decide +kernel
theorem dX5_part_60 : decode cX5_part 60 = .ok (.ireturn, 1) := by decide +kernel
theorem dX5_part_61 : decode cX5_part 61 = .ok (.aload_n 0, 1) := by decide +kernel
theorem dX5_part_62 : decode cX5_part 62 = .ok (.getfield 27, 3) := by decide +kernel
theorem dX5_part_65 : decode cX5_part 65 = .ok (.ireturn, 1) := by decide +kernel
theorem dX5_change_0 : decode cX5_change 0 = .ok (.iload_n 1, 1) := by decide +kernel
theorem dX5_change_1 : decode cX5_change 1 = .ok (.tableswitch 75 0 4 #[35, 43, 51, 59, 67], 35) := by decide +kernel
theorem dX5_change_36 : decode cX5_change 36 = .ok (.aload_n 0, 1) := by decide +kernel
theorem dX5_change_37 : decode cX5_change 37 = .ok (.iload_n 2, 1) := by decide +kernel
theorem dX5_change_38 : decode cX5_change 38 = .ok (.putfield 9, 3) := by decide +kernel
theorem dX5_change_41 : decode cX5_change 41 = .ok (.goto 35, 3) := by decide +kernel
theorem dX5_change_44 : decode cX5_change 44 = .ok (.aload_n 0, 1) := by decide +kernel
theorem dX5_change_45 : decode cX5_change 45 = .ok (.iload_n 2, 1) := by decide +kernel
theorem dX5_change_46 : decode cX5_change 46 = .ok (.putfield 15, 3) := by decide +kernel
theorem dX5_change_49 : decode cX5_change 49 = .ok (.goto 27, 3) := by decide +kernel
theorem dX5_change_52 : decode cX5_change 52 = .ok (.aload_n 0, 1) := by decide +kernel
theorem dX5_change_53 : decode cX5_change 53 = .ok (.iload_n 2, 1) := by decide +kernel
theorem dX5_change_54 : decode cX5_change 54 = .ok (.putfield 18, 3) := by decide +kernel
theorem dX5_change_57 : decode cX5_change 57 = .ok (.goto 19, 3) := by decide +kernel
theorem dX5_change_60 : decode cX5_change 60 = .ok (.aload_n 0, 1) := by decide +kernel
theorem dX5_change_61 : decode cX5_change 61 = .ok (.iload_n 2, 1) := by decide +kernel
theorem dX5_change_62 : decode cX5_change 62 = .ok (.putfield 21, 3) := by decide +kernel
theorem dX5_change_65 : decode cX5_change 65 = .ok (.goto 11, 3) := by decide +kernel
theorem dX5_change_68 : decode cX5_change 68 = .ok (.aload_n 0, 1) := by decide +kernel
theorem dX5_change_69 : decode cX5_change 69 = .ok (.iload_n 2, 1) := by decide +kernel
theorem dX5_change_70 : decode cX5_change 70 = .ok (.putfield 24, 3) := by decide +kernel
theorem dX5_change_73 : decode cX5_change 73 = .ok (.goto 3, 3) := by decide +kernel
theorem dX5_change_76 : decode cX5_change 76 = .ok (.return_, 1) := by decide +kernel
theorem dX5_minds_0 : decode cX5_minds 0 = .ok (.iload_n 1, 1) := by decide +kernel
theorem dX5_minds_1 : decode cX5_minds 1 = .ok (.aload_n 0, 1) := by decide +kernel
theorem dX5_minds_2 : decode cX5_minds 2 = .ok (.getfield 18, 3) := by decide +kernel
theorem dX5_minds_5 : decode cX5_minds 5 = .ok (.if_icmp .le 12, 3) := by decide +kernel
theorem dX5_minds_8 : decode cX5_minds 8 = .ok (.iload_n 1, 1) := by decide +kernel
theorem dX5_minds_9 : decode cX5_minds 9 = .ok (.aload_n 0, 1) := by decide +kernel
theorem dX5_minds_10 : decode cX5_minds 10 = .ok (.getfield 18, 3) := by decide +kernel
theorem dX5_minds_13 : decode cX5_minds 13 = .ok (.isub, 1) := by decide +kernel
theorem dX5_minds_14 : decode cX5_minds 14 = .ok (.goto 4, 3) := by decide +kernel
theorem dX5_minds_17 : decode cX5_minds 17 = .ok (.iconst 0, 1) := by decide +kernel
theorem dX5_minds_18 : decode cX5_minds 18 = .ok (.istore_n 2, 1) := by decide +kernel
theorem dX5_minds_19 : decode cX5_minds 19 = .ok (.aload_n 0, 1) := by decide +kernel
theorem dX5_minds_20 : decode cX5_minds 20 = .ok (.getfield 9, 3) := by decide +kernel
theorem dX5_minds_23 : decode cX5_minds 23 = .ok (.ifCond .ne 7, 3) := by decide +kernel
theorem dX5_minds_26 : decode cX5_minds 26 = .ok (.iload_n 2, 1) := by decide +kernel
theorem dX5_minds_27 : decode cX5_minds 27 = .ok (.goto 6, 3) := by decide +kernel
theorem dX5_minds_30 : decode cX5_minds 30 = .ok (.iconst 2, 1) := by decide +kernel
theorem dX5_minds_31 : decode cX5_minds 31 = .ok (.iload_n 2, 1) := by decide +kernel
theorem dX5_minds_32 : decode cX5_minds 32 = .ok (.imul, 1) := by decide +kernel
theorem dX5_minds_33 : decode cX5_minds 33 = .ok (.istore_n 3, 1) := by decide +kernel
theorem dX5_minds_34 : decode cX5_minds 34 = .ok (.aload_n 0, 1) := by decide +kernel
theorem dX5_minds_35 : decode cX5_minds 35 = .ok (.getfield 9, 3) := by decide +kernel
theorem dX5_minds_38 : decode cX5_minds 38 = .ok (.iconst 2, 1) := by decide +kernel
theorem dX5_minds_39 : decode cX5_minds 39 = .ok (.if_icmp .lt 10, 3) := by decide +kernel
theorem dX5_minds_42 : decode cX5_minds 42 = .ok (.iload_n 1, 1) := by decide +kernel
theorem dX5_minds_43 : decode cX5_minds 43 = .ok (.ifCond .le 6, 3) := by decide +kernel
theorem dX5_minds_46 : decode cX5_minds 46 = .ok (.iinc 3 1, 3) := by decide +kernel
theorem dX5_minds_49 : decode cX5_minds 49 = .ok (.aload_n 0, 1) := by decide +kernel
theorem dX5_minds_50 : decode cX5_minds 50 = .ok (.getfield 9, 3) := by decide +kernel
theorem dX5_minds_53 : decode cX5_minds 53 = .ok (.iconst 3, 1) := by decide +kernel
theorem dX5_minds_54 : decode cX5_minds 54 = .ok (.if_icmp .ne 12, 3) := by decide +kernel
theorem dX5_minds_57 : decode cX5_minds 57 = .ok (.iload_n 1, 1) := by decide +kernel
theorem dX5_minds_58 : decode cX5_minds 58 = .ok (.bipush 9, 2) := by decide +kernel
theorem dX5_minds_60 : decode cX5_minds 60 = .ok (.if_icmp .ne 6, 3) := by decide +kernel
theorem dX5_minds_63 : decode cX5_minds 63 = .ok (.iinc 3 5, 3) := by decide +kernel
theorem dX5_minds_66 : decode cX5_minds 66 = .ok (.iload_n 3, 1) := by decide +kernel
theorem dX5_minds_67 : decode cX5_minds 67 = .ok (.ireturn, 1) := by decide +kernel
theorem dX5_fades_0 : decode cX5_fades 0 = .ok (.aload_n 0, 1) := by decide +kernel
theorem dX5_fades_1 : decode cX5_fades 1 = .ok (.getfield 9, 3) := by decide +kernel
theorem dX5_fades_4 : decode cX5_fades 4 = .ok (.ifCond .ne 7, 3) := by decide +kernel
theorem dX5_fades_7 : decode cX5_fades 7 = .ok (.iconst 2, 1) := by decide +kernel
theorem dX5_fades_8 : decode cX5_fades 8 = .ok (.goto 16, 3) := by decide +kernel
theorem dX5_fades_11 : decode cX5_fades 11 = .ok (.aload_n 0, 1) := by decide +kernel
theorem dX5_fades_12 : decode cX5_fades 12 = .ok (.getfield 9, 3) := by decide +kernel
theorem dX5_fades_15 : decode cX5_fades 15 = .ok (.iconst 1, 1) := by decide +kernel
theorem dX5_fades_16 : decode cX5_fades 16 = .ok (.if_icmp .ne 7, 3) := by decide +kernel
theorem dX5_fades_19 : decode cX5_fades 19 = .ok (.iconst 1, 1) := by decide +kernel
theorem dX5_fades_20 : decode cX5_fades 20 = .ok (.goto 4, 3) := by decide +kernel
theorem dX5_fades_23 : decode cX5_fades 23 = .ok (.iconst 0, 1) := by decide +kernel
theorem dX5_fades_24 : decode cX5_fades 24 = .ok (.ireturn, 1) := by decide +kernel
theorem dX5_pass_0 : decode cX5_pass 0 = .ok (.aload_n 0, 1) := by decide +kernel
theorem dX5_pass_1 : decode cX5_pass 1 = .ok (.sipush 199, 3) := by decide +kernel
theorem dX5_pass_4 : decode cX5_pass 4 = .ok (.aload_n 0, 1) := by decide +kernel
theorem dX5_pass_5 : decode cX5_pass 5 = .ok (.getfield 21, 3) := by decide +kernel
theorem dX5_pass_8 : decode cX5_pass 8 = .ok (.iload_n 1, 1) := by decide +kernel
theorem dX5_pass_9 : decode cX5_pass 9 = .ok (.iadd, 1) := by decide +kernel
theorem dX5_pass_10 : decode cX5_pass 10 = .ok (.invokestatic 34, 3) := by decide +kernel
theorem dX5_pass_13 : decode cX5_pass 13 = .ok (.putfield 21, 3) := by decide +kernel
theorem dX5_pass_16 : decode cX5_pass 16 = .ok (.aload_n 0, 1) := by decide +kernel
theorem dX5_pass_17 : decode cX5_pass 17 = .ok (.bipush 20, 2) := by decide +kernel
theorem dX5_pass_19 : decode cX5_pass 19 = .ok (.aload_n 0, 1) := by decide +kernel
theorem dX5_pass_20 : decode cX5_pass 20 = .ok (.getfield 24, 3) := by decide +kernel
theorem dX5_pass_23 : decode cX5_pass 23 = .ok (.aload_n 0, 1) := by decide +kernel
theorem dX5_pass_24 : decode cX5_pass 24 = .ok (.iload_n 2, 1) := by decide +kernel
theorem dX5_pass_25 : decode cX5_pass 25 = .ok (.invokevirtual 40, 3) := by decide +kernel
theorem dX5_pass_28 : decode cX5_pass 28 = .ok (.iadd, 1) := by decide +kernel
theorem dX5_pass_29 : decode cX5_pass 29 = .ok (.invokestatic 34, 3) := by decide +kernel
theorem dX5_pass_32 : decode cX5_pass 32 = .ok (.putfield 24, 3) := by decide +kernel
theorem dX5_pass_35 : decode cX5_pass 35 = .ok (.aload_n 0, 1) := by decide +kernel
theorem dX5_pass_36 : decode cX5_pass 36 = .ok (.iconst 0, 1) := by decide +kernel
theorem dX5_pass_37 : decode cX5_pass 37 = .ok (.aload_n 0, 1) := by decide +kernel
theorem dX5_pass_38 : decode cX5_pass 38 = .ok (.getfield 24, 3) := by decide +kernel
theorem dX5_pass_41 : decode cX5_pass 41 = .ok (.iload_n 3, 1) := by decide +kernel
theorem dX5_pass_42 : decode cX5_pass 42 = .ok (.isub, 1) := by decide +kernel
theorem dX5_pass_43 : decode cX5_pass 43 = .ok (.invokestatic 44, 3) := by decide +kernel
theorem dX5_pass_46 : decode cX5_pass 46 = .ok (.putfield 24, 3) := by decide +kernel
theorem dX5_pass_49 : decode cX5_pass 49 = .ok (.iload_n 2, 1) := by decide +kernel
theorem dX5_pass_50 : decode cX5_pass 50 = .ok (.ifCond .ne 20, 3) := by decide +kernel
theorem dX5_pass_53 : decode cX5_pass 53 = .ok (.aload_n 0, 1) := by decide +kernel
theorem dX5_pass_54 : decode cX5_pass 54 = .ok (.iconst 0, 1) := by decide +kernel
theorem dX5_pass_55 : decode cX5_pass 55 = .ok (.aload_n 0, 1) := by decide +kernel
theorem dX5_pass_56 : decode cX5_pass 56 = .ok (.getfield 24, 3) := by decide +kernel
theorem dX5_pass_59 : decode cX5_pass 59 = .ok (.aload_n 0, 1) := by decide +kernel
theorem dX5_pass_60 : decode cX5_pass 60 = .ok (.invokevirtual 47, 3) := by decide +kernel
theorem dX5_pass_63 : decode cX5_pass 63 = .ok (.isub, 1) := by decide +kernel
theorem dX5_pass_64 : decode cX5_pass 64 = .ok (.invokestatic 44, 3) := by decide +kernel
theorem dX5_pass_67 : decode cX5_pass 67 = .ok (.putfield 24, 3) := by decide +kernel
theorem dX5_pass_70 : decode cX5_pass 70 = .ok (.aload_n 0, 1) := by decide +kernel
theorem dX5_pass_71 : decode cX5_pass 71 = .ok (.getfield 21, 3) := by decide +kernel
theorem dX5_pass_74 : decode cX5_pass 74 = .ok (.aload_n 0, 1) := by decide +kernel
theorem dX5_pass_75 : decode cX5_pass 75 = .ok (.getfield 15, 3) := by decide +kernel
theorem dX5_pass_78 : decode cX5_pass 78 = .ok (.aload_n 0, 1) := by decide +kernel
theorem dX5_pass_79 : decode cX5_pass 79 = .ok (.getfield 24, 3) := by decide +kernel
theorem dX5_pass_82 : decode cX5_pass 82 = .ok (.iadd, 1) := by decide +kernel
theorem dX5_pass_83 : decode cX5_pass 83 = .ok (.if_icmp .ge 5, 3) := by decide +kernel
theorem dX5_pass_86 : decode cX5_pass 86 = .ok (.iconst 0, 1) := by decide +kernel
theorem dX5_pass_87 : decode cX5_pass 87 = .ok (.ireturn, 1) := by decide +kernel
theorem dX5_pass_88 : decode cX5_pass 88 = .ok (.aload_n 0, 1) := by decide +kernel
theorem dX5_pass_89 : decode cX5_pass 89 = .ok (.dup, 1) := by decide +kernel
theorem dX5_pass_90 : decode cX5_pass 90 = .ok (.getfield 27, 3) := by decide +kernel
theorem dX5_pass_93 : decode cX5_pass 93 = .ok (.iconst 1, 1) := by decide +kernel
theorem dX5_pass_94 : decode cX5_pass 94 = .ok (.iadd, 1) := by decide +kernel
theorem dX5_pass_95 : decode cX5_pass 95 = .ok (.putfield 27, 3) := by decide +kernel
theorem dX5_pass_98 : decode cX5_pass 98 = .ok (.aload_n 0, 1) := by decide +kernel
theorem dX5_pass_99 : decode cX5_pass 99 = .ok (.iconst 0, 1) := by decide +kernel
theorem dX5_pass_100 : decode cX5_pass 100 = .ok (.putfield 21, 3) := by decide +kernel
theorem dX5_pass_103 : decode cX5_pass 103 = .ok (.aload_n 0, 1) := by decide +kernel
theorem dX5_pass_104 : decode cX5_pass 104 = .ok (.iconst 0, 1) := by decide +kernel
theorem dX5_pass_105 : decode cX5_pass 105 = .ok (.putfield 24, 3) := by decide +kernel
theorem dX5_pass_108 : decode cX5_pass 108 = .ok (.iconst 1, 1) := by decide +kernel
theorem dX5_pass_109 : decode cX5_pass 109 = .ok (.ireturn, 1) := by decide +kernel
theorem dX6_init_0 : decode cX6_init 0 = .ok (.aload_n 0, 1) := by decide +kernel
theorem dX6_init_1 : decode cX6_init 1 = .ok (.invokespecial 1, 3) := by decide +kernel
theorem dX6_init_4 : decode cX6_init 4 = .ok (.aload_n 0, 1) := by decide +kernel
theorem dX6_init_5 : decode cX6_init 5 = .ok (.new 7, 3) := by decide +kernel
theorem dX6_init_8 : decode cX6_init 8 = .ok (.dup, 1) := by decide +kernel
theorem dX6_init_9 : decode cX6_init 9 = .ok (.invokespecial 9, 3) := by decide +kernel
theorem dX6_init_12 : decode cX6_init 12 = .ok (.putfield 10, 3) := by decide +kernel
theorem dX6_init_15 : decode cX6_init 15 = .ok (.aload_n 0, 1) := by decide +kernel
theorem dX6_init_16 : decode cX6_init 16 = .ok (.new 7, 3) := by decide +kernel
theorem dX6_init_19 : decode cX6_init 19 = .ok (.dup, 1) := by decide +kernel
theorem dX6_init_20 : decode cX6_init 20 = .ok (.invokespecial 9, 3) := by decide +kernel
theorem dX6_init_23 : decode cX6_init 23 = .ok (.putfield 16, 3) := by decide +kernel
theorem dX6_init_26 : decode cX6_init 26 = .ok (.aload_n 0, 1) := by decide +kernel
theorem dX6_init_27 : decode cX6_init 27 = .ok (.iconst 5, 1) := by decide +kernel
theorem dX6_init_28 : decode cX6_init 28 = .ok (.anewarray 7, 3) := by decide +kernel
theorem dX6_init_31 : decode cX6_init 31 = .ok (.putfield 19, 3) := by decide +kernel
theorem dX6_init_34 : decode cX6_init 34 = .ok (.aload_n 0, 1) := by decide +kernel
theorem dX6_init_35 : decode cX6_init 35 = .ok (.iconst 2, 1) := by decide +kernel
theorem dX6_init_36 : decode cX6_init 36 = .ok (.anewarray 7, 3) := by decide +kernel
theorem dX6_init_39 : decode cX6_init 39 = .ok (.putfield 23, 3) := by decide +kernel
theorem dX6_init_42 : decode cX6_init 42 = .ok (.aload_n 0, 1) := by decide +kernel
theorem dX6_init_43 : decode cX6_init 43 = .ok (.iconst 2, 1) := by decide +kernel
theorem dX6_init_44 : decode cX6_init 44 = .ok (.newarray .boolean, 2) := by decide +kernel
theorem dX6_init_46 : decode cX6_init 46 = .ok (.putfield 26, 3) := by decide +kernel
theorem dX6_init_49 : decode cX6_init 49 = .ok (.aload_n 0, 1) := by decide +kernel
theorem dX6_init_50 : decode cX6_init 50 = .ok (.new 30, 3) := by decide +kernel
theorem dX6_init_53 : decode cX6_init 53 = .ok (.dup, 1) := by decide +kernel
theorem dX6_init_54 : decode cX6_init 54 = .ok (.invokespecial 32, 3) := by decide +kernel
theorem dX6_init_57 : decode cX6_init 57 = .ok (.putfield 33, 3) := by decide +kernel
theorem dX6_init_60 : decode cX6_init 60 = .ok (.aload_n 0, 1) := by decide +kernel
theorem dX6_init_61 : decode cX6_init 61 = .ok (.aload_n 0, 1) := by decide +kernel
theorem dX6_init_62 : decode cX6_init 62 = .ok (.getfield 33, 3) := by decide +kernel
theorem dX6_init_65 : decode cX6_init 65 = .ok (.getfield 37, 3) := by decide +kernel
theorem dX6_init_68 : decode cX6_init 68 = .ok (.putfield 41, 3) := by decide +kernel
theorem dX6_init_71 : decode cX6_init 71 = .ok (.aload_n 0, 1) := by decide +kernel
theorem dX6_init_72 : decode cX6_init 72 = .ok (.new 44, 3) := by decide +kernel
theorem dX6_init_75 : decode cX6_init 75 = .ok (.dup, 1) := by decide +kernel
theorem dX6_init_76 : decode cX6_init 76 = .ok (.invokespecial 46, 3) := by decide +kernel
theorem dX6_init_79 : decode cX6_init 79 = .ok (.putfield 47, 3) := by decide +kernel
theorem dX6_init_82 : decode cX6_init 82 = .ok (.aload_n 0, 1) := by decide +kernel
theorem dX6_init_83 : decode cX6_init 83 = .ok (.bipush 41, 2) := by decide +kernel
theorem dX6_init_85 : decode cX6_init 85 = .ok (.newarray .int, 2) := by decide +kernel
theorem dX6_init_87 : decode cX6_init 87 = .ok (.putfield 51, 3) := by decide +kernel
theorem dX6_init_90 : decode cX6_init 90 = .ok (.aload_n 0, 1) := by decide +kernel
theorem dX6_init_91 : decode cX6_init 91 = .ok (.bipush 10, 2) := by decide +kernel
theorem dX6_init_93 : decode cX6_init 93 = .ok (.newarray .long, 2) := by decide +kernel
theorem dX6_init_95 : decode cX6_init 95 = .ok (.putfield 55, 3) := by decide +kernel
theorem dX6_init_98 : decode cX6_init 98 = .ok (.aload_n 0, 1) := by decide +kernel
theorem dX6_init_99 : decode cX6_init 99 = .ok (.iconst 4, 1) := by decide +kernel
theorem dX6_init_100 : decode cX6_init 100 = .ok (.anewarray 59, 3) := by decide +kernel
theorem dX6_init_103 : decode cX6_init 103 = .ok (.putfield 61, 3) := by decide +kernel
theorem dX6_init_106 : decode cX6_init 106 = .ok (.iconst 0, 1) := by decide +kernel
theorem dX6_init_107 : decode cX6_init 107 = .ok (.istore_n 1, 1) := by decide +kernel
theorem dX6_init_108 : decode cX6_init 108 = .ok (.iload_n 1, 1) := by decide +kernel
theorem dX6_init_109 : decode cX6_init 109 = .ok (.aload_n 0, 1) := by decide +kernel
theorem dX6_init_110 : decode cX6_init 110 = .ok (.getfield 19, 3) := by decide +kernel
theorem dX6_init_113 : decode cX6_init 113 = .ok (.arraylength, 1) := by decide +kernel
theorem dX6_init_114 : decode cX6_init 114 = .ok (.if_icmp .ge 22, 3) := by decide +kernel
theorem dX6_init_117 : decode cX6_init 117 = .ok (.aload_n 0, 1) := by decide +kernel
theorem dX6_init_118 : decode cX6_init 118 = .ok (.getfield 19, 3) := by decide +kernel
theorem dX6_init_121 : decode cX6_init 121 = .ok (.iload_n 1, 1) := by decide +kernel
theorem dX6_init_122 : decode cX6_init 122 = .ok (.new 7, 3) := by decide +kernel
theorem dX6_init_125 : decode cX6_init 125 = .ok (.dup, 1) := by decide +kernel
theorem dX6_init_126 : decode cX6_init 126 = .ok (.invokespecial 9, 3) := by decide +kernel
theorem dX6_init_129 : decode cX6_init 129 = .ok (.aastore, 1) := by decide +kernel
theorem dX6_init_130 : decode cX6_init 130 = .ok (.iinc 1 1, 3) := by decide +kernel
theorem dX6_init_133 : decode cX6_init 133 = .ok (.goto (-25), 3) := by decide +kernel
theorem dX6_init_136 : decode cX6_init 136 = .ok (.iconst 0, 1) := by decide +kernel
theorem dX6_init_137 : decode cX6_init 137 = .ok (.istore_n 1, 1) := by decide +kernel
theorem dX6_init_138 : decode cX6_init 138 = .ok (.iload_n 1, 1) := by decide +kernel
theorem dX6_init_139 : decode cX6_init 139 = .ok (.aload_n 0, 1) := by decide +kernel
theorem dX6_init_140 : decode cX6_init 140 = .ok (.getfield 23, 3) := by decide +kernel
theorem dX6_init_143 : decode cX6_init 143 = .ok (.arraylength, 1) := by decide +kernel
theorem dX6_init_144 : decode cX6_init 144 = .ok (.if_icmp .ge 22, 3) := by decide +kernel
theorem dX6_init_147 : decode cX6_init 147 = .ok (.aload_n 0, 1) := by decide +kernel
theorem dX6_init_148 : decode cX6_init 148 = .ok (.getfield 23, 3) := by decide +kernel
theorem dX6_init_151 : decode cX6_init 151 = .ok (.iload_n 1, 1) := by decide +kernel
theorem dX6_init_152 : decode cX6_init 152 = .ok (.new 7, 3) := by decide +kernel
theorem dX6_init_155 : decode cX6_init 155 = .ok (.dup, 1) := by decide +kernel
theorem dX6_init_156 : decode cX6_init 156 = .ok (.invokespecial 9, 3) := by decide +kernel
theorem dX6_init_159 : decode cX6_init 159 = .ok (.aastore, 1) := by decide +kernel
theorem dX6_init_160 : decode cX6_init 160 = .ok (.iinc 1 1, 3) := by decide +kernel
theorem dX6_init_163 : decode cX6_init 163 = .ok (.goto (-25), 3) := by decide +kernel
theorem dX6_init_166 : decode cX6_init 166 = .ok (.iconst 0, 1) := by decide +kernel
theorem dX6_init_167 : decode cX6_init 167 = .ok (.istore_n 1, 1) := by decide +kernel
theorem dX6_init_168 : decode cX6_init 168 = .ok (.iload_n 1, 1) := by decide +kernel
theorem dX6_init_169 : decode cX6_init 169 = .ok (.aload_n 0, 1) := by decide +kernel
theorem dX6_init_170 : decode cX6_init 170 = .ok (.getfield 61, 3) := by decide +kernel
theorem dX6_init_173 : decode cX6_init 173 = .ok (.arraylength, 1) := by decide +kernel
theorem dX6_init_174 : decode cX6_init 174 = .ok (.if_icmp .ge 22, 3) := by decide +kernel
theorem dX6_init_177 : decode cX6_init 177 = .ok (.aload_n 0, 1) := by decide +kernel
theorem dX6_init_178 : decode cX6_init 178 = .ok (.getfield 61, 3) := by decide +kernel
theorem dX6_init_181 : decode cX6_init 181 = .ok (.iload_n 1, 1) := by decide +kernel
theorem dX6_init_182 : decode cX6_init 182 = .ok (.new 59, 3) := by decide +kernel
theorem dX6_init_185 : decode cX6_init 185 = .ok (.dup, 1) := by decide +kernel
theorem dX6_init_186 : decode cX6_init 186 = .ok (.invokespecial 65, 3) := by decide +kernel
theorem dX6_init_189 : decode cX6_init 189 = .ok (.aastore, 1) := by decide +kernel
theorem dX6_init_190 : decode cX6_init 190 = .ok (.iinc 1 1, 3) := by decide +kernel
theorem dX6_init_193 : decode cX6_init 193 = .ok (.goto (-25), 3) := by decide +kernel
theorem dX6_init_196 : decode cX6_init 196 = .ok (.return_, 1) := by decide +kernel
theorem dX6_feed_0 : decode cX6_feed 0 = .ok (.iload_n 1, 1) := by decide +kernel
theorem dX6_feed_1 : decode cX6_feed 1 = .ok (.iconst 0, 1) := by decide +kernel
theorem dX6_feed_2 : decode cX6_feed 2 = .ok (.bipush 127, 2) := by decide +kernel
theorem dX6_feed_4 : decode cX6_feed 4 = .ok (.invokestatic 66, 3) := by decide +kernel
theorem dX6_feed_7 : decode cX6_feed 7 = .ok (.ifCond .ne 5, 3) := by decide +kernel
theorem dX6_feed_10 : decode cX6_feed 10 = .ok (.iconst (-1), 1) := by decide +kernel
theorem dX6_feed_11 : decode cX6_feed 11 = .ok (.ireturn, 1) := by decide +kernel
theorem dX6_feed_12 : decode cX6_feed 12 = .ok (.aload_n 0, 1) := by decide +kernel
theorem dX6_feed_13 : decode cX6_feed 13 = .ok (.getfield 41, 3) := by decide +kernel
theorem dX6_feed_16 : decode cX6_feed 16 = .ok (.iload_n 1, 1) := by decide +kernel
theorem dX6_feed_17 : decode cX6_feed 17 = .ok (.invokevirtual 70, 3) := by decide +kernel
theorem dX6_feed_20 : decode cX6_feed 20 = .ok (.ifCond .eq 13, 3) := by decide +kernel
theorem dX6_feed_23 : decode cX6_feed 23 = .ok (.aload_n 0, 1) := by decide +kernel
theorem dX6_feed_24 : decode cX6_feed 24 = .ok (.getfield 41, 3) := by decide +kernel
theorem dX6_feed_27 : decode cX6_feed 27 = .ok (.getfield 76, 3) := by decide +kernel
theorem dX6_feed_30 : decode cX6_feed 30 = .ok (.goto 5, 3) := by decide +kernel
theorem dX6_feed_33 : decode cX6_feed 33 = .ok (.bipush (-3), 2) := by decide +kernel
theorem dX6_feed_35 : decode cX6_feed 35 = .ok (.ireturn, 1) := by decide +kernel
theorem dX6_end_0 : decode cX6_end 0 = .ok (.iload_n 1, 1) := by decide +kernel
theorem dX6_end_1 : decode cX6_end 1 = .ok (.iconst 0, 1) := by decide +kernel
theorem dX6_end_2 : decode cX6_end 2 = .ok (.aload_n 0, 1) := by decide +kernel
theorem dX6_end_3 : decode cX6_end 3 = .ok (.getfield 41, 3) := by decide +kernel
theorem dX6_end_6 : decode cX6_end 6 = .ok (.getfield 76, 3) := by decide +kernel
theorem dX6_end_9 : decode cX6_end 9 = .ok (.invokestatic 66, 3) := by decide +kernel
theorem dX6_end_12 : decode cX6_end 12 = .ok (.ifCond .ne 5, 3) := by decide +kernel
theorem dX6_end_15 : decode cX6_end 15 = .ok (.iconst (-1), 1) := by decide +kernel
theorem dX6_end_16 : decode cX6_end 16 = .ok (.ireturn, 1) := by decide +kernel
theorem dX6_end_17 : decode cX6_end 17 = .ok (.aload_n 0, 1) := by decide +kernel
theorem dX6_end_18 : decode cX6_end 18 = .ok (.getfield 41, 3) := by decide +kernel
theorem dX6_end_21 : decode cX6_end 21 = .ok (.getfield 76, 3) := by decide +kernel
theorem dX6_end_24 : decode cX6_end 24 = .ok (.istore_n 2, 1) := by decide +kernel
theorem dX6_end_25 : decode cX6_end 25 = .ok (.aload_n 0, 1) := by decide +kernel
theorem dX6_end_26 : decode cX6_end 26 = .ok (.getfield 41, 3) := by decide +kernel
theorem dX6_end_29 : decode cX6_end 29 = .ok (.iload_n 1, 1) := by decide +kernel
theorem dX6_end_30 : decode cX6_end 30 = .ok (.putfield 76, 3) := by decide +kernel
theorem dX6_end_33 : decode cX6_end 33 = .ok (.iload_n 2, 1) := by decide +kernel
theorem dX6_end_34 : decode cX6_end 34 = .ok (.ireturn, 1) := by decide +kernel
theorem dX6_text_0 : decode cX6_text 0 = .ok (.aload_n 0, 1) := by decide +kernel
theorem dX6_text_1 : decode cX6_text 1 = .ok (.getfield 33, 3) := by decide +kernel
theorem dX6_text_4 : decode cX6_text 4 = .ok (.aload_n 0, 1) := by decide +kernel
theorem dX6_text_5 : decode cX6_text 5 = .ok (.getfield 16, 3) := by decide +kernel
theorem dX6_text_8 : decode cX6_text 8 = .ok (.invokevirtual 80, 3) := by decide +kernel
theorem dX6_text_11 : decode cX6_text 11 = .ok (.istore_n 1, 1) := by decide +kernel
theorem dX6_text_12 : decode cX6_text 12 = .ok (.aload_n 0, 1) := by decide +kernel
theorem dX6_text_13 : decode cX6_text 13 = .ok (.getfield 41, 3) := by decide +kernel
theorem dX6_text_16 : decode cX6_text 16 = .ok (.iconst 0, 1) := by decide +kernel
theorem dX6_text_17 : decode cX6_text 17 = .ok (.putfield 76, 3) := by decide +kernel
theorem dX6_text_20 : decode cX6_text 20 = .ok (.aload_n 0, 1) := by decide +kernel
theorem dX6_text_21 : decode cX6_text 21 = .ok (.aload_n 0, 1) := by decide +kernel
theorem dX6_text_22 : decode cX6_text 22 = .ok (.getfield 33, 3) := by decide +kernel
theorem dX6_text_25 : decode cX6_text 25 = .ok (.getfield 84, 3) := by decide +kernel
theorem dX6_text_28 : decode cX6_text 28 = .ok (.putfield 87, 3) := by decide +kernel
theorem dX6_text_31 : decode cX6_text 31 = .ok (.aload_n 0, 1) := by decide +kernel
theorem dX6_text_32 : decode cX6_text 32 = .ok (.getfield 87, 3) := by decide +kernel
theorem dX6_text_35 : decode cX6_text 35 = .ok (.ifCond .eq 14, 3) := by decide +kernel
theorem dX6_text_38 : decode cX6_text 38 = .ok (.bipush (-10), 2) := by decide +kernel
theorem dX6_text_40 : decode cX6_text 40 = .ok (.aload_n 0, 1) := by decide +kernel
theorem dX6_text_41 : decode cX6_text 41 = .ok (.getfield 33, 3) := by decide +kernel
theorem dX6_text_44 : decode cX6_text 44 = .ok (.getfield 90, 3) := by decide +kernel
theorem dX6_text_47 : decode cX6_text 47 = .ok (.isub, 1) := by decide +kernel
theorem dX6_text_48 : decode cX6_text 48 = .ok (.ireturn, 1) := by decide +kernel
theorem dX6_text_49 : decode cX6_text 49 = .ok (.aload_n 0, 1) := by decide +kernel
theorem dX6_text_50 : decode cX6_text 50 = .ok (.getfield 10, 3) := by decide +kernel
theorem dX6_text_53 : decode cX6_text 53 = .ok (.aload_n 0, 1) := by decide +kernel
theorem dX6_text_54 : decode cX6_text 54 = .ok (.getfield 16, 3) := by decide +kernel
theorem dX6_text_57 : decode cX6_text 57 = .ok (.invokevirtual 93, 3) := by decide +kernel
theorem dX6_text_60 : decode cX6_text 60 = .ok (.aload_n 0, 1) := by decide +kernel
theorem dX6_text_61 : decode cX6_text 61 = .ok (.getfield 47, 3) := by decide +kernel
theorem dX6_text_64 : decode cX6_text 64 = .ok (.iconst 0, 1) := by decide +kernel
theorem dX6_text_65 : decode cX6_text 65 = .ok (.putfield 97, 3) := by decide +kernel
theorem dX6_text_68 : decode cX6_text 68 = .ok (.iconst 0, 1) := by decide +kernel
theorem dX6_text_69 : decode cX6_text 69 = .ok (.istore_n 2, 1) := by decide +kernel
theorem dX6_text_70 : decode cX6_text 70 = .ok (.iload_n 2, 1) := by decide +kernel
theorem dX6_text_71 : decode cX6_text 71 = .ok (.aload_n 0, 1) := by decide +kernel
theorem dX6_text_72 : decode cX6_text 72 = .ok (.getfield 26, 3) := by decide +kernel
theorem dX6_text_75 : decode cX6_text 75 = .ok (.arraylength, 1) := by decide +kernel
theorem dX6_text_76 : decode cX6_text 76 = .ok (.if_icmp .ge 16, 3) := by decide +kernel
theorem dX6_text_79 : decode cX6_text 79 = .ok (.aload_n 0, 1) := by decide +kernel
theorem dX6_text_80 : decode cX6_text 80 = .ok (.getfield 26, 3) := by decide +kernel
theorem dX6_text_83 : decode cX6_text 83 = .ok (.iload_n 2, 1) := by decide +kernel
theorem dX6_text_84 : decode cX6_text 84 = .ok (.iconst 0, 1) := by decide +kernel
theorem dX6_text_85 : decode cX6_text 85 = .ok (.bastore, 1) := by decide +kernel
theorem dX6_text_86 : decode cX6_text 86 = .ok (.iinc 2 1, 3) := by decide +kernel
theorem dX6_text_89 : decode cX6_text 89 = .ok (.goto (-19), 3) := by decide +kernel
theorem dX6_text_92 : decode cX6_text 92 = .ok (.iload_n 1, 1) := by decide +kernel
theorem dX6_text_93 : decode cX6_text 93 = .ok (.ireturn, 1) := by decide +kernel
theorem dX6_fault_0 : decode cX6_fault 0 = .ok (.aload_n 0, 1) := by decide +kernel
theorem dX6_fault_1 : decode cX6_fault 1 = .ok (.getfield 87, 3) := by decide +kernel
theorem dX6_fault_4 : decode cX6_fault 4 = .ok (.ireturn, 1) := by decide +kernel
theorem dX6_rule_0 : decode cX6_rule 0 = .ok (.iload_n 1, 1) := by decide +kernel
theorem dX6_rule_1 : decode cX6_rule 1 = .ok (.tableswitch 141 0 8 #[51, 59, 67, 75, 83, 91, 100, 108, 132], 51) := by decide +kernel
theorem dX6_rule_52 : decode cX6_rule 52 = .ok (.aload_n 0, 1) := by decide +kernel
theorem dX6_rule_53 : decode cX6_rule 53 = .ok (.getfield 10, 3) := by decide +kernel
theorem dX6_rule_56 : decode cX6_rule 56 = .ok (.getfield 100, 3) := by decide +kernel
theorem dX6_rule_59 : decode cX6_rule 59 = .ok (.ireturn, 1) := by decide +kernel
theorem dX6_rule_60 : decode cX6_rule 60 = .ok (.aload_n 0, 1) := by decide +kernel
theorem dX6_rule_61 : decode cX6_rule 61 = .ok (.getfield 10, 3) := by decide +kernel
theorem dX6_rule_64 : decode cX6_rule 64 = .ok (.getfield 103, 3) := by decide +kernel
theorem dX6_rule_67 : decode cX6_rule 67 = .ok (.ireturn, 1) := by decide +kernel
theorem dX6_rule_68 : decode cX6_rule 68 = .ok (.aload_n 0, 1) := by decide +kernel
theorem dX6_rule_69 : decode cX6_rule 69 = .ok (.getfield 10, 3) := by decide +kernel
theorem dX6_rule_72 : decode cX6_rule 72 = .ok (.getfield 106, 3) := by decide +kernel
theorem dX6_rule_75 : decode cX6_rule 75 = .ok (.ireturn, 1) := by decide +kernel
theorem dX6_rule_76 : decode cX6_rule 76 = .ok (.aload_n 0, 1) := by decide +kernel
theorem dX6_rule_77 : decode cX6_rule 77 = .ok (.getfield 10, 3) := by decide +kernel
theorem dX6_rule_80 : decode cX6_rule 80 = .ok (.getfield 109, 3) := by decide +kernel
theorem dX6_rule_83 : decode cX6_rule 83 = .ok (.ireturn, 1) := by decide +kernel
theorem dX6_rule_84 : decode cX6_rule 84 = .ok (.aload_n 0, 1) := by decide +kernel
theorem dX6_rule_85 : decode cX6_rule 85 = .ok (.getfield 10, 3) := by decide +kernel
theorem dX6_rule_88 : decode cX6_rule 88 = .ok (.getfield 112, 3) := by decide +kernel
theorem dX6_rule_91 : decode cX6_rule 91 = .ok (.ireturn, 1) := by decide +kernel
theorem dX6_rule_92 : decode cX6_rule 92 = .ok (.aload_n 0, 1) := by decide +kernel
theorem dX6_rule_93 : decode cX6_rule 93 = .ok (.getfield 10, 3) := by decide +kernel
theorem dX6_rule_96 : decode cX6_rule 96 = .ok (.iconst 5, 1) := by decide +kernel
theorem dX6_rule_97 : decode cX6_rule 97 = .ok (.invokevirtual 115, 3) := by decide +kernel
theorem dX6_rule_100 : decode cX6_rule 100 = .ok (.ireturn, 1) := by decide +kernel
theorem dX6_rule_101 : decode cX6_rule 101 = .ok (.aload_n 0, 1) := by decide +kernel
theorem dX6_rule_102 : decode cX6_rule 102 = .ok (.getfield 10, 3) := by decide +kernel
theorem dX6_rule_105 : decode cX6_rule 105 = .ok (.invokevirtual 119, 3) := by decide +kernel
theorem dX6_rule_108 : decode cX6_rule 108 = .ok (.ireturn, 1) := by decide +kernel
theorem dX6_rule_109 : decode cX6_rule 109 = .ok (.aload_n 0, 1) := by decide +kernel
theorem dX6_rule_110 : decode cX6_rule 110 = .ok (.getfield 10, 3) := by decide +kernel
theorem dX6_rule_113 : decode cX6_rule 113 = .ok (.invokevirtual 123, 3) := by decide +kernel
theorem dX6_rule_116 : decode cX6_rule 116 = .ok (.iconst 4, 1) := by decide +kernel
theorem dX6_rule_117 : decode cX6_rule 117 = .ok (.if_icmp .ne 8, 3) := by decide +kernel
theorem dX6_rule_120 : decode cX6_rule 120 = .ok (.bipush (-4), 2) := by decide +kernel
theorem dX6_rule_122 : decode cX6_rule 122 = .ok (.goto 10, 3) := by decide +kernel
theorem dX6_rule_125 : decode cX6_rule 125 = .ok (.aload_n 0, 1) := by decide +kernel
theorem dX6_rule_126 : decode cX6_rule 126 = .ok (.getfield 10, 3) := by decide +kernel
theorem dX6_rule_129 : decode cX6_rule 129 = .ok (.invokevirtual 123, 3) := by decide +kernel
theorem dX6_rule_132 : decode cX6_rule 132 = .ok (.ireturn, 1) := by decide +kernel
theorem dX6_rule_133 : decode cX6_rule 133 = .ok (.aload_n 0, 1) := by decide +kernel
theorem dX6_rule_134 : decode cX6_rule 134 = .ok (.getfield 10, 3) := by decide +kernel
theorem dX6_rule_137 : decode cX6_rule 137 = .ok (.iconst 3, 1) := by decide +kernel
theorem dX6_rule_138 : decode cX6_rule 138 = .ok (.invokevirtual 115, 3) := by decide +kernel
theorem dX6_rule_141 : decode cX6_rule 141 = .ok (.ireturn, 1) := by decide +kernel
theorem dX6_rule_142 : decode cX6_rule 142 = .ok (.iconst (-1), 1) := by decide +kernel
theorem dX6_rule_143 : decode cX6_rule 143 = .ok (.ireturn, 1) := by decide +kernel
theorem dX6_geyser_0 : decode cX6_geyser 0 = .ok (.aload_n 0, 1) := by decide +kernel
theorem dX6_geyser_1 : decode cX6_geyser 1 = .ok (.getfield 10, 3) := by decide +kernel
theorem dX6_geyser_4 : decode cX6_geyser 4 = .ok (.iload_n 1, 1) := by decide +kernel
theorem dX6_geyser_5 : decode cX6_geyser 5 = .ok (.invokevirtual 126, 3) := by decide +kernel
theorem dX6_geyser_8 : decode cX6_geyser 8 = .ok (.ifCond .ne 5, 3) := by decide +kernel
theorem dX6_geyser_11 : decode cX6_geyser 11 = .ok (.iconst (-1), 1) := by decide +kernel
theorem dX6_geyser_12 : decode cX6_geyser 12 = .ok (.ireturn, 1) := by decide +kernel
theorem dX6_geyser_13 : decode cX6_geyser 13 = .ok (.iload_n 2, 1) := by decide +kernel
theorem dX6_geyser_14 : decode cX6_geyser 14 = .ok (.lookupswitch 55 #[(6, 26), (7, 35)], 26) := by decide +kernel
theorem dX6_geyser_40 : decode cX6_geyser 40 = .ok (.aload_n 0, 1) := by decide +kernel
theorem dX6_geyser_41 : decode cX6_geyser 41 = .ok (.getfield 10, 3) := by decide +kernel
theorem dX6_geyser_44 : decode cX6_geyser 44 = .ok (.iload_n 1, 1) := by decide +kernel
theorem dX6_geyser_45 : decode cX6_geyser 45 = .ok (.invokevirtual 129, 3) := by decide +kernel
theorem dX6_geyser_48 : decode cX6_geyser 48 = .ok (.ireturn, 1) := by decide +kernel
theorem dX6_geyser_49 : decode cX6_geyser 49 = .ok (.aload_n 0, 1) := by decide +kernel
theorem dX6_geyser_50 : decode cX6_geyser 50 = .ok (.getfield 10, 3) := by decide +kernel
theorem dX6_geyser_53 : decode cX6_geyser 53 = .ok (.getfield 132, 3) := by decide +kernel
theorem dX6_geyser_56 : decode cX6_geyser 56 = .ok (.iload_n 1, 1) := by decide +kernel
theorem dX6_geyser_57 : decode cX6_geyser 57 = .ok (.aaload, 1) := by decide +kernel
theorem dX6_geyser_58 : decode cX6_geyser 58 = .ok (.aload_n 0, 1) := by decide +kernel
theorem dX6_geyser_59 : decode cX6_geyser 59 = .ok (.getfield 10, 3) := by decide +kernel
theorem dX6_geyser_62 : decode cX6_geyser 62 = .ok (.invokevirtual 119, 3) := by decide +kernel
theorem dX6_geyser_65 : decode cX6_geyser 65 = .ok (.invokevirtual 136, 3) := by decide +kernel
theorem dX6_geyser_68 : decode cX6_geyser 68 = .ok (.ireturn, 1) := by decide +kernel
theorem dX6_geyser_69 : decode cX6_geyser 69 = .ok (.iload_n 2, 1) := by decide +kernel
theorem dX6_geyser_70 : decode cX6_geyser 70 = .ok (.iconst 0, 1) := by decide +kernel
theorem dX6_geyser_71 : decode cX6_geyser 71 = .ok (.iconst 5, 1) := by decide +kernel
theorem dX6_geyser_72 : decode cX6_geyser 72 = .ok (.invokestatic 66, 3) := by decide +kernel
theorem dX6_geyser_75 : decode cX6_geyser 75 = .ok (.ifCond .eq 19, 3) := by decide +kernel
theorem dX6_geyser_78 : decode cX6_geyser 78 = .ok (.aload_n 0, 1) := by decide +kernel
theorem dX6_geyser_79 : decode cX6_geyser 79 = .ok (.getfield 10, 3) := by decide +kernel
theorem dX6_geyser_82 : decode cX6_geyser 82 = .ok (.getfield 132, 3) := by decide +kernel
theorem dX6_geyser_85 : decode cX6_geyser 85 = .ok (.iload_n 1, 1) := by decide +kernel
theorem dX6_geyser_86 : decode cX6_geyser 86 = .ok (.aaload, 1) := by decide +kernel
theorem dX6_geyser_87 : decode cX6_geyser 87 = .ok (.iload_n 2, 1) := by decide +kernel
theorem dX6_geyser_88 : decode cX6_geyser 88 = .ok (.invokevirtual 141, 3) := by decide +kernel
theorem dX6_geyser_91 : decode cX6_geyser 91 = .ok (.goto 4, 3) := by decide +kernel
theorem dX6_geyser_94 : decode cX6_geyser 94 = .ok (.iconst (-1), 1) := by decide +kernel
theorem dX6_geyser_95 : decode cX6_geyser 95 = .ok (.ireturn, 1) := by decide +kernel
theorem dX6_row_0 : decode cX6_row 0 = .ok (.aload_n 0, 1) := by decide +kernel
theorem dX6_row_1 : decode cX6_row 1 = .ok (.getfield 10, 3) := by decide +kernel
theorem dX6_row_4 : decode cX6_row 4 = .ok (.iload_n 1, 1) := by decide +kernel
theorem dX6_row_5 : decode cX6_row 5 = .ok (.invokevirtual 144, 3) := by decide +kernel
theorem dX6_row_8 : decode cX6_row 8 = .ok (.ifCond .eq 12, 3) := by decide +kernel
theorem dX6_row_11 : decode cX6_row 11 = .ok (.iload_n 2, 1) := by decide +kernel
theorem dX6_row_12 : decode cX6_row 12 = .ok (.iconst 0, 1) := by decide +kernel
theorem dX6_row_13 : decode cX6_row 13 = .ok (.iconst 1, 1) := by decide +kernel
theorem dX6_row_14 : decode cX6_row 14 = .ok (.invokestatic 66, 3) := by decide +kernel
theorem dX6_row_17 : decode cX6_row 17 = .ok (.ifCond .ne 5, 3) := by decide +kernel
theorem dX6_row_20 : decode cX6_row 20 = .ok (.iconst (-1), 1) := by decide +kernel
theorem dX6_row_21 : decode cX6_row 21 = .ok (.ireturn, 1) := by decide +kernel
theorem dX6_row_22 : decode cX6_row 22 = .ok (.iload_n 2, 1) := by decide +kernel
theorem dX6_row_23 : decode cX6_row 23 = .ok (.ifCond .ne 15, 3) := by decide +kernel
theorem dX6_row_26 : decode cX6_row 26 = .ok (.aload_n 0, 1) := by decide +kernel
theorem dX6_row_27 : decode cX6_row 27 = .ok (.getfield 10, 3) := by decide +kernel
theorem dX6_row_30 : decode cX6_row 30 = .ok (.getfield 147, 3) := by decide +kernel
theorem dX6_row_33 : decode cX6_row 33 = .ok (.iload_n 1, 1) := by decide +kernel
theorem dX6_row_34 : decode cX6_row 34 = .ok (.iaload, 1) := by decide +kernel
theorem dX6_row_35 : decode cX6_row 35 = .ok (.goto 12, 3) := by decide +kernel
theorem dX6_row_38 : decode cX6_row 38 = .ok (.aload_n 0, 1) := by decide +kernel
theorem dX6_row_39 : decode cX6_row 39 = .ok (.getfield 10, 3) := by decide +kernel
theorem dX6_row_42 : decode cX6_row 42 = .ok (.getfield 150, 3) := by decide +kernel
theorem dX6_row_45 : decode cX6_row 45 = .ok (.iload_n 1, 1) := by decide +kernel
theorem dX6_row_46 : decode cX6_row 46 = .ok (.iaload, 1) := by decide +kernel
theorem dX6_row_47 : decode cX6_row 47 = .ok (.ireturn, 1) := by decide +kernel
theorem dX6_alter_0 : decode cX6_alter 0 = .ok (.aload_n 0, 1) := by decide +kernel
theorem dX6_alter_1 : decode cX6_alter 1 = .ok (.getfield 10, 3) := by decide +kernel
theorem dX6_alter_4 : decode cX6_alter 4 = .ok (.iload_n 1, 1) := by decide +kernel
theorem dX6_alter_5 : decode cX6_alter 5 = .ok (.invokevirtual 126, 3) := by decide +kernel
theorem dX6_alter_8 : decode cX6_alter 8 = .ok (.ifCond .eq 11, 3) := by decide +kernel
theorem dX6_alter_11 : decode cX6_alter 11 = .ok (.iload_n 2, 1) := by decide +kernel
theorem dX6_alter_12 : decode cX6_alter 12 = .ok (.iload_n 3, 1) := by decide +kernel
theorem dX6_alter_13 : decode cX6_alter 13 = .ok (.invokestatic 153, 3) := by decide +kernel
theorem dX6_alter_16 : decode cX6_alter 16 = .ok (.ifCond .ne 5, 3) := by decide +kernel
theorem dX6_alter_19 : decode cX6_alter 19 = .ok (.iconst (-1), 1) := by decide +kernel
theorem dX6_alter_20 : decode cX6_alter 20 = .ok (.ireturn, 1) := by decide +kernel
theorem dX6_alter_21 : decode cX6_alter 21 = .ok (.aload_n 0, 1) := by decide +kernel
theorem dX6_alter_22 : decode cX6_alter 22 = .ok (.getfield 10, 3) := by decide +kernel
theorem dX6_alter_25 : decode cX6_alter 25 = .ok (.getfield 132, 3) := by decide +kernel
theorem dX6_alter_28 : decode cX6_alter 28 = .ok (.iload_n 1, 1) := by decide +kernel
theorem dX6_alter_29 : decode cX6_alter 29 = .ok (.aaload, 1) := by decide +kernel
theorem dX6_alter_30 : decode cX6_alter 30 = .ok (.iload_n 2, 1) := by decide +kernel
theorem dX6_alter_31 : decode cX6_alter 31 = .ok (.invokevirtual 141, 3) := by decide +kernel
theorem dX6_alter_34 : decode cX6_alter 34 = .ok (.istore 4, 2) := by decide +kernel
theorem dX6_alter_36 : decode cX6_alter 36 = .ok (.aload_n 0, 1) := by decide +kernel
theorem dX6_alter_37 : decode cX6_alter 37 = .ok (.getfield 10, 3) := by decide +kernel
theorem dX6_alter_40 : decode cX6_alter 40 = .ok (.getfield 132, 3) := by decide +kernel
theorem dX6_alter_43 : decode cX6_alter 43 = .ok (.iload_n 1, 1) := by decide +kernel
theorem dX6_alter_44 : decode cX6_alter 44 = .ok (.aaload, 1) := by decide +kernel
theorem dX6_alter_45 : decode cX6_alter 45 = .ok (.iload_n 2, 1) := by decide +kernel
theorem dX6_alter_46 : decode cX6_alter 46 = .ok (.iload_n 3, 1) := by decide +kernel
theorem dX6_alter_47 : decode cX6_alter 47 = .ok (.invokevirtual 157, 3) := by decide +kernel
theorem dX6_alter_50 : decode cX6_alter 50 = .ok (.iload 4, 2) := by decide +kernel
theorem dX6_alter_52 : decode cX6_alter 52 = .ok (.ireturn, 1) := by decide +kernel
theorem dX6_fitsVent_0 : decode cX6_fitsVent 0 = .ok (.iload_n 0, 1) := by decide +kernel
theorem dX6_fitsVent_1 : decode cX6_fitsVent 1 = .ok (.tableswitch 75 0 4 #[35, 42, 50, 58, 67], 35) := by decide +kernel
theorem dX6_fitsVent_36 : decode cX6_fitsVent 36 = .ok (.iload_n 1, 1) := by decide +kernel
theorem dX6_fitsVent_37 : decode cX6_fitsVent 37 = .ok (.iconst 0, 1) := by decide +kernel
theorem dX6_fitsVent_38 : decode cX6_fitsVent 38 = .ok (.iconst 3, 1) := by decide +kernel
theorem dX6_fitsVent_39 : decode cX6_fitsVent 39 = .ok (.invokestatic 66, 3) := by decide +kernel
theorem dX6_fitsVent_42 : decode cX6_fitsVent 42 = .ok (.ireturn, 1) := by decide +kernel
theorem dX6_fitsVent_43 : decode cX6_fitsVent 43 = .ok (.iload_n 1, 1) := by decide +kernel
theorem dX6_fitsVent_44 : decode cX6_fitsVent 44 = .ok (.iconst 1, 1) := by decide +kernel
theorem dX6_fitsVent_45 : decode cX6_fitsVent 45 = .ok (.bipush 60, 2) := by decide +kernel
theorem dX6_fitsVent_47 : decode cX6_fitsVent 47 = .ok (.invokestatic 66, 3) := by decide +kernel
theorem dX6_fitsVent_50 : decode cX6_fitsVent 50 = .ok (.ireturn, 1) := by decide +kernel
theorem dX6_fitsVent_51 : decode cX6_fitsVent 51 = .ok (.iload_n 1, 1) := by decide +kernel
theorem dX6_fitsVent_52 : decode cX6_fitsVent 52 = .ok (.iconst 0, 1) := by decide +kernel
theorem dX6_fitsVent_53 : decode cX6_fitsVent 53 = .ok (.bipush 9, 2) := by decide +kernel
theorem dX6_fitsVent_55 : decode cX6_fitsVent 55 = .ok (.invokestatic 66, 3) := by decide +kernel
theorem dX6_fitsVent_58 : decode cX6_fitsVent 58 = .ok (.ireturn, 1) := by decide +kernel
theorem dX6_fitsVent_59 : decode cX6_fitsVent 59 = .ok (.iload_n 1, 1) := by decide +kernel
theorem dX6_fitsVent_60 : decode cX6_fitsVent 60 = .ok (.iconst 0, 1) := by decide +kernel
theorem dX6_fitsVent_61 : decode cX6_fitsVent 61 = .ok (.sipush 199, 3) := by decide +kernel
theorem dX6_fitsVent_64 : decode cX6_fitsVent 64 = .ok (.invokestatic 66, 3) := by decide +kernel
theorem dX6_fitsVent_67 : decode cX6_fitsVent 67 = .ok (.ireturn, 1) := by decide +kernel
theorem dX6_fitsVent_68 : decode cX6_fitsVent 68 = .ok (.iload_n 1, 1) := by decide +kernel
theorem dX6_fitsVent_69 : decode cX6_fitsVent 69 = .ok (.iconst 0, 1) := by decide +kernel
theorem dX6_fitsVent_70 : decode cX6_fitsVent 70 = .ok (.bipush 20, 2) := by decide +kernel
theorem dX6_fitsVent_72 : decode cX6_fitsVent 72 = .ok (.invokestatic 66, 3) := by decide +kernel
theorem dX6_fitsVent_75 : decode cX6_fitsVent 75 = .ok (.ireturn, 1) := by decide +kernel
theorem dX6_fitsVent_76 : decode cX6_fitsVent 76 = .ok (.iconst 0, 1) := by decide +kernel
theorem dX6_fitsVent_77 : decode cX6_fitsVent 77 = .ok (.ireturn, 1) := by decide +kernel
theorem dX6_tell_0 : decode cX6_tell 0 = .ok (.iconst (-1), 1) := by decide +kernel
theorem dX6_tell_1 : decode cX6_tell 1 = .ok (.istore_n 3, 1) := by decide +kernel
theorem dX6_tell_2 : decode cX6_tell 2 = .ok (.iload_n 1, 1) := by decide +kernel
theorem dX6_tell_3 : decode cX6_tell 3 = .ok (.ifCond .ne 32, 3) := by decide +kernel
theorem dX6_tell_6 : decode cX6_tell 6 = .ok (.iload_n 2, 1) := by decide +kernel
theorem dX6_tell_7 : decode cX6_tell 7 = .ok (.iconst 0, 1) := by decide +kernel
theorem dX6_tell_8 : decode cX6_tell 8 = .ok (.bipush 40, 2) := by decide +kernel
theorem dX6_tell_10 : decode cX6_tell 10 = .ok (.invokestatic 66, 3) := by decide +kernel
theorem dX6_tell_13 : decode cX6_tell 13 = .ok (.ifCond .eq 22, 3) := by decide +kernel
theorem dX6_tell_16 : decode cX6_tell 16 = .ok (.aload_n 0, 1) := by decide +kernel
theorem dX6_tell_17 : decode cX6_tell 17 = .ok (.getfield 10, 3) := by decide +kernel
theorem dX6_tell_20 : decode cX6_tell 20 = .ok (.getfield 109, 3) := by decide +kernel
theorem dX6_tell_23 : decode cX6_tell 23 = .ok (.istore_n 3, 1) := by decide +kernel
theorem dX6_tell_24 : decode cX6_tell 24 = .ok (.aload_n 0, 1) := by decide +kernel
theorem dX6_tell_25 : decode cX6_tell 25 = .ok (.getfield 10, 3) := by decide +kernel
theorem dX6_tell_28 : decode cX6_tell 28 = .ok (.iload_n 2, 1) := by decide +kernel
theorem dX6_tell_29 : decode cX6_tell 29 = .ok (.putfield 109, 3) := by decide +kernel
theorem dX6_tell_32 : decode cX6_tell 32 = .ok (.goto 34, 3) := by decide +kernel
theorem dX6_tell_35 : decode cX6_tell 35 = .ok (.iload_n 1, 1) := by decide +kernel
theorem dX6_tell_36 : decode cX6_tell 36 = .ok (.iconst 1, 1) := by decide +kernel
theorem dX6_tell_37 : decode cX6_tell 37 = .ok (.if_icmp .ne 29, 3) := by decide +kernel
theorem dX6_tell_40 : decode cX6_tell 40 = .ok (.iload_n 2, 1) := by decide +kernel
theorem dX6_tell_41 : decode cX6_tell 41 = .ok (.iconst 0, 1) := by decide +kernel
theorem dX6_tell_42 : decode cX6_tell 42 = .ok (.bipush 20, 2) := by decide +kernel
theorem dX6_tell_44 : decode cX6_tell 44 = .ok (.invokestatic 66, 3) := by decide +kernel
theorem dX6_tell_47 : decode cX6_tell 47 = .ok (.ifCond .eq 19, 3) := by decide +kernel
theorem dX6_tell_50 : decode cX6_tell 50 = .ok (.aload_n 0, 1) := by decide +kernel
theorem dX6_tell_51 : decode cX6_tell 51 = .ok (.getfield 10, 3) := by decide +kernel
theorem dX6_tell_54 : decode cX6_tell 54 = .ok (.getfield 112, 3) := by decide +kernel
theorem dX6_tell_57 : decode cX6_tell 57 = .ok (.istore_n 3, 1) := by decide +kernel
theorem dX6_tell_58 : decode cX6_tell 58 = .ok (.aload_n 0, 1) := by decide +kernel
theorem dX6_tell_59 : decode cX6_tell 59 = .ok (.getfield 10, 3) := by decide +kernel
theorem dX6_tell_62 : decode cX6_tell 62 = .ok (.iload_n 2, 1) := by decide +kernel
theorem dX6_tell_63 : decode cX6_tell 63 = .ok (.putfield 112, 3) := by decide +kernel
theorem dX6_tell_66 : decode cX6_tell 66 = .ok (.iload_n 3, 1) := by decide +kernel
theorem dX6_tell_67 : decode cX6_tell 67 = .ok (.ireturn, 1) := by decide +kernel
theorem dX6_set_0 : decode cX6_set 0 = .ok (.iconst (-1), 1) := by decide +kernel
theorem dX6_set_1 : decode cX6_set 1 = .ok (.istore 4, 2) := by decide +kernel
theorem dX6_set_3 : decode cX6_set 3 = .ok (.aload_n 0, 1) := by decide +kernel
theorem dX6_set_4 : decode cX6_set 4 = .ok (.getfield 10, 3) := by decide +kernel
theorem dX6_set_7 : decode cX6_set 7 = .ok (.iload_n 1, 1) := by decide +kernel
theorem dX6_set_8 : decode cX6_set 8 = .ok (.invokevirtual 144, 3) := by decide +kernel
theorem dX6_set_11 : decode cX6_set 11 = .ok (.ifCond .ne 5, 3) := by decide +kernel
theorem dX6_set_14 : decode cX6_set 14 = .ok (.iconst (-1), 1) := by decide +kernel
theorem dX6_set_15 : decode cX6_set 15 = .ok (.ireturn, 1) := by decide +kernel
theorem dX6_set_16 : decode cX6_set 16 = .ok (.iload_n 2, 1) := by decide +kernel
theorem dX6_set_17 : decode cX6_set 17 = .ok (.ifCond .ne 37, 3) := by decide +kernel
theorem dX6_set_20 : decode cX6_set 20 = .ok (.iload_n 3, 1) := by decide +kernel
theorem dX6_set_21 : decode cX6_set 21 = .ok (.iconst 0, 1) := by decide +kernel
theorem dX6_set_22 : decode cX6_set 22 = .ok (.bipush 9, 2) := by decide +kernel
theorem dX6_set_24 : decode cX6_set 24 = .ok (.invokestatic 66, 3) := by decide +kernel
theorem dX6_set_27 : decode cX6_set 27 = .ok (.ifCond .eq 27, 3) := by decide +kernel
theorem dX6_set_30 : decode cX6_set 30 = .ok (.aload_n 0, 1) := by decide +kernel
theorem dX6_set_31 : decode cX6_set 31 = .ok (.getfield 10, 3) := by decide +kernel
theorem dX6_set_34 : decode cX6_set 34 = .ok (.getfield 147, 3) := by decide +kernel
theorem dX6_set_37 : decode cX6_set 37 = .ok (.iload_n 1, 1) := by decide +kernel
theorem dX6_set_38 : decode cX6_set 38 = .ok (.iaload, 1) := by decide +kernel
theorem dX6_set_39 : decode cX6_set 39 = .ok (.istore 4, 2) := by decide +kernel
theorem dX6_set_41 : decode cX6_set 41 = .ok (.aload_n 0, 1) := by decide +kernel
theorem dX6_set_42 : decode cX6_set 42 = .ok (.getfield 10, 3) := by decide +kernel
theorem dX6_set_45 : decode cX6_set 45 = .ok (.getfield 147, 3) := by decide +kernel
theorem dX6_set_48 : decode cX6_set 48 = .ok (.iload_n 1, 1) := by decide +kernel
theorem dX6_set_49 : decode cX6_set 49 = .ok (.iload_n 3, 1) := by decide +kernel
theorem dX6_set_50 : decode cX6_set 50 = .ok (.iastore, 1) := by decide +kernel
theorem dX6_set_51 : decode cX6_set 51 = .ok (.goto 38, 3) := by decide +kernel
theorem dX6_set_54 : decode cX6_set 54 = .ok (.iload_n 2, 1) := by decide +kernel
theorem dX6_set_55 : decode cX6_set 55 = .ok (.iconst 1, 1) := by decide +kernel
theorem dX6_set_56 : decode cX6_set 56 = .ok (.if_icmp .ne 33, 3) := by decide +kernel
theorem dX6_set_59 : decode cX6_set 59 = .ok (.iload_n 3, 1) := by decide +kernel
theorem dX6_set_60 : decode cX6_set 60 = .ok (.iconst 0, 1) := by decide +kernel
theorem dX6_set_61 : decode cX6_set 61 = .ok (.iconst 4, 1) := by decide +kernel
theorem dX6_set_62 : decode cX6_set 62 = .ok (.invokestatic 66, 3) := by decide +kernel
theorem dX6_set_65 : decode cX6_set 65 = .ok (.ifCond .eq 24, 3) := by decide +kernel
theorem dX6_set_68 : decode cX6_set 68 = .ok (.aload_n 0, 1) := by decide +kernel
theorem dX6_set_69 : decode cX6_set 69 = .ok (.getfield 10, 3) := by decide +kernel
theorem dX6_set_72 : decode cX6_set 72 = .ok (.getfield 150, 3) := by decide +kernel
theorem dX6_set_75 : decode cX6_set 75 = .ok (.iload_n 1, 1) := by decide +kernel
theorem dX6_set_76 : decode cX6_set 76 = .ok (.iaload, 1) := by decide +kernel
theorem dX6_set_77 : decode cX6_set 77 = .ok (.istore 4, 2) := by decide +kernel
theorem dX6_set_79 : decode cX6_set 79 = .ok (.aload_n 0, 1) := by decide +kernel
theorem dX6_set_80 : decode cX6_set 80 = .ok (.getfield 10, 3) := by decide +kernel
theorem dX6_set_83 : decode cX6_set 83 = .ok (.getfield 150, 3) := by decide +kernel
theorem dX6_set_86 : decode cX6_set 86 = .ok (.iload_n 1, 1) := by decide +kernel
theorem dX6_set_87 : decode cX6_set 87 = .ok (.iload_n 3, 1) := by decide +kernel
theorem dX6_set_88 : decode cX6_set 88 = .ok (.iastore, 1) := by decide +kernel
theorem dX6_set_89 : decode cX6_set 89 = .ok (.iload 4, 2) := by decide +kernel
theorem dX6_set_91 : decode cX6_set 91 = .ok (.ireturn, 1) := by decide +kernel
theorem dX6_open_0 : decode cX6_open 0 = .ok (.iconst 0, 1) := by decide +kernel
theorem dX6_open_1 : decode cX6_open 1 = .ok (.iload_n 1, 1) := by decide +kernel
theorem dX6_open_2 : decode cX6_open 2 = .ok (.invokestatic 153, 3) := by decide +kernel
theorem dX6_open_5 : decode cX6_open 5 = .ok (.ifCond .eq 19, 3) := by decide +kernel
theorem dX6_open_8 : decode cX6_open 8 = .ok (.iconst 1, 1) := by decide +kernel
theorem dX6_open_9 : decode cX6_open 9 = .ok (.iload_n 2, 1) := by decide +kernel
theorem dX6_open_10 : decode cX6_open 10 = .ok (.invokestatic 153, 3) := by decide +kernel
theorem dX6_open_13 : decode cX6_open 13 = .ok (.ifCond .eq 11, 3) := by decide +kernel
theorem dX6_open_16 : decode cX6_open 16 = .ok (.iconst 2, 1) := by decide +kernel
theorem dX6_open_17 : decode cX6_open 17 = .ok (.iload_n 3, 1) := by decide +kernel
theorem dX6_open_18 : decode cX6_open 18 = .ok (.invokestatic 153, 3) := by decide +kernel
theorem dX6_open_21 : decode cX6_open 21 = .ok (.ifCond .ne 5, 3) := by decide +kernel
theorem dX6_open_24 : decode cX6_open 24 = .ok (.iconst (-1), 1) := by decide +kernel
theorem dX6_open_25 : decode cX6_open 25 = .ok (.ireturn, 1) := by decide +kernel
theorem dX6_open_26 : decode cX6_open 26 = .ok (.aload_n 0, 1) := by decide +kernel
theorem dX6_open_27 : decode cX6_open 27 = .ok (.getfield 10, 3) := by decide +kernel
theorem dX6_open_30 : decode cX6_open 30 = .ok (.iload_n 1, 1) := by decide +kernel
theorem dX6_open_31 : decode cX6_open 31 = .ok (.iload_n 2, 1) := by decide +kernel
theorem dX6_open_32 : decode cX6_open 32 = .ok (.iload_n 3, 1) := by decide +kernel
theorem dX6_open_33 : decode cX6_open 33 = .ok (.invokevirtual 161, 3) := by decide +kernel
theorem dX6_open_36 : decode cX6_open 36 = .ok (.ifCond .eq 13, 3) := by decide +kernel
theorem dX6_open_39 : decode cX6_open 39 = .ok (.aload_n 0, 1) := by decide +kernel
theorem dX6_open_40 : decode cX6_open 40 = .ok (.getfield 10, 3) := by decide +kernel
theorem dX6_open_43 : decode cX6_open 43 = .ok (.getfield 100, 3) := by decide +kernel
theorem dX6_open_46 : decode cX6_open 46 = .ok (.goto 5, 3) := by decide +kernel
theorem dX6_open_49 : decode cX6_open 49 = .ok (.bipush (-3), 2) := by decide +kernel
theorem dX6_open_51 : decode cX6_open 51 = .ok (.ireturn, 1) := by decide +kernel
theorem dX6_cut_0 : decode cX6_cut 0 = .ok (.iload_n 1, 1) := by decide +kernel
theorem dX6_cut_1 : decode cX6_cut 1 = .ok (.iconst 0, 1) := by decide +kernel
theorem dX6_cut_2 : decode cX6_cut 2 = .ok (.aload_n 0, 1) := by decide +kernel
theorem dX6_cut_3 : decode cX6_cut 3 = .ok (.getfield 10, 3) := by decide +kernel
theorem dX6_cut_6 : decode cX6_cut 6 = .ok (.getfield 100, 3) := by decide +kernel
theorem dX6_cut_9 : decode cX6_cut 9 = .ok (.invokestatic 66, 3) := by decide +kernel
theorem dX6_cut_12 : decode cX6_cut 12 = .ok (.ifCond .ne 5, 3) := by decide +kernel
theorem dX6_cut_15 : decode cX6_cut 15 = .ok (.iconst (-1), 1) := by decide +kernel
theorem dX6_cut_16 : decode cX6_cut 16 = .ok (.ireturn, 1) := by decide +kernel
theorem dX6_cut_17 : decode cX6_cut 17 = .ok (.aload_n 0, 1) := by decide +kernel
theorem dX6_cut_18 : decode cX6_cut 18 = .ok (.getfield 10, 3) := by decide +kernel
theorem dX6_cut_21 : decode cX6_cut 21 = .ok (.getfield 100, 3) := by decide +kernel
theorem dX6_cut_24 : decode cX6_cut 24 = .ok (.istore_n 2, 1) := by decide +kernel
theorem dX6_cut_25 : decode cX6_cut 25 = .ok (.aload_n 0, 1) := by decide +kernel
theorem dX6_cut_26 : decode cX6_cut 26 = .ok (.getfield 10, 3) := by decide +kernel
theorem dX6_cut_29 : decode cX6_cut 29 = .ok (.iload_n 1, 1) := by decide +kernel
theorem dX6_cut_30 : decode cX6_cut 30 = .ok (.putfield 100, 3) := by decide +kernel
theorem dX6_cut_33 : decode cX6_cut 33 = .ok (.iload_n 2, 1) := by decide +kernel
theorem dX6_cut_34 : decode cX6_cut 34 = .ok (.ireturn, 1) := by decide +kernel
theorem dX6_add_0 : decode cX6_add 0 = .ok (.aload_n 0, 1) := by decide +kernel
theorem dX6_add_1 : decode cX6_add 1 = .ok (.getfield 10, 3) := by decide +kernel
theorem dX6_add_4 : decode cX6_add 4 = .ok (.iload_n 1, 1) := by decide +kernel
theorem dX6_add_5 : decode cX6_add 5 = .ok (.iload_n 2, 1) := by decide +kernel
theorem dX6_add_6 : decode cX6_add 6 = .ok (.invokestatic 164, 3) := by decide +kernel
theorem dX6_add_9 : decode cX6_add 9 = .ok (.ireturn, 1) := by decide +kernel
theorem dX6_addTo_0 : decode cX6_addTo 0 = .ok (.iload_n 1, 1) := by decide +kernel
theorem dX6_addTo_1 : decode cX6_addTo 1 = .ok (.iconst 0, 1) := by decide +kernel
theorem dX6_addTo_2 : decode cX6_addTo 2 = .ok (.bipush 9, 2) := by decide +kernel
theorem dX6_addTo_4 : decode cX6_addTo 4 = .ok (.invokestatic 66, 3) := by decide +kernel
theorem dX6_addTo_7 : decode cX6_addTo 7 = .ok (.ifCond .eq 12, 3) := by decide +kernel
theorem dX6_addTo_10 : decode cX6_addTo 10 = .ok (.iload_n 2, 1) := by decide +kernel
theorem dX6_addTo_11 : decode cX6_addTo 11 = .ok (.iconst 0, 1) := by decide +kernel
theorem dX6_addTo_12 : decode cX6_addTo 12 = .ok (.iconst 4, 1) := by decide +kernel
theorem dX6_addTo_13 : decode cX6_addTo 13 = .ok (.invokestatic 66, 3) := by decide +kernel
theorem dX6_addTo_16 : decode cX6_addTo 16 = .ok (.ifCond .ne 5, 3) := by decide +kernel
theorem dX6_addTo_19 : decode cX6_addTo 19 = .ok (.iconst (-1), 1) := by decide +kernel
theorem dX6_addTo_20 : decode cX6_addTo 20 = .ok (.ireturn, 1) := by decide +kernel
theorem dX6_addTo_21 : decode cX6_addTo 21 = .ok (.aload_n 0, 1) := by decide +kernel
theorem dX6_addTo_22 : decode cX6_addTo 22 = .ok (.iload_n 1, 1) := by decide +kernel
theorem dX6_addTo_23 : decode cX6_addTo 23 = .ok (.iload_n 2, 1) := by decide +kernel
theorem dX6_addTo_24 : decode cX6_addTo 24 = .ok (.invokevirtual 168, 3) := by decide +kernel
theorem dX6_addTo_27 : decode cX6_addTo 27 = .ok (.ifCond .eq 10, 3) := by decide +kernel
theorem dX6_addTo_30 : decode cX6_addTo 30 = .ok (.aload_n 0, 1) := by decide +kernel
theorem dX6_addTo_31 : decode cX6_addTo 31 = .ok (.getfield 103, 3) := by decide +kernel
theorem dX6_addTo_34 : decode cX6_addTo 34 = .ok (.goto 5, 3) := by decide +kernel
theorem dX6_addTo_37 : decode cX6_addTo 37 = .ok (.bipush (-3), 2) := by decide +kernel
theorem dX6_addTo_39 : decode cX6_addTo 39 = .ok (.ireturn, 1) := by decide +kernel
theorem dX6_drop_0 : decode cX6_drop 0 = .ok (.iload_n 1, 1) := by decide +kernel
theorem dX6_drop_1 : decode cX6_drop 1 = .ok (.iconst 0, 1) := by decide +kernel
theorem dX6_drop_2 : decode cX6_drop 2 = .ok (.aload_n 0, 1) := by decide +kernel
theorem dX6_drop_3 : decode cX6_drop 3 = .ok (.getfield 10, 3) := by decide +kernel
theorem dX6_drop_6 : decode cX6_drop 6 = .ok (.getfield 103, 3) := by decide +kernel
theorem dX6_drop_9 : decode cX6_drop 9 = .ok (.invokestatic 66, 3) := by decide +kernel
theorem dX6_drop_12 : decode cX6_drop 12 = .ok (.ifCond .ne 5, 3) := by decide +kernel
theorem dX6_drop_15 : decode cX6_drop 15 = .ok (.iconst (-1), 1) := by decide +kernel
theorem dX6_drop_16 : decode cX6_drop 16 = .ok (.ireturn, 1) := by decide +kernel
theorem dX6_drop_17 : decode cX6_drop 17 = .ok (.aload_n 0, 1) := by decide +kernel
theorem dX6_drop_18 : decode cX6_drop 18 = .ok (.getfield 10, 3) := by decide +kernel
theorem dX6_drop_21 : decode cX6_drop 21 = .ok (.getfield 103, 3) := by decide +kernel
theorem dX6_drop_24 : decode cX6_drop 24 = .ok (.istore_n 2, 1) := by decide +kernel
theorem dX6_drop_25 : decode cX6_drop 25 = .ok (.aload_n 0, 1) := by decide +kernel
theorem dX6_drop_26 : decode cX6_drop 26 = .ok (.getfield 10, 3) := by decide +kernel
theorem dX6_drop_29 : decode cX6_drop 29 = .ok (.iload_n 1, 1) := by decide +kernel
theorem dX6_drop_30 : decode cX6_drop 30 = .ok (.putfield 103, 3) := by decide +kernel
theorem dX6_drop_33 : decode cX6_drop 33 = .ok (.iload_n 2, 1) := by decide +kernel
theorem dX6_drop_34 : decode cX6_drop 34 = .ok (.ireturn, 1) := by decide +kernel
theorem dX6_hours_0 : decode cX6_hours 0 = .ok (.iload_n 1, 1) := by decide +kernel
theorem dX6_hours_1 : decode cX6_hours 1 = .ok (.iconst 0, 1) := by decide +kernel
theorem dX6_hours_2 : decode cX6_hours 2 = .ok (.bipush 100, 2) := by decide +kernel
theorem dX6_hours_4 : decode cX6_hours 4 = .ok (.invokestatic 66, 3) := by decide +kernel
theorem dX6_hours_7 : decode cX6_hours 7 = .ok (.ifCond .ne 5, 3) := by decide +kernel
theorem dX6_hours_10 : decode cX6_hours 10 = .ok (.iconst (-1), 1) := by decide +kernel
theorem dX6_hours_11 : decode cX6_hours 11 = .ok (.ireturn, 1) := by decide +kernel
theorem dX6_hours_12 : decode cX6_hours 12 = .ok (.aload_n 0, 1) := by decide +kernel
theorem dX6_hours_13 : decode cX6_hours 13 = .ok (.getfield 10, 3) := by decide +kernel
theorem dX6_hours_16 : decode cX6_hours 16 = .ok (.getfield 106, 3) := by decide +kernel
theorem dX6_hours_19 : decode cX6_hours 19 = .ok (.iload_n 1, 1) := by decide +kernel
theorem dX6_hours_20 : decode cX6_hours 20 = .ok (.iadd, 1) := by decide +kernel
theorem dX6_hours_21 : decode cX6_hours 21 = .ok (.sipush 10000, 3) := by decide +kernel
theorem dX6_hours_24 : decode cX6_hours 24 = .ok (.if_icmp .lt 8, 3) := by decide +kernel
theorem dX6_hours_27 : decode cX6_hours 27 = .ok (.bipush (-3), 2) := by decide +kernel
theorem dX6_hours_29 : decode cX6_hours 29 = .ok (.goto 11, 3) := by decide +kernel
theorem dX6_hours_32 : decode cX6_hours 32 = .ok (.aload_n 0, 1) := by decide +kernel
theorem dX6_hours_33 : decode cX6_hours 33 = .ok (.getfield 10, 3) := by decide +kernel
theorem dX6_hours_36 : decode cX6_hours 36 = .ok (.iload_n 1, 1) := by decide +kernel
theorem dX6_hours_37 : decode cX6_hours 37 = .ok (.invokevirtual 171, 3) := by decide +kernel
theorem dX6_hours_40 : decode cX6_hours 40 = .ok (.ireturn, 1) := by decide +kernel
theorem dX6_runs_0 : decode cX6_runs 0 = .ok (.iload_n 1, 1) := by decide +kernel
theorem dX6_runs_1 : decode cX6_runs 1 = .ok (.invokestatic 174, 3) := by decide +kernel
theorem dX6_runs_4 : decode cX6_runs 4 = .ok (.ifCond .eq 12, 3) := by decide +kernel
theorem dX6_runs_7 : decode cX6_runs 7 = .ok (.iload_n 2, 1) := by decide +kernel
theorem dX6_runs_8 : decode cX6_runs 8 = .ok (.iconst 0, 1) := by decide +kernel
theorem dX6_runs_9 : decode cX6_runs 9 = .ok (.iconst 4, 1) := by decide +kernel
theorem dX6_runs_10 : decode cX6_runs 10 = .ok (.invokestatic 66, 3) := by decide +kernel
theorem dX6_runs_13 : decode cX6_runs 13 = .ok (.ifCond .ne 5, 3) := by decide +kernel
theorem dX6_runs_16 : decode cX6_runs 16 = .ok (.iconst (-1), 1) := by decide +kernel
theorem dX6_runs_17 : decode cX6_runs 17 = .ok (.ireturn, 1) := by decide +kernel
theorem dX6_runs_18 : decode cX6_runs 18 = .ok (.aload_n 0, 1) := by decide +kernel
theorem dX6_runs_19 : decode cX6_runs 19 = .ok (.invokevirtual 177, 3) := by decide +kernel
theorem dX6_runs_22 : decode cX6_runs 22 = .ok (.iload_n 1, 1) := by decide +kernel
theorem dX6_runs_23 : decode cX6_runs 23 = .ok (.iload_n 2, 1) := by decide +kernel
theorem dX6_runs_24 : decode cX6_runs 24 = .ok (.invokevirtual 181, 3) := by decide +kernel
theorem dX6_runs_27 : decode cX6_runs 27 = .ok (.ireturn, 1) := by decide +kernel
theorem dX6_ahead_0 : decode cX6_ahead 0 = .ok (.aload_n 0, 1) := by decide +kernel
theorem dX6_ahead_1 : decode cX6_ahead 1 = .ok (.getfield 10, 3) := by decide +kernel
theorem dX6_ahead_4 : decode cX6_ahead 4 = .ok (.iload_n 1, 1) := by decide +kernel
theorem dX6_ahead_5 : decode cX6_ahead 5 = .ok (.invokevirtual 126, 3) := by decide +kernel
theorem dX6_ahead_8 : decode cX6_ahead 8 = .ok (.ifCond .eq 19, 3) := by decide +kernel
theorem dX6_ahead_11 : decode cX6_ahead 11 = .ok (.iload_n 2, 1) := by decide +kernel
theorem dX6_ahead_12 : decode cX6_ahead 12 = .ok (.invokestatic 174, 3) := by decide +kernel
theorem dX6_ahead_15 : decode cX6_ahead 15 = .ok (.ifCond .eq 12, 3) := by decide +kernel
theorem dX6_ahead_18 : decode cX6_ahead 18 = .ok (.iload_n 3, 1) := by decide +kernel
theorem dX6_ahead_19 : decode cX6_ahead 19 = .ok (.iconst 0, 1) := by decide +kernel
theorem dX6_ahead_20 : decode cX6_ahead 20 = .ok (.iconst 2, 1) := by decide +kernel
theorem dX6_ahead_21 : decode cX6_ahead 21 = .ok (.invokestatic 66, 3) := by decide +kernel
theorem dX6_ahead_24 : decode cX6_ahead 24 = .ok (.ifCond .ne 5, 3) := by decide +kernel
theorem dX6_ahead_27 : decode cX6_ahead 27 = .ok (.iconst (-1), 1) := by decide +kernel
theorem dX6_ahead_28 : decode cX6_ahead 28 = .ok (.ireturn, 1) := by decide +kernel
theorem dX6_ahead_29 : decode cX6_ahead 29 = .ok (.aload_n 0, 1) := by decide +kernel
theorem dX6_ahead_30 : decode cX6_ahead 30 = .ok (.invokevirtual 177, 3) := by decide +kernel
theorem dX6_ahead_33 : decode cX6_ahead 33 = .ok (.astore 4, 2) := by decide +kernel
theorem dX6_ahead_35 : decode cX6_ahead 35 = .ok (.aload 4, 2) := by decide +kernel
theorem dX6_ahead_37 : decode cX6_ahead 37 = .ok (.iload_n 1, 1) := by decide +kernel
theorem dX6_ahead_38 : decode cX6_ahead 38 = .ok (.iload_n 2, 1) := by decide +kernel
theorem dX6_ahead_39 : decode cX6_ahead 39 = .ok (.invokevirtual 185, 3) := by decide +kernel
theorem dX6_ahead_42 : decode cX6_ahead 42 = .ok (.istore 5, 2) := by decide +kernel
theorem dX6_ahead_44 : decode cX6_ahead 44 = .ok (.aload 4, 2) := by decide +kernel
theorem dX6_ahead_46 : decode cX6_ahead 46 = .ok (.getfield 132, 3) := by decide +kernel
theorem dX6_ahead_49 : decode cX6_ahead 49 = .ok (.iload_n 1, 1) := by decide +kernel
theorem dX6_ahead_50 : decode cX6_ahead 50 = .ok (.aaload, 1) := by decide +kernel
theorem dX6_ahead_51 : decode cX6_ahead 51 = .ok (.astore 6, 2) := by decide +kernel
theorem dX6_ahead_53 : decode cX6_ahead 53 = .ok (.iload_n 3, 1) := by decide +kernel
theorem dX6_ahead_54 : decode cX6_ahead 54 = .ok (.ifCond .ne 11, 3) := by decide +kernel
theorem dX6_ahead_57 : decode cX6_ahead 57 = .ok (.aload 6, 2) := by decide +kernel
theorem dX6_ahead_59 : decode cX6_ahead 59 = .ok (.getfield 188, 3) := by decide +kernel
theorem dX6_ahead_62 : decode cX6_ahead 62 = .ok (.goto 18, 3) := by decide +kernel
theorem dX6_ahead_65 : decode cX6_ahead 65 = .ok (.iload_n 3, 1) := by decide +kernel
theorem dX6_ahead_66 : decode cX6_ahead 66 = .ok (.iconst 1, 1) := by decide +kernel
theorem dX6_ahead_67 : decode cX6_ahead 67 = .ok (.if_icmp .ne 11, 3) := by decide +kernel
theorem dX6_ahead_70 : decode cX6_ahead 70 = .ok (.aload 6, 2) := by decide +kernel
theorem dX6_ahead_72 : decode cX6_ahead 72 = .ok (.getfield 191, 3) := by decide +kernel
theorem dX6_ahead_75 : decode cX6_ahead 75 = .ok (.goto 5, 3) := by decide +kernel
theorem dX6_ahead_78 : decode cX6_ahead 78 = .ok (.iload 5, 2) := by decide +kernel
theorem dX6_ahead_80 : decode cX6_ahead 80 = .ok (.ireturn, 1) := by decide +kernel
theorem dX6_ups_0 : decode cX6_ups 0 = .ok (.iload_n 1, 1) := by decide +kernel
theorem dX6_ups_1 : decode cX6_ups 1 = .ok (.invokestatic 174, 3) := by decide +kernel
theorem dX6_ups_4 : decode cX6_ups 4 = .ok (.ifCond .ne 5, 3) := by decide +kernel
theorem dX6_ups_7 : decode cX6_ups 7 = .ok (.iconst (-1), 1) := by decide +kernel
theorem dX6_ups_8 : decode cX6_ups 8 = .ok (.ireturn, 1) := by decide +kernel
theorem dX6_ups_9 : decode cX6_ups 9 = .ok (.aload_n 0, 1) := by decide +kernel
theorem dX6_ups_10 : decode cX6_ups 10 = .ok (.invokevirtual 177, 3) := by decide +kernel
theorem dX6_ups_13 : decode cX6_ups 13 = .ok (.astore_n 2, 1) := by decide +kernel
theorem dX6_ups_14 : decode cX6_ups 14 = .ok (.aload_n 2, 1) := by decide +kernel
theorem dX6_ups_15 : decode cX6_ups 15 = .ok (.iload_n 1, 1) := by decide +kernel
theorem dX6_ups_16 : decode cX6_ups 16 = .ok (.invokevirtual 171, 3) := by decide +kernel
theorem dX6_ups_19 : decode cX6_ups 19 = .ok (.pop, 1) := by decide +kernel
theorem dX6_ups_20 : decode cX6_ups 20 = .ok (.aload_n 2, 1) := by decide +kernel
theorem dX6_ups_21 : decode cX6_ups 21 = .ok (.invokevirtual 194, 3) := by decide +kernel
theorem dX6_ups_24 : decode cX6_ups 24 = .ok (.ireturn, 1) := by decide +kernel
theorem dX6_when_0 : decode cX6_when 0 = .ok (.aload_n 0, 1) := by decide +kernel
theorem dX6_when_1 : decode cX6_when 1 = .ok (.getfield 10, 3) := by decide +kernel
theorem dX6_when_4 : decode cX6_when 4 = .ok (.iload_n 1, 1) := by decide +kernel
theorem dX6_when_5 : decode cX6_when 5 = .ok (.invokevirtual 126, 3) := by decide +kernel
theorem dX6_when_8 : decode cX6_when 8 = .ok (.ifCond .ne 5, 3) := by decide +kernel
theorem dX6_when_11 : decode cX6_when 11 = .ok (.iconst (-1), 1) := by decide +kernel
theorem dX6_when_12 : decode cX6_when 12 = .ok (.ireturn, 1) := by decide +kernel
theorem dX6_when_13 : decode cX6_when 13 = .ok (.aload_n 0, 1) := by decide +kernel
theorem dX6_when_14 : decode cX6_when 14 = .ok (.invokevirtual 177, 3) := by decide +kernel
theorem dX6_when_17 : decode cX6_when 17 = .ok (.astore_n 2, 1) := by decide +kernel
theorem dX6_when_18 : decode cX6_when 18 = .ok (.iconst 0, 1) := by decide +kernel
theorem dX6_when_19 : decode cX6_when 19 = .ok (.istore_n 3, 1) := by decide +kernel
theorem dX6_when_20 : decode cX6_when 20 = .ok (.iload_n 3, 1) := by decide +kernel
theorem dX6_when_21 : decode cX6_when 21 = .ok (.sipush 200, 3) := by decide +kernel
theorem dX6_when_24 : decode cX6_when 24 = .ok (.if_icmp .gt 23, 3) := by decide +kernel
theorem dX6_when_27 : decode cX6_when 27 = .ok (.aload_n 2, 1) := by decide +kernel
theorem dX6_when_28 : decode cX6_when 28 = .ok (.invokevirtual 194, 3) := by decide +kernel
theorem dX6_when_31 : decode cX6_when 31 = .ok (.iload_n 1, 1) := by decide +kernel
theorem dX6_when_32 : decode cX6_when 32 = .ok (.invokestatic 197, 3) := by decide +kernel
theorem dX6_when_35 : decode cX6_when 35 = .ok (.iconst 1, 1) := by decide +kernel
theorem dX6_when_36 : decode cX6_when 36 = .ok (.if_icmp .ne 5, 3) := by decide +kernel
theorem dX6_when_39 : decode cX6_when 39 = .ok (.iload_n 3, 1) := by decide +kernel
theorem dX6_when_40 : decode cX6_when 40 = .ok (.ireturn, 1) := by decide +kernel
theorem dX6_when_41 : decode cX6_when 41 = .ok (.iinc 3 1, 3) := by decide +kernel
theorem dX6_when_44 : decode cX6_when 44 = .ok (.goto (-24), 3) := by decide +kernel
theorem dX6_when_47 : decode cX6_when 47 = .ok (.bipush (-4), 2) := by decide +kernel
theorem dX6_when_49 : decode cX6_when 49 = .ok (.ireturn, 1) := by decide +kernel
theorem dX6_again_0 : decode cX6_again 0 = .ok (.aload_n 0, 1) := by decide +kernel
theorem dX6_again_1 : decode cX6_again 1 = .ok (.invokevirtual 177, 3) := by decide +kernel
theorem dX6_again_4 : decode cX6_again 4 = .ok (.astore_n 1, 1) := by decide +kernel
theorem dX6_again_5 : decode cX6_again 5 = .ok (.iconst 1, 1) := by decide +kernel
theorem dX6_again_6 : decode cX6_again 6 = .ok (.istore_n 2, 1) := by decide +kernel
theorem dX6_again_7 : decode cX6_again 7 = .ok (.iload_n 2, 1) := by decide +kernel
theorem dX6_again_8 : decode cX6_again 8 = .ok (.sipush 200, 3) := by decide +kernel
theorem dX6_again_11 : decode cX6_again 11 = .ok (.if_icmp .gt 27, 3) := by decide +kernel
theorem dX6_again_14 : decode cX6_again 14 = .ok (.aload_n 1, 1) := by decide +kernel
theorem dX6_again_15 : decode cX6_again 15 = .ok (.invokevirtual 194, 3) := by decide +kernel
theorem dX6_again_18 : decode cX6_again 18 = .ok (.pop, 1) := by decide +kernel
theorem dX6_again_19 : decode cX6_again 19 = .ok (.aload_n 1, 1) := by decide +kernel
theorem dX6_again_20 : decode cX6_again 20 = .ok (.aload_n 0, 1) := by decide +kernel
theorem dX6_again_21 : decode cX6_again 21 = .ok (.getfield 10, 3) := by decide +kernel
theorem dX6_again_24 : decode cX6_again 24 = .ok (.invokevirtual 200, 3) := by decide +kernel
theorem dX6_again_27 : decode cX6_again 27 = .ok (.ifCond .eq 5, 3) := by decide +kernel
theorem dX6_again_30 : decode cX6_again 30 = .ok (.iload_n 2, 1) := by decide +kernel
theorem dX6_again_31 : decode cX6_again 31 = .ok (.ireturn, 1) := by decide +kernel
theorem dX6_again_32 : decode cX6_again 32 = .ok (.iinc 2 1, 3) := by decide +kernel
theorem dX6_again_35 : decode cX6_again 35 = .ok (.goto (-28), 3) := by decide +kernel
theorem dX6_again_38 : decode cX6_again 38 = .ok (.bipush (-4), 2) := by decide +kernel
theorem dX6_again_40 : decode cX6_again 40 = .ok (.ireturn, 1) := by decide +kernel
theorem dX6_whom_0 : decode cX6_whom 0 = .ok (.aload_n 0, 1) := by decide +kernel
theorem dX6_whom_1 : decode cX6_whom 1 = .ok (.getfield 10, 3) := by decide +kernel
theorem dX6_whom_4 : decode cX6_whom 4 = .ok (.iload_n 1, 1) := by decide +kernel
theorem dX6_whom_5 : decode cX6_whom 5 = .ok (.invokevirtual 144, 3) := by decide +kernel
theorem dX6_whom_8 : decode cX6_whom 8 = .ok (.ifCond .eq 19, 3) := by decide +kernel
theorem dX6_whom_11 : decode cX6_whom 11 = .ok (.iload_n 2, 1) := by decide +kernel
theorem dX6_whom_12 : decode cX6_whom 12 = .ok (.invokestatic 174, 3) := by decide +kernel
theorem dX6_whom_15 : decode cX6_whom 15 = .ok (.ifCond .eq 12, 3) := by decide +kernel
theorem dX6_whom_18 : decode cX6_whom 18 = .ok (.iload_n 3, 1) := by decide +kernel
theorem dX6_whom_19 : decode cX6_whom 19 = .ok (.iconst 0, 1) := by decide +kernel
theorem dX6_whom_20 : decode cX6_whom 20 = .ok (.iconst 1, 1) := by decide +kernel
theorem dX6_whom_21 : decode cX6_whom 21 = .ok (.invokestatic 66, 3) := by decide +kernel
theorem dX6_whom_24 : decode cX6_whom 24 = .ok (.ifCond .ne 5, 3) := by decide +kernel
theorem dX6_whom_27 : decode cX6_whom 27 = .ok (.iconst (-1), 1) := by decide +kernel
theorem dX6_whom_28 : decode cX6_whom 28 = .ok (.ireturn, 1) := by decide +kernel
theorem dX6_whom_29 : decode cX6_whom 29 = .ok (.iconst 4, 1) := by decide +kernel
theorem dX6_whom_30 : decode cX6_whom 30 = .ok (.istore 4, 2) := by decide +kernel
theorem dX6_whom_32 : decode cX6_whom 32 = .ok (.iconst (-1), 1) := by decide +kernel
theorem dX6_whom_33 : decode cX6_whom 33 = .ok (.istore 5, 2) := by decide +kernel
theorem dX6_whom_35 : decode cX6_whom 35 = .ok (.iconst 0, 1) := by decide +kernel
theorem dX6_whom_36 : decode cX6_whom 36 = .ok (.istore 6, 2) := by decide +kernel
theorem dX6_whom_38 : decode cX6_whom 38 = .ok (.iload 6, 2) := by decide +kernel
theorem dX6_whom_40 : decode cX6_whom 40 = .ok (.aload_n 0, 1) := by decide +kernel
theorem dX6_whom_41 : decode cX6_whom 41 = .ok (.getfield 10, 3) := by decide +kernel
theorem dX6_whom_44 : decode cX6_whom 44 = .ok (.getfield 100, 3) := by decide +kernel
theorem dX6_whom_47 : decode cX6_whom 47 = .ok (.if_icmp .gt 61, 3) := by decide +kernel
theorem dX6_whom_50 : decode cX6_whom 50 = .ok (.aload_n 0, 1) := by decide +kernel
theorem dX6_whom_51 : decode cX6_whom 51 = .ok (.invokevirtual 177, 3) := by decide +kernel
theorem dX6_whom_54 : decode cX6_whom 54 = .ok (.astore 7, 2) := by decide +kernel
theorem dX6_whom_56 : decode cX6_whom 56 = .ok (.aload 7, 2) := by decide +kernel
theorem dX6_whom_58 : decode cX6_whom 58 = .ok (.getfield 150, 3) := by decide +kernel
theorem dX6_whom_61 : decode cX6_whom 61 = .ok (.iload_n 1, 1) := by decide +kernel
theorem dX6_whom_62 : decode cX6_whom 62 = .ok (.aload_n 0, 1) := by decide +kernel
theorem dX6_whom_63 : decode cX6_whom 63 = .ok (.getfield 10, 3) := by decide +kernel
theorem dX6_whom_66 : decode cX6_whom 66 = .ok (.iload 6, 2) := by decide +kernel
theorem dX6_whom_68 : decode cX6_whom 68 = .ok (.invokevirtual 204, 3) := by decide +kernel
theorem dX6_whom_71 : decode cX6_whom 71 = .ok (.iastore, 1) := by decide +kernel
theorem dX6_whom_72 : decode cX6_whom 72 = .ok (.aload 7, 2) := by decide +kernel
theorem dX6_whom_74 : decode cX6_whom 74 = .ok (.iload_n 2, 1) := by decide +kernel
theorem dX6_whom_75 : decode cX6_whom 75 = .ok (.invokevirtual 171, 3) := by decide +kernel
theorem dX6_whom_78 : decode cX6_whom 78 = .ok (.istore 8, 2) := by decide +kernel
theorem dX6_whom_80 : decode cX6_whom 80 = .ok (.iload 8, 2) := by decide +kernel
theorem dX6_whom_82 : decode cX6_whom 82 = .ok (.iload 5, 2) := by decide +kernel
theorem dX6_whom_84 : decode cX6_whom 84 = .ok (.if_icmp .le 18, 3) := by decide +kernel
theorem dX6_whom_87 : decode cX6_whom 87 = .ok (.iload 8, 2) := by decide +kernel
theorem dX6_whom_89 : decode cX6_whom 89 = .ok (.istore 5, 2) := by decide +kernel
theorem dX6_whom_91 : decode cX6_whom 91 = .ok (.aload_n 0, 1) := by decide +kernel
theorem dX6_whom_92 : decode cX6_whom 92 = .ok (.getfield 10, 3) := by decide +kernel
theorem dX6_whom_95 : decode cX6_whom 95 = .ok (.iload 6, 2) := by decide +kernel
theorem dX6_whom_97 : decode cX6_whom 97 = .ok (.invokevirtual 204, 3) := by decide +kernel
theorem dX6_whom_100 : decode cX6_whom 100 = .ok (.istore 4, 2) := by decide +kernel
theorem dX6_whom_102 : decode cX6_whom 102 = .ok (.iinc 6 1, 3) := by decide +kernel
theorem dX6_whom_105 : decode cX6_whom 105 = .ok (.goto (-67), 3) := by decide +kernel
theorem dX6_whom_108 : decode cX6_whom 108 = .ok (.iload_n 3, 1) := by decide +kernel
theorem dX6_whom_109 : decode cX6_whom 109 = .ok (.ifCond .ne 8, 3) := by decide +kernel
theorem dX6_whom_112 : decode cX6_whom 112 = .ok (.iload 4, 2) := by decide +kernel
theorem dX6_whom_114 : decode cX6_whom 114 = .ok (.goto 5, 3) := by decide +kernel
theorem dX6_whom_117 : decode cX6_whom 117 = .ok (.iload 5, 2) := by decide +kernel
theorem dX6_whom_119 : decode cX6_whom 119 = .ok (.ireturn, 1) := by decide +kernel
theorem dX6_route_0 : decode cX6_route 0 = .ok (.iload_n 1, 1) := by decide +kernel
theorem dX6_route_1 : decode cX6_route 1 = .ok (.iconst 0, 1) := by decide +kernel
theorem dX6_route_2 : decode cX6_route 2 = .ok (.iconst 4, 1) := by decide +kernel
theorem dX6_route_3 : decode cX6_route 3 = .ok (.invokestatic 66, 3) := by decide +kernel
theorem dX6_route_6 : decode cX6_route 6 = .ok (.ifCond .eq 20, 3) := by decide +kernel
theorem dX6_route_9 : decode cX6_route 9 = .ok (.iload_n 2, 1) := by decide +kernel
theorem dX6_route_10 : decode cX6_route 10 = .ok (.ifCond .eq 18, 3) := by decide +kernel
theorem dX6_route_13 : decode cX6_route 13 = .ok (.iload_n 2, 1) := by decide +kernel
theorem dX6_route_14 : decode cX6_route 14 = .ok (.bipush 10, 2) := by decide +kernel
theorem dX6_route_16 : decode cX6_route 16 = .ok (.bipush 9, 2) := by decide +kernel
theorem dX6_route_18 : decode cX6_route 18 = .ok (.iload_n 1, 1) := by decide +kernel
theorem dX6_route_19 : decode cX6_route 19 = .ok (.iadd, 1) := by decide +kernel
theorem dX6_route_20 : decode cX6_route 20 = .ok (.invokestatic 66, 3) := by decide +kernel
theorem dX6_route_23 : decode cX6_route 23 = .ok (.ifCond .ne 5, 3) := by decide +kernel
theorem dX6_route_26 : decode cX6_route 26 = .ok (.iconst (-1), 1) := by decide +kernel
theorem dX6_route_27 : decode cX6_route 27 = .ok (.ireturn, 1) := by decide +kernel
theorem dX6_route_28 : decode cX6_route 28 = .ok (.iconst 1, 1) := by decide +kernel
theorem dX6_route_29 : decode cX6_route 29 = .ok (.istore_n 3, 1) := by decide +kernel
theorem dX6_route_30 : decode cX6_route 30 = .ok (.iconst 0, 1) := by decide +kernel
theorem dX6_route_31 : decode cX6_route 31 = .ok (.istore 4, 2) := by decide +kernel
theorem dX6_route_33 : decode cX6_route 33 = .ok (.iload 4, 2) := by decide +kernel
theorem dX6_route_35 : decode cX6_route 35 = .ok (.iload_n 1, 1) := by decide +kernel
theorem dX6_route_36 : decode cX6_route 36 = .ok (.if_icmp .ge 21, 3) := by decide +kernel
theorem dX6_route_39 : decode cX6_route 39 = .ok (.iload_n 3, 1) := by decide +kernel
theorem dX6_route_40 : decode cX6_route 40 = .ok (.aload_n 0, 1) := by decide +kernel
theorem dX6_route_41 : decode cX6_route 41 = .ok (.getfield 10, 3) := by decide +kernel
theorem dX6_route_44 : decode cX6_route 44 = .ok (.getfield 100, 3) := by decide +kernel
theorem dX6_route_47 : decode cX6_route 47 = .ok (.iconst 1, 1) := by decide +kernel
theorem dX6_route_48 : decode cX6_route 48 = .ok (.iadd, 1) := by decide +kernel
theorem dX6_route_49 : decode cX6_route 49 = .ok (.imul, 1) := by decide +kernel
theorem dX6_route_50 : decode cX6_route 50 = .ok (.istore_n 3, 1) := by decide +kernel
theorem dX6_route_51 : decode cX6_route 51 = .ok (.iinc 4 1, 3) := by decide +kernel
theorem dX6_route_54 : decode cX6_route 54 = .ok (.goto (-21), 3) := by decide +kernel
theorem dX6_route_57 : decode cX6_route 57 = .ok (.iconst 0, 1) := by decide +kernel
theorem dX6_route_58 : decode cX6_route 58 = .ok (.istore 4, 2) := by decide +kernel
theorem dX6_route_60 : decode cX6_route 60 = .ok (.iconst (-1), 1) := by decide +kernel
theorem dX6_route_61 : decode cX6_route 61 = .ok (.istore 5, 2) := by decide +kernel
theorem dX6_route_63 : decode cX6_route 63 = .ok (.iconst 0, 1) := by decide +kernel
theorem dX6_route_64 : decode cX6_route 64 = .ok (.istore 6, 2) := by decide +kernel
theorem dX6_route_66 : decode cX6_route 66 = .ok (.iload 6, 2) := by decide +kernel
theorem dX6_route_68 : decode cX6_route 68 = .ok (.iload_n 3, 1) := by decide +kernel
theorem dX6_route_69 : decode cX6_route 69 = .ok (.if_icmp .ge 33, 3) := by decide +kernel
theorem dX6_route_72 : decode cX6_route 72 = .ok (.aload_n 0, 1) := by decide +kernel
theorem dX6_route_73 : decode cX6_route 73 = .ok (.iload 6, 2) := by decide +kernel
theorem dX6_route_75 : decode cX6_route 75 = .ok (.iload_n 1, 1) := by decide +kernel
theorem dX6_route_76 : decode cX6_route 76 = .ok (.invokevirtual 207, 3) := by decide +kernel
theorem dX6_route_79 : decode cX6_route 79 = .ok (.istore 7, 2) := by decide +kernel
theorem dX6_route_81 : decode cX6_route 81 = .ok (.iload 7, 2) := by decide +kernel
theorem dX6_route_83 : decode cX6_route 83 = .ok (.iload 5, 2) := by decide +kernel
theorem dX6_route_85 : decode cX6_route 85 = .ok (.if_icmp .le 11, 3) := by decide +kernel
theorem dX6_route_88 : decode cX6_route 88 = .ok (.iload 7, 2) := by decide +kernel
theorem dX6_route_90 : decode cX6_route 90 = .ok (.istore 5, 2) := by decide +kernel
theorem dX6_route_92 : decode cX6_route 92 = .ok (.iload 6, 2) := by decide +kernel
theorem dX6_route_94 : decode cX6_route 94 = .ok (.istore 4, 2) := by decide +kernel
theorem dX6_route_96 : decode cX6_route 96 = .ok (.iinc 6 1, 3) := by decide +kernel
theorem dX6_route_99 : decode cX6_route 99 = .ok (.goto (-33), 3) := by decide +kernel
theorem dX6_route_102 : decode cX6_route 102 = .ok (.iload_n 2, 1) := by decide +kernel
theorem dX6_route_103 : decode cX6_route 103 = .ok (.ifCond .ne 8, 3) := by decide +kernel
theorem dX6_route_106 : decode cX6_route 106 = .ok (.iload 5, 2) := by decide +kernel
theorem dX6_route_108 : decode cX6_route 108 = .ok (.goto 14, 3) := by decide +kernel
theorem dX6_route_111 : decode cX6_route 111 = .ok (.aload_n 0, 1) := by decide +kernel
theorem dX6_route_112 : decode cX6_route 112 = .ok (.iload 4, 2) := by decide +kernel
theorem dX6_route_114 : decode cX6_route 114 = .ok (.iload_n 1, 1) := by decide +kernel
theorem dX6_route_115 : decode cX6_route 115 = .ok (.iload_n 2, 1) := by decide +kernel
theorem dX6_route_116 : decode cX6_route 116 = .ok (.bipush 10, 2) := by decide +kernel
theorem dX6_route_118 : decode cX6_route 118 = .ok (.isub, 1) := by decide +kernel
theorem dX6_route_119 : decode cX6_route 119 = .ok (.invokevirtual 210, 3) := by decide +kernel
theorem dX6_route_122 : decode cX6_route 122 = .ok (.ireturn, 1) := by decide +kernel
theorem dX6_upsByRoute_0 : decode cX6_upsByRoute 0 = .ok (.aload_n 0, 1) := by decide +kernel
theorem dX6_upsByRoute_1 : decode cX6_upsByRoute 1 = .ok (.invokevirtual 177, 3) := by decide +kernel
theorem dX6_upsByRoute_4 : decode cX6_upsByRoute 4 = .ok (.astore_n 3, 1) := by decide +kernel
theorem dX6_upsByRoute_5 : decode cX6_upsByRoute 5 = .ok (.iconst 0, 1) := by decide +kernel
theorem dX6_upsByRoute_6 : decode cX6_upsByRoute 6 = .ok (.istore 4, 2) := by decide +kernel
theorem dX6_upsByRoute_8 : decode cX6_upsByRoute 8 = .ok (.iconst 0, 1) := by decide +kernel
theorem dX6_upsByRoute_9 : decode cX6_upsByRoute 9 = .ok (.istore 5, 2) := by decide +kernel
theorem dX6_upsByRoute_11 : decode cX6_upsByRoute 11 = .ok (.iload 5, 2) := by decide +kernel
theorem dX6_upsByRoute_13 : decode cX6_upsByRoute 13 = .ok (.iload_n 2, 1) := by decide +kernel
theorem dX6_upsByRoute_14 : decode cX6_upsByRoute 14 = .ok (.if_icmp .ge 33, 3) := by decide +kernel
theorem dX6_upsByRoute_17 : decode cX6_upsByRoute 17 = .ok (.iload 4, 2) := by decide +kernel
theorem dX6_upsByRoute_19 : decode cX6_upsByRoute 19 = .ok (.aload_n 3, 1) := by decide +kernel
theorem dX6_upsByRoute_20 : decode cX6_upsByRoute 20 = .ok (.aload_n 3, 1) := by decide +kernel
theorem dX6_upsByRoute_21 : decode cX6_upsByRoute 21 = .ok (.invokevirtual 119, 3) := by decide +kernel
theorem dX6_upsByRoute_24 : decode cX6_upsByRoute 24 = .ok (.aload_n 0, 1) := by decide +kernel
theorem dX6_upsByRoute_25 : decode cX6_upsByRoute 25 = .ok (.iload_n 1, 1) := by decide +kernel
theorem dX6_upsByRoute_26 : decode cX6_upsByRoute 26 = .ok (.iload_n 2, 1) := by decide +kernel
theorem dX6_upsByRoute_27 : decode cX6_upsByRoute 27 = .ok (.iload 5, 2) := by decide +kernel
theorem dX6_upsByRoute_29 : decode cX6_upsByRoute 29 = .ok (.invokevirtual 210, 3) := by decide +kernel
theorem dX6_upsByRoute_32 : decode cX6_upsByRoute 32 = .ok (.invokevirtual 214, 3) := by decide +kernel
theorem dX6_upsByRoute_35 : decode cX6_upsByRoute 35 = .ok (.invokestatic 217, 3) := by decide +kernel
theorem dX6_upsByRoute_38 : decode cX6_upsByRoute 38 = .ok (.iadd, 1) := by decide +kernel
theorem dX6_upsByRoute_39 : decode cX6_upsByRoute 39 = .ok (.istore 4, 2) := by decide +kernel
theorem dX6_upsByRoute_41 : decode cX6_upsByRoute 41 = .ok (.iinc 5 1, 3) := by decide +kernel
theorem dX6_upsByRoute_44 : decode cX6_upsByRoute 44 = .ok (.goto (-33), 3) := by decide +kernel
theorem dX6_upsByRoute_47 : decode cX6_upsByRoute 47 = .ok (.iload 4, 2) := by decide +kernel
theorem dX6_upsByRoute_49 : decode cX6_upsByRoute 49 = .ok (.ireturn, 1) := by decide +kernel
theorem dX6_companyOnRoute_0 : decode cX6_companyOnRoute 0 = .ok (.iconst 1, 1) := by decide +kernel
theorem dX6_companyOnRoute_1 : decode cX6_companyOnRoute 1 = .ok (.aload_n 0, 1) := by decide +kernel
theorem dX6_companyOnRoute_2 : decode cX6_companyOnRoute 2 = .ok (.getfield 10, 3) := by decide +kernel
theorem dX6_companyOnRoute_5 : decode cX6_companyOnRoute 5 = .ok (.getfield 100, 3) := by decide +kernel
theorem dX6_companyOnRoute_8 : decode cX6_companyOnRoute 8 = .ok (.iconst 1, 1) := by decide +kernel
theorem dX6_companyOnRoute_9 : decode cX6_companyOnRoute 9 = .ok (.iadd, 1) := by decide +kernel
theorem dX6_companyOnRoute_10 : decode cX6_companyOnRoute 10 = .ok (.invokestatic 222, 3) := by decide +kernel
theorem dX6_companyOnRoute_13 : decode cX6_companyOnRoute 13 = .ok (.istore 4, 2) := by decide +kernel
theorem dX6_companyOnRoute_15 : decode cX6_companyOnRoute 15 = .ok (.iload_n 1, 1) := by decide +kernel
theorem dX6_companyOnRoute_16 : decode cX6_companyOnRoute 16 = .ok (.istore 5, 2) := by decide +kernel
theorem dX6_companyOnRoute_18 : decode cX6_companyOnRoute 18 = .ok (.iload_n 2, 1) := by decide +kernel
theorem dX6_companyOnRoute_19 : decode cX6_companyOnRoute 19 = .ok (.iconst 1, 1) := by decide +kernel
theorem dX6_companyOnRoute_20 : decode cX6_companyOnRoute 20 = .ok (.isub, 1) := by decide +kernel
theorem dX6_companyOnRoute_21 : decode cX6_companyOnRoute 21 = .ok (.istore 6, 2) := by decide +kernel
theorem dX6_companyOnRoute_23 : decode cX6_companyOnRoute 23 = .ok (.iload 6, 2) := by decide +kernel
theorem dX6_companyOnRoute_25 : decode cX6_companyOnRoute 25 = .ok (.iload_n 3, 1) := by decide +kernel
theorem dX6_companyOnRoute_26 : decode cX6_companyOnRoute 26 = .ok (.if_icmp .le 16, 3) := by decide +kernel
theorem dX6_companyOnRoute_29 : decode cX6_companyOnRoute 29 = .ok (.iload 5, 2) := by decide +kernel
theorem dX6_companyOnRoute_31 : decode cX6_companyOnRoute 31 = .ok (.iload 4, 2) := by decide +kernel
theorem dX6_companyOnRoute_33 : decode cX6_companyOnRoute 33 = .ok (.idiv, 1) := by decide +kernel
theorem dX6_companyOnRoute_34 : decode cX6_companyOnRoute 34 = .ok (.istore 5, 2) := by decide +kernel
theorem dX6_companyOnRoute_36 : decode cX6_companyOnRoute 36 = .ok (.iinc 6 (-1), 3) := by decide +kernel
theorem dX6_companyOnRoute_39 : decode cX6_companyOnRoute 39 = .ok (.goto (-16), 3) := by decide +kernel
theorem dX6_companyOnRoute_42 : decode cX6_companyOnRoute 42 = .ok (.aload_n 0, 1) := by decide +kernel
theorem dX6_companyOnRoute_43 : decode cX6_companyOnRoute 43 = .ok (.getfield 10, 3) := by decide +kernel
theorem dX6_companyOnRoute_46 : decode cX6_companyOnRoute 46 = .ok (.iload 5, 2) := by decide +kernel
theorem dX6_companyOnRoute_48 : decode cX6_companyOnRoute 48 = .ok (.iload 4, 2) := by decide +kernel
theorem dX6_companyOnRoute_50 : decode cX6_companyOnRoute 50 = .ok (.irem, 1) := by decide +kernel
theorem dX6_companyOnRoute_51 : decode cX6_companyOnRoute 51 = .ok (.invokevirtual 204, 3) := by decide +kernel
theorem dX6_companyOnRoute_54 : decode cX6_companyOnRoute 54 = .ok (.ireturn, 1) := by decide +kernel
theorem dX6_swap_0 : decode cX6_swap 0 = .ok (.iload_n 1, 1) := by decide +kernel
theorem dX6_swap_1 : decode cX6_swap 1 = .ok (.invokestatic 174, 3) := by decide +kernel
theorem dX6_swap_4 : decode cX6_swap 4 = .ok (.ifCond .eq 12, 3) := by decide +kernel
theorem dX6_swap_7 : decode cX6_swap 7 = .ok (.iload_n 2, 1) := by decide +kernel
theorem dX6_swap_8 : decode cX6_swap 8 = .ok (.iconst 0, 1) := by decide +kernel
theorem dX6_swap_9 : decode cX6_swap 9 = .ok (.iconst 1, 1) := by decide +kernel
theorem dX6_swap_10 : decode cX6_swap 10 = .ok (.invokestatic 66, 3) := by decide +kernel
theorem dX6_swap_13 : decode cX6_swap 13 = .ok (.ifCond .ne 5, 3) := by decide +kernel
theorem dX6_swap_16 : decode cX6_swap 16 = .ok (.iconst (-1), 1) := by decide +kernel
theorem dX6_swap_17 : decode cX6_swap 17 = .ok (.ireturn, 1) := by decide +kernel
theorem dX6_swap_18 : decode cX6_swap 18 = .ok (.bipush (-4), 2) := by decide +kernel
theorem dX6_swap_20 : decode cX6_swap 20 = .ok (.istore_n 3, 1) := by decide +kernel
theorem dX6_swap_21 : decode cX6_swap 21 = .ok (.aload_n 0, 1) := by decide +kernel
theorem dX6_swap_22 : decode cX6_swap 22 = .ok (.invokevirtual 177, 3) := by decide +kernel
theorem dX6_swap_25 : decode cX6_swap 25 = .ok (.iload_n 1, 1) := by decide +kernel
theorem dX6_swap_26 : decode cX6_swap 26 = .ok (.iconst 1, 1) := by decide +kernel
theorem dX6_swap_27 : decode cX6_swap 27 = .ok (.invokevirtual 181, 3) := by decide +kernel
theorem dX6_swap_30 : decode cX6_swap 30 = .ok (.istore 4, 2) := by decide +kernel
theorem dX6_swap_32 : decode cX6_swap 32 = .ok (.iconst 0, 1) := by decide +kernel
theorem dX6_swap_33 : decode cX6_swap 33 = .ok (.istore 5, 2) := by decide +kernel
theorem dX6_swap_35 : decode cX6_swap 35 = .ok (.iload 5, 2) := by decide +kernel
theorem dX6_swap_37 : decode cX6_swap 37 = .ok (.aload_n 0, 1) := by decide +kernel
theorem dX6_swap_38 : decode cX6_swap 38 = .ok (.getfield 10, 3) := by decide +kernel
theorem dX6_swap_41 : decode cX6_swap 41 = .ok (.getfield 103, 3) := by decide +kernel
theorem dX6_swap_44 : decode cX6_swap 44 = .ok (.if_icmp .ge 77, 3) := by decide +kernel
theorem dX6_swap_47 : decode cX6_swap 47 = .ok (.iload 5, 2) := by decide +kernel
theorem dX6_swap_49 : decode cX6_swap 49 = .ok (.iconst 1, 1) := by decide +kernel
theorem dX6_swap_50 : decode cX6_swap 50 = .ok (.iadd, 1) := by decide +kernel
theorem dX6_swap_51 : decode cX6_swap 51 = .ok (.istore 6, 2) := by decide +kernel
theorem dX6_swap_53 : decode cX6_swap 53 = .ok (.iload 6, 2) := by decide +kernel
theorem dX6_swap_55 : decode cX6_swap 55 = .ok (.aload_n 0, 1) := by decide +kernel
theorem dX6_swap_56 : decode cX6_swap 56 = .ok (.getfield 10, 3) := by decide +kernel
theorem dX6_swap_59 : decode cX6_swap 59 = .ok (.getfield 103, 3) := by decide +kernel
theorem dX6_swap_62 : decode cX6_swap 62 = .ok (.if_icmp .ge 53, 3) := by decide +kernel
theorem dX6_swap_65 : decode cX6_swap 65 = .ok (.aload_n 0, 1) := by decide +kernel
theorem dX6_swap_66 : decode cX6_swap 66 = .ok (.invokevirtual 177, 3) := by decide +kernel
theorem dX6_swap_69 : decode cX6_swap 69 = .ok (.astore 7, 2) := by decide +kernel
theorem dX6_swap_71 : decode cX6_swap 71 = .ok (.aload 7, 2) := by decide +kernel
theorem dX6_swap_73 : decode cX6_swap 73 = .ok (.iload 5, 2) := by decide +kernel
theorem dX6_swap_75 : decode cX6_swap 75 = .ok (.iload 6, 2) := by decide +kernel
theorem dX6_swap_77 : decode cX6_swap 77 = .ok (.invokevirtual 227, 3) := by decide +kernel
theorem dX6_swap_80 : decode cX6_swap 80 = .ok (.aload 7, 2) := by decide +kernel
theorem dX6_swap_82 : decode cX6_swap 82 = .ok (.iload_n 1, 1) := by decide +kernel
theorem dX6_swap_83 : decode cX6_swap 83 = .ok (.iconst 1, 1) := by decide +kernel
theorem dX6_swap_84 : decode cX6_swap 84 = .ok (.invokevirtual 181, 3) := by decide +kernel
theorem dX6_swap_87 : decode cX6_swap 87 = .ok (.istore 8, 2) := by decide +kernel
theorem dX6_swap_89 : decode cX6_swap 89 = .ok (.iload 8, 2) := by decide +kernel
theorem dX6_swap_91 : decode cX6_swap 91 = .ok (.iload 4, 2) := by decide +kernel
theorem dX6_swap_93 : decode cX6_swap 93 = .ok (.if_icmp .le 16, 3) := by decide +kernel
theorem dX6_swap_96 : decode cX6_swap 96 = .ok (.iload 8, 2) := by decide +kernel
theorem dX6_swap_98 : decode cX6_swap 98 = .ok (.istore 4, 2) := by decide +kernel
theorem dX6_swap_100 : decode cX6_swap 100 = .ok (.bipush 100, 2) := by decide +kernel
theorem dX6_swap_102 : decode cX6_swap 102 = .ok (.iload 5, 2) := by decide +kernel
theorem dX6_swap_104 : decode cX6_swap 104 = .ok (.imul, 1) := by decide +kernel
theorem dX6_swap_105 : decode cX6_swap 105 = .ok (.iload 6, 2) := by decide +kernel
theorem dX6_swap_107 : decode cX6_swap 107 = .ok (.iadd, 1) := by decide +kernel
theorem dX6_swap_108 : decode cX6_swap 108 = .ok (.istore_n 3, 1) := by decide +kernel
theorem dX6_swap_109 : decode cX6_swap 109 = .ok (.iinc 6 1, 3) := by decide +kernel
theorem dX6_swap_112 : decode cX6_swap 112 = .ok (.goto (-59), 3) := by decide +kernel
theorem dX6_swap_115 : decode cX6_swap 115 = .ok (.iinc 5 1, 3) := by decide +kernel
theorem dX6_swap_118 : decode cX6_swap 118 = .ok (.goto (-83), 3) := by decide +kernel
theorem dX6_swap_121 : decode cX6_swap 121 = .ok (.iload_n 3, 1) := by decide +kernel
theorem dX6_swap_122 : decode cX6_swap 122 = .ok (.bipush (-4), 2) := by decide +kernel
theorem dX6_swap_124 : decode cX6_swap 124 = .ok (.if_icmp .eq 7, 3) := by decide +kernel
theorem dX6_swap_127 : decode cX6_swap 127 = .ok (.iload_n 2, 1) := by decide +kernel
theorem dX6_swap_128 : decode cX6_swap 128 = .ok (.ifCond .ne 7, 3) := by decide +kernel
theorem dX6_swap_131 : decode cX6_swap 131 = .ok (.iload_n 3, 1) := by decide +kernel
theorem dX6_swap_132 : decode cX6_swap 132 = .ok (.goto 5, 3) := by decide +kernel
theorem dX6_swap_135 : decode cX6_swap 135 = .ok (.iload 4, 2) := by decide +kernel
theorem dX6_swap_137 : decode cX6_swap 137 = .ok (.ireturn, 1) := by decide +kernel
theorem dX6_bears_0 : decode cX6_bears 0 = .ok (.aload_n 0, 1) := by decide +kernel
theorem dX6_bears_1 : decode cX6_bears 1 = .ok (.getfield 10, 3) := by decide +kernel
theorem dX6_bears_4 : decode cX6_bears 4 = .ok (.iload_n 1, 1) := by decide +kernel
theorem dX6_bears_5 : decode cX6_bears 5 = .ok (.invokevirtual 144, 3) := by decide +kernel
theorem dX6_bears_8 : decode cX6_bears 8 = .ok (.ifCond .eq 10, 3) := by decide +kernel
theorem dX6_bears_11 : decode cX6_bears 11 = .ok (.iload_n 2, 1) := by decide +kernel
theorem dX6_bears_12 : decode cX6_bears 12 = .ok (.invokestatic 174, 3) := by decide +kernel
theorem dX6_bears_15 : decode cX6_bears 15 = .ok (.ifCond .ne 5, 3) := by decide +kernel
theorem dX6_bears_18 : decode cX6_bears 18 = .ok (.iconst (-1), 1) := by decide +kernel
theorem dX6_bears_19 : decode cX6_bears 19 = .ok (.ireturn, 1) := by decide +kernel
theorem dX6_bears_20 : decode cX6_bears 20 = .ok (.aload_n 0, 1) := by decide +kernel
theorem dX6_bears_21 : decode cX6_bears 21 = .ok (.iload_n 1, 1) := by decide +kernel
theorem dX6_bears_22 : decode cX6_bears 22 = .ok (.iconst 0, 1) := by decide +kernel
theorem dX6_bears_23 : decode cX6_bears 23 = .ok (.iload_n 2, 1) := by decide +kernel
theorem dX6_bears_24 : decode cX6_bears 24 = .ok (.invokevirtual 230, 3) := by decide +kernel
theorem dX6_bears_27 : decode cX6_bears 27 = .ok (.istore_n 3, 1) := by decide +kernel
theorem dX6_bears_28 : decode cX6_bears 28 = .ok (.iconst 0, 1) := by decide +kernel
theorem dX6_bears_29 : decode cX6_bears 29 = .ok (.istore 4, 2) := by decide +kernel
theorem dX6_bears_31 : decode cX6_bears 31 = .ok (.iconst 1, 1) := by decide +kernel
theorem dX6_bears_32 : decode cX6_bears 32 = .ok (.istore 5, 2) := by decide +kernel
theorem dX6_bears_34 : decode cX6_bears 34 = .ok (.iload 5, 2) := by decide +kernel
theorem dX6_bears_36 : decode cX6_bears 36 = .ok (.bipush 9, 2) := by decide +kernel
theorem dX6_bears_38 : decode cX6_bears 38 = .ok (.if_icmp .gt 25, 3) := by decide +kernel
theorem dX6_bears_41 : decode cX6_bears 41 = .ok (.aload_n 0, 1) := by decide +kernel
theorem dX6_bears_42 : decode cX6_bears 42 = .ok (.iload_n 1, 1) := by decide +kernel
theorem dX6_bears_43 : decode cX6_bears 43 = .ok (.iload 5, 2) := by decide +kernel
theorem dX6_bears_45 : decode cX6_bears 45 = .ok (.iload_n 2, 1) := by decide +kernel
theorem dX6_bears_46 : decode cX6_bears 46 = .ok (.invokevirtual 230, 3) := by decide +kernel
theorem dX6_bears_49 : decode cX6_bears 49 = .ok (.iload_n 3, 1) := by decide +kernel
theorem dX6_bears_50 : decode cX6_bears 50 = .ok (.if_icmp .lt 7, 3) := by decide +kernel
theorem dX6_bears_53 : decode cX6_bears 53 = .ok (.iload 5, 2) := by decide +kernel
theorem dX6_bears_55 : decode cX6_bears 55 = .ok (.istore 4, 2) := by decide +kernel
theorem dX6_bears_57 : decode cX6_bears 57 = .ok (.iinc 5 1, 3) := by decide +kernel
theorem dX6_bears_60 : decode cX6_bears 60 = .ok (.goto (-26), 3) := by decide +kernel
theorem dX6_bears_63 : decode cX6_bears 63 = .ok (.iload 4, 2) := by decide +kernel
theorem dX6_bears_65 : decode cX6_bears 65 = .ok (.ireturn, 1) := by decide +kernel
theorem dX6_upsWithWatchers_0 : decode cX6_upsWithWatchers 0 = .ok (.aload_n 0, 1) := by decide +kernel
theorem dX6_upsWithWatchers_1 : decode cX6_upsWithWatchers 1 = .ok (.invokevirtual 177, 3) := by decide +kernel
theorem dX6_upsWithWatchers_4 : decode cX6_upsWithWatchers 4 = .ok (.astore 4, 2) := by decide +kernel
theorem dX6_upsWithWatchers_6 : decode cX6_upsWithWatchers 6 = .ok (.aload 4, 2) := by decide +kernel
theorem dX6_upsWithWatchers_8 : decode cX6_upsWithWatchers 8 = .ok (.iload_n 1, 1) := by decide +kernel
theorem dX6_upsWithWatchers_9 : decode cX6_upsWithWatchers 9 = .ok (.invokevirtual 144, 3) := by decide +kernel
theorem dX6_upsWithWatchers_12 : decode cX6_upsWithWatchers 12 = .ok (.ifCond .eq 11, 3) := by decide +kernel
theorem dX6_upsWithWatchers_15 : decode cX6_upsWithWatchers 15 = .ok (.aload 4, 2) := by decide +kernel
theorem dX6_upsWithWatchers_17 : decode cX6_upsWithWatchers 17 = .ok (.getfield 147, 3) := by decide +kernel
theorem dX6_upsWithWatchers_20 : decode cX6_upsWithWatchers 20 = .ok (.iload_n 1, 1) := by decide +kernel
theorem dX6_upsWithWatchers_21 : decode cX6_upsWithWatchers 21 = .ok (.iload_n 2, 1) := by decide +kernel
theorem dX6_upsWithWatchers_22 : decode cX6_upsWithWatchers 22 = .ok (.iastore, 1) := by decide +kernel
theorem dX6_upsWithWatchers_23 : decode cX6_upsWithWatchers 23 = .ok (.aload 4, 2) := by decide +kernel
theorem dX6_upsWithWatchers_25 : decode cX6_upsWithWatchers 25 = .ok (.iload_n 3, 1) := by decide +kernel
theorem dX6_upsWithWatchers_26 : decode cX6_upsWithWatchers 26 = .ok (.invokevirtual 171, 3) := by decide +kernel
theorem dX6_upsWithWatchers_29 : decode cX6_upsWithWatchers 29 = .ok (.ireturn, 1) := by decide +kernel
theorem dX6_flow_0 : decode cX6_flow 0 = .ok (.aload_n 0, 1) := by decide +kernel
theorem dX6_flow_1 : decode cX6_flow 1 = .ok (.getfield 10, 3) := by decide +kernel
theorem dX6_flow_4 : decode cX6_flow 4 = .ok (.iload_n 1, 1) := by decide +kernel
theorem dX6_flow_5 : decode cX6_flow 5 = .ok (.invokevirtual 126, 3) := by decide +kernel
theorem dX6_flow_8 : decode cX6_flow 8 = .ok (.ifCond .eq 20, 3) := by decide +kernel
theorem dX6_flow_11 : decode cX6_flow 11 = .ok (.iload_n 2, 1) := by decide +kernel
theorem dX6_flow_12 : decode cX6_flow 12 = .ok (.invokestatic 174, 3) := by decide +kernel
theorem dX6_flow_15 : decode cX6_flow 15 = .ok (.ifCond .eq 13, 3) := by decide +kernel
theorem dX6_flow_18 : decode cX6_flow 18 = .ok (.iload_n 3, 1) := by decide +kernel
theorem dX6_flow_19 : decode cX6_flow 19 = .ok (.iconst 0, 1) := by decide +kernel
theorem dX6_flow_20 : decode cX6_flow 20 = .ok (.bipush 20, 2) := by decide +kernel
theorem dX6_flow_22 : decode cX6_flow 22 = .ok (.invokestatic 66, 3) := by decide +kernel
theorem dX6_flow_25 : decode cX6_flow 25 = .ok (.ifCond .ne 5, 3) := by decide +kernel
theorem dX6_flow_28 : decode cX6_flow 28 = .ok (.iconst (-1), 1) := by decide +kernel
theorem dX6_flow_29 : decode cX6_flow 29 = .ok (.ireturn, 1) := by decide +kernel
theorem dX6_flow_30 : decode cX6_flow 30 = .ok (.iconst 0, 1) := by decide +kernel
theorem dX6_flow_31 : decode cX6_flow 31 = .ok (.istore 4, 2) := by decide +kernel
theorem dX6_flow_33 : decode cX6_flow 33 = .ok (.iload 4, 2) := by decide +kernel
theorem dX6_flow_35 : decode cX6_flow 35 = .ok (.bipush 40, 2) := by decide +kernel
theorem dX6_flow_37 : decode cX6_flow 37 = .ok (.if_icmp .gt 36, 3) := by decide +kernel
theorem dX6_flow_40 : decode cX6_flow 40 = .ok (.aload_n 0, 1) := by decide +kernel
theorem dX6_flow_41 : decode cX6_flow 41 = .ok (.invokevirtual 177, 3) := by decide +kernel
theorem dX6_flow_44 : decode cX6_flow 44 = .ok (.astore 5, 2) := by decide +kernel
theorem dX6_flow_46 : decode cX6_flow 46 = .ok (.aload 5, 2) := by decide +kernel
theorem dX6_flow_48 : decode cX6_flow 48 = .ok (.iload 4, 2) := by decide +kernel
theorem dX6_flow_50 : decode cX6_flow 50 = .ok (.putfield 109, 3) := by decide +kernel
theorem dX6_flow_53 : decode cX6_flow 53 = .ok (.aload 5, 2) := by decide +kernel
theorem dX6_flow_55 : decode cX6_flow 55 = .ok (.iload_n 1, 1) := by decide +kernel
theorem dX6_flow_56 : decode cX6_flow 56 = .ok (.iload_n 2, 1) := by decide +kernel
theorem dX6_flow_57 : decode cX6_flow 57 = .ok (.invokevirtual 185, 3) := by decide +kernel
theorem dX6_flow_60 : decode cX6_flow 60 = .ok (.iload_n 3, 1) := by decide +kernel
theorem dX6_flow_61 : decode cX6_flow 61 = .ok (.if_icmp .lt 6, 3) := by decide +kernel
theorem dX6_flow_64 : decode cX6_flow 64 = .ok (.iload 4, 2) := by decide +kernel
theorem dX6_flow_66 : decode cX6_flow 66 = .ok (.ireturn, 1) := by decide +kernel
theorem dX6_flow_67 : decode cX6_flow 67 = .ok (.iinc 4 1, 3) := by decide +kernel
theorem dX6_flow_70 : decode cX6_flow 70 = .ok (.goto (-37), 3) := by decide +kernel
theorem dX6_flow_73 : decode cX6_flow 73 = .ok (.bipush (-4), 2) := by decide +kernel
theorem dX6_flow_75 : decode cX6_flow 75 = .ok (.ireturn, 1) := by decide +kernel
theorem dX6_kind_0 : decode cX6_kind 0 = .ok (.aload_n 0, 1) := by decide +kernel
theorem dX6_kind_1 : decode cX6_kind 1 = .ok (.getfield 10, 3) := by decide +kernel
theorem dX6_kind_4 : decode cX6_kind 4 = .ok (.iload_n 1, 1) := by decide +kernel
theorem dX6_kind_5 : decode cX6_kind 5 = .ok (.invokevirtual 126, 3) := by decide +kernel
theorem dX6_kind_8 : decode cX6_kind 8 = .ok (.ifCond .eq 19, 3) := by decide +kernel
theorem dX6_kind_11 : decode cX6_kind 11 = .ok (.iload_n 2, 1) := by decide +kernel
theorem dX6_kind_12 : decode cX6_kind 12 = .ok (.invokestatic 174, 3) := by decide +kernel
theorem dX6_kind_15 : decode cX6_kind 15 = .ok (.ifCond .eq 12, 3) := by decide +kernel
theorem dX6_kind_18 : decode cX6_kind 18 = .ok (.iload_n 3, 1) := by decide +kernel
theorem dX6_kind_19 : decode cX6_kind 19 = .ok (.iconst 0, 1) := by decide +kernel
theorem dX6_kind_20 : decode cX6_kind 20 = .ok (.iconst 1, 1) := by decide +kernel
theorem dX6_kind_21 : decode cX6_kind 21 = .ok (.invokestatic 66, 3) := by decide +kernel
theorem dX6_kind_24 : decode cX6_kind 24 = .ok (.ifCond .ne 5, 3) := by decide +kernel
theorem dX6_kind_27 : decode cX6_kind 27 = .ok (.iconst (-1), 1) := by decide +kernel
theorem dX6_kind_28 : decode cX6_kind 28 = .ok (.ireturn, 1) := by decide +kernel
theorem dX6_kind_29 : decode cX6_kind 29 = .ok (.iconst 0, 1) := by decide +kernel
theorem dX6_kind_30 : decode cX6_kind 30 = .ok (.istore 4, 2) := by decide +kernel
theorem dX6_kind_32 : decode cX6_kind 32 = .ok (.iconst (-1), 1) := by decide +kernel
theorem dX6_kind_33 : decode cX6_kind 33 = .ok (.istore 5, 2) := by decide +kernel
theorem dX6_kind_35 : decode cX6_kind 35 = .ok (.iconst 0, 1) := by decide +kernel
theorem dX6_kind_36 : decode cX6_kind 36 = .ok (.istore 6, 2) := by decide +kernel
theorem dX6_kind_38 : decode cX6_kind 38 = .ok (.iload 6, 2) := by decide +kernel
theorem dX6_kind_40 : decode cX6_kind 40 = .ok (.iconst 3, 1) := by decide +kernel
theorem dX6_kind_41 : decode cX6_kind 41 = .ok (.if_icmp .gt 51, 3) := by decide +kernel
theorem dX6_kind_44 : decode cX6_kind 44 = .ok (.aload_n 0, 1) := by decide +kernel
theorem dX6_kind_45 : decode cX6_kind 45 = .ok (.invokevirtual 177, 3) := by decide +kernel
theorem dX6_kind_48 : decode cX6_kind 48 = .ok (.astore 7, 2) := by decide +kernel
theorem dX6_kind_50 : decode cX6_kind 50 = .ok (.aload 7, 2) := by decide +kernel
theorem dX6_kind_52 : decode cX6_kind 52 = .ok (.getfield 132, 3) := by decide +kernel
theorem dX6_kind_55 : decode cX6_kind 55 = .ok (.iload_n 1, 1) := by decide +kernel
theorem dX6_kind_56 : decode cX6_kind 56 = .ok (.aaload, 1) := by decide +kernel
theorem dX6_kind_57 : decode cX6_kind 57 = .ok (.iload 6, 2) := by decide +kernel
theorem dX6_kind_59 : decode cX6_kind 59 = .ok (.putfield 233, 3) := by decide +kernel
theorem dX6_kind_62 : decode cX6_kind 62 = .ok (.aload 7, 2) := by decide +kernel
theorem dX6_kind_64 : decode cX6_kind 64 = .ok (.iload_n 1, 1) := by decide +kernel
theorem dX6_kind_65 : decode cX6_kind 65 = .ok (.iload_n 2, 1) := by decide +kernel
theorem dX6_kind_66 : decode cX6_kind 66 = .ok (.invokevirtual 185, 3) := by decide +kernel
theorem dX6_kind_69 : decode cX6_kind 69 = .ok (.istore 8, 2) := by decide +kernel
theorem dX6_kind_71 : decode cX6_kind 71 = .ok (.iload 8, 2) := by decide +kernel
theorem dX6_kind_73 : decode cX6_kind 73 = .ok (.iload 5, 2) := by decide +kernel
theorem dX6_kind_75 : decode cX6_kind 75 = .ok (.if_icmp .le 11, 3) := by decide +kernel
theorem dX6_kind_78 : decode cX6_kind 78 = .ok (.iload 8, 2) := by decide +kernel
theorem dX6_kind_80 : decode cX6_kind 80 = .ok (.istore 5, 2) := by decide +kernel
theorem dX6_kind_82 : decode cX6_kind 82 = .ok (.iload 6, 2) := by decide +kernel
theorem dX6_kind_84 : decode cX6_kind 84 = .ok (.istore 4, 2) := by decide +kernel
theorem dX6_kind_86 : decode cX6_kind 86 = .ok (.iinc 6 1, 3) := by decide +kernel
theorem dX6_kind_89 : decode cX6_kind 89 = .ok (.goto (-51), 3) := by decide +kernel
theorem dX6_kind_92 : decode cX6_kind 92 = .ok (.iload_n 3, 1) := by decide +kernel
theorem dX6_kind_93 : decode cX6_kind 93 = .ok (.ifCond .ne 8, 3) := by decide +kernel
theorem dX6_kind_96 : decode cX6_kind 96 = .ok (.iload 4, 2) := by decide +kernel
theorem dX6_kind_98 : decode cX6_kind 98 = .ok (.goto 5, 3) := by decide +kernel
theorem dX6_kind_101 : decode cX6_kind 101 = .ok (.iload 5, 2) := by decide +kernel
theorem dX6_kind_103 : decode cX6_kind 103 = .ok (.ireturn, 1) := by decide +kernel
theorem dX6_play_0 : decode cX6_play 0 = .ok (.iload_n 1, 1) := by decide +kernel
theorem dX6_play_1 : decode cX6_play 1 = .ok (.iconst 0, 1) := by decide +kernel
theorem dX6_play_2 : decode cX6_play 2 = .ok (.iconst 4, 1) := by decide +kernel
theorem dX6_play_3 : decode cX6_play 3 = .ok (.invokestatic 66, 3) := by decide +kernel
theorem dX6_play_6 : decode cX6_play 6 = .ok (.ifCond .eq 12, 3) := by decide +kernel
theorem dX6_play_9 : decode cX6_play 9 = .ok (.iload_n 2, 1) := by decide +kernel
theorem dX6_play_10 : decode cX6_play 10 = .ok (.iconst 0, 1) := by decide +kernel
theorem dX6_play_11 : decode cX6_play 11 = .ok (.iconst 1, 1) := by decide +kernel
theorem dX6_play_12 : decode cX6_play 12 = .ok (.invokestatic 66, 3) := by decide +kernel
theorem dX6_play_15 : decode cX6_play 15 = .ok (.ifCond .ne 5, 3) := by decide +kernel
theorem dX6_play_18 : decode cX6_play 18 = .ok (.iconst (-1), 1) := by decide +kernel
theorem dX6_play_19 : decode cX6_play 19 = .ok (.ireturn, 1) := by decide +kernel
theorem dX6_play_20 : decode cX6_play 20 = .ok (.iload_n 1, 1) := by decide +kernel
theorem dX6_play_21 : decode cX6_play 21 = .ok (.ifCond .ne 14, 3) := by decide +kernel
theorem dX6_play_24 : decode cX6_play 24 = .ok (.iload_n 2, 1) := by decide +kernel
theorem dX6_play_25 : decode cX6_play 25 = .ok (.ifCond .ne 7, 3) := by decide +kernel
theorem dX6_play_28 : decode cX6_play 28 = .ok (.iconst 0, 1) := by decide +kernel
theorem dX6_play_29 : decode cX6_play 29 = .ok (.goto 5, 3) := by decide +kernel
theorem dX6_play_32 : decode cX6_play 32 = .ok (.bipush (-4), 2) := by decide +kernel
theorem dX6_play_34 : decode cX6_play 34 = .ok (.ireturn, 1) := by decide +kernel
theorem dX6_play_35 : decode cX6_play 35 = .ok (.iconst 0, 1) := by decide +kernel
theorem dX6_play_36 : decode cX6_play 36 = .ok (.istore_n 3, 1) := by decide +kernel
theorem dX6_play_37 : decode cX6_play 37 = .ok (.iload_n 3, 1) := by decide +kernel
theorem dX6_play_38 : decode cX6_play 38 = .ok (.aload_n 0, 1) := by decide +kernel
theorem dX6_play_39 : decode cX6_play 39 = .ok (.getfield 19, 3) := by decide +kernel
theorem dX6_play_42 : decode cX6_play 42 = .ok (.arraylength, 1) := by decide +kernel
theorem dX6_play_43 : decode cX6_play 43 = .ok (.if_icmp .ge 22, 3) := by decide +kernel
theorem dX6_play_46 : decode cX6_play 46 = .ok (.aload_n 0, 1) := by decide +kernel
theorem dX6_play_47 : decode cX6_play 47 = .ok (.getfield 19, 3) := by decide +kernel
theorem dX6_play_50 : decode cX6_play 50 = .ok (.iload_n 3, 1) := by decide +kernel
theorem dX6_play_51 : decode cX6_play 51 = .ok (.aaload, 1) := by decide +kernel
theorem dX6_play_52 : decode cX6_play 52 = .ok (.aload_n 0, 1) := by decide +kernel
theorem dX6_play_53 : decode cX6_play 53 = .ok (.getfield 10, 3) := by decide +kernel
theorem dX6_play_56 : decode cX6_play 56 = .ok (.invokevirtual 93, 3) := by decide +kernel
theorem dX6_play_59 : decode cX6_play 59 = .ok (.iinc 3 1, 3) := by decide +kernel
theorem dX6_play_62 : decode cX6_play 62 = .ok (.goto (-25), 3) := by decide +kernel
theorem dX6_play_65 : decode cX6_play 65 = .ok (.iconst 4, 1) := by decide +kernel
theorem dX6_play_66 : decode cX6_play 66 = .ok (.istore_n 3, 1) := by decide +kernel
theorem dX6_play_67 : decode cX6_play 67 = .ok (.iconst (-1), 1) := by decide +kernel
theorem dX6_play_68 : decode cX6_play 68 = .ok (.istore 4, 2) := by decide +kernel
theorem dX6_play_70 : decode cX6_play 70 = .ok (.iconst 0, 1) := by decide +kernel
theorem dX6_play_71 : decode cX6_play 71 = .ok (.istore 5, 2) := by decide +kernel
theorem dX6_play_73 : decode cX6_play 73 = .ok (.iload 5, 2) := by decide +kernel
theorem dX6_play_75 : decode cX6_play 75 = .ok (.aload_n 0, 1) := by decide +kernel
theorem dX6_play_76 : decode cX6_play 76 = .ok (.getfield 10, 3) := by decide +kernel
theorem dX6_play_79 : decode cX6_play 79 = .ok (.getfield 100, 3) := by decide +kernel
theorem dX6_play_82 : decode cX6_play 82 = .ok (.if_icmp .gt 49, 3) := by decide +kernel
theorem dX6_play_85 : decode cX6_play 85 = .ok (.aload_n 0, 1) := by decide +kernel
theorem dX6_play_86 : decode cX6_play 86 = .ok (.iconst 0, 1) := by decide +kernel
theorem dX6_play_87 : decode cX6_play 87 = .ok (.iload_n 1, 1) := by decide +kernel
theorem dX6_play_88 : decode cX6_play 88 = .ok (.aload_n 0, 1) := by decide +kernel
theorem dX6_play_89 : decode cX6_play 89 = .ok (.getfield 10, 3) := by decide +kernel
theorem dX6_play_92 : decode cX6_play 92 = .ok (.iload 5, 2) := by decide +kernel
theorem dX6_play_94 : decode cX6_play 94 = .ok (.invokevirtual 204, 3) := by decide +kernel
theorem dX6_play_97 : decode cX6_play 97 = .ok (.iload 4, 2) := by decide +kernel
theorem dX6_play_99 : decode cX6_play 99 = .ok (.invokevirtual 236, 3) := by decide +kernel
theorem dX6_play_102 : decode cX6_play 102 = .ok (.istore 6, 2) := by decide +kernel
theorem dX6_play_104 : decode cX6_play 104 = .ok (.iload 6, 2) := by decide +kernel
theorem dX6_play_106 : decode cX6_play 106 = .ok (.iload 4, 2) := by decide +kernel
theorem dX6_play_108 : decode cX6_play 108 = .ok (.if_icmp .le 17, 3) := by decide +kernel
theorem dX6_play_111 : decode cX6_play 111 = .ok (.iload 6, 2) := by decide +kernel
theorem dX6_play_113 : decode cX6_play 113 = .ok (.istore 4, 2) := by decide +kernel
theorem dX6_play_115 : decode cX6_play 115 = .ok (.aload_n 0, 1) := by decide +kernel
theorem dX6_play_116 : decode cX6_play 116 = .ok (.getfield 10, 3) := by decide +kernel
theorem dX6_play_119 : decode cX6_play 119 = .ok (.iload 5, 2) := by decide +kernel
theorem dX6_play_121 : decode cX6_play 121 = .ok (.invokevirtual 204, 3) := by decide +kernel
theorem dX6_play_124 : decode cX6_play 124 = .ok (.istore_n 3, 1) := by decide +kernel
theorem dX6_play_125 : decode cX6_play 125 = .ok (.iinc 5 1, 3) := by decide +kernel
theorem dX6_play_128 : decode cX6_play 128 = .ok (.goto (-55), 3) := by decide +kernel
theorem dX6_play_131 : decode cX6_play 131 = .ok (.iload_n 2, 1) := by decide +kernel
theorem dX6_play_132 : decode cX6_play 132 = .ok (.ifCond .ne 8, 3) := by decide +kernel
theorem dX6_play_135 : decode cX6_play 135 = .ok (.iload 4, 2) := by decide +kernel
theorem dX6_play_137 : decode cX6_play 137 = .ok (.goto 4, 3) := by decide +kernel
theorem dX6_play_140 : decode cX6_play 140 = .ok (.iload_n 3, 1) := by decide +kernel
theorem dX6_play_141 : decode cX6_play 141 = .ok (.ireturn, 1) := by decide +kernel
theorem dX6_mostFrom_0 : decode cX6_mostFrom 0 = .ok (.iconst 0, 1) := by decide +kernel
theorem dX6_mostFrom_1 : decode cX6_mostFrom 1 = .ok (.istore_n 3, 1) := by decide +kernel
theorem dX6_mostFrom_2 : decode cX6_mostFrom 2 = .ok (.iload_n 1, 1) := by decide +kernel
theorem dX6_mostFrom_3 : decode cX6_mostFrom 3 = .ok (.iload_n 2, 1) := by decide +kernel
theorem dX6_mostFrom_4 : decode cX6_mostFrom 4 = .ok (.if_icmp .ge 45, 3) := by decide +kernel
theorem dX6_mostFrom_7 : decode cX6_mostFrom 7 = .ok (.iconst 0, 1) := by decide +kernel
theorem dX6_mostFrom_8 : decode cX6_mostFrom 8 = .ok (.istore 4, 2) := by decide +kernel
theorem dX6_mostFrom_10 : decode cX6_mostFrom 10 = .ok (.iload 4, 2) := by decide +kernel
theorem dX6_mostFrom_12 : decode cX6_mostFrom 12 = .ok (.aload_n 0, 1) := by decide +kernel
theorem dX6_mostFrom_13 : decode cX6_mostFrom 13 = .ok (.getfield 10, 3) := by decide +kernel
theorem dX6_mostFrom_16 : decode cX6_mostFrom 16 = .ok (.getfield 100, 3) := by decide +kernel
theorem dX6_mostFrom_19 : decode cX6_mostFrom 19 = .ok (.if_icmp .gt 30, 3) := by decide +kernel
theorem dX6_mostFrom_22 : decode cX6_mostFrom 22 = .ok (.iload_n 3, 1) := by decide +kernel
theorem dX6_mostFrom_23 : decode cX6_mostFrom 23 = .ok (.aload_n 0, 1) := by decide +kernel
theorem dX6_mostFrom_24 : decode cX6_mostFrom 24 = .ok (.iload_n 1, 1) := by decide +kernel
theorem dX6_mostFrom_25 : decode cX6_mostFrom 25 = .ok (.iload_n 2, 1) := by decide +kernel
theorem dX6_mostFrom_26 : decode cX6_mostFrom 26 = .ok (.aload_n 0, 1) := by decide +kernel
theorem dX6_mostFrom_27 : decode cX6_mostFrom 27 = .ok (.getfield 10, 3) := by decide +kernel
theorem dX6_mostFrom_30 : decode cX6_mostFrom 30 = .ok (.iload 4, 2) := by decide +kernel
theorem dX6_mostFrom_32 : decode cX6_mostFrom 32 = .ok (.invokevirtual 204, 3) := by decide +kernel
theorem dX6_mostFrom_35 : decode cX6_mostFrom 35 = .ok (.iload_n 3, 1) := by decide +kernel
theorem dX6_mostFrom_36 : decode cX6_mostFrom 36 = .ok (.invokevirtual 236, 3) := by decide +kernel
theorem dX6_mostFrom_39 : decode cX6_mostFrom 39 = .ok (.invokestatic 222, 3) := by decide +kernel
theorem dX6_mostFrom_42 : decode cX6_mostFrom 42 = .ok (.istore_n 3, 1) := by decide +kernel
theorem dX6_mostFrom_43 : decode cX6_mostFrom 43 = .ok (.iinc 4 1, 3) := by decide +kernel
theorem dX6_mostFrom_46 : decode cX6_mostFrom 46 = .ok (.goto (-36), 3) := by decide +kernel
theorem dX6_mostFrom_49 : decode cX6_mostFrom 49 = .ok (.iload_n 3, 1) := by decide +kernel
theorem dX6_mostFrom_50 : decode cX6_mostFrom 50 = .ok (.ireturn, 1) := by decide +kernel
theorem dX6_leastFor_0 : decode cX6_leastFor 0 = .ok (.iload_n 1, 1) := by decide +kernel
theorem dX6_leastFor_1 : decode cX6_leastFor 1 = .ok (.ifCond .lt 8, 3) := by decide +kernel
theorem dX6_leastFor_4 : decode cX6_leastFor 4 = .ok (.iload_n 1, 1) := by decide +kernel
theorem dX6_leastFor_5 : decode cX6_leastFor 5 = .ok (.iconst 4, 1) := by decide +kernel
theorem dX6_leastFor_6 : decode cX6_leastFor 6 = .ok (.if_icmp .lt 5, 3) := by decide +kernel
theorem dX6_leastFor_9 : decode cX6_leastFor 9 = .ok (.iconst 0, 1) := by decide +kernel
theorem dX6_leastFor_10 : decode cX6_leastFor 10 = .ok (.ireturn, 1) := by decide +kernel
theorem dX6_leastFor_11 : decode cX6_leastFor 11 = .ok (.aload_n 0, 1) := by decide +kernel
theorem dX6_leastFor_12 : decode cX6_leastFor 12 = .ok (.getfield 19, 3) := by decide +kernel
theorem dX6_leastFor_15 : decode cX6_leastFor 15 = .ok (.iload_n 1, 1) := by decide +kernel
theorem dX6_leastFor_16 : decode cX6_leastFor 16 = .ok (.iconst 1, 1) := by decide +kernel
theorem dX6_leastFor_17 : decode cX6_leastFor 17 = .ok (.iadd, 1) := by decide +kernel
theorem dX6_leastFor_18 : decode cX6_leastFor 18 = .ok (.aaload, 1) := by decide +kernel
theorem dX6_leastFor_19 : decode cX6_leastFor 19 = .ok (.astore 5, 2) := by decide +kernel
theorem dX6_leastFor_21 : decode cX6_leastFor 21 = .ok (.aload 5, 2) := by decide +kernel
theorem dX6_leastFor_23 : decode cX6_leastFor 23 = .ok (.aload_n 0, 1) := by decide +kernel
theorem dX6_leastFor_24 : decode cX6_leastFor 24 = .ok (.getfield 19, 3) := by decide +kernel
theorem dX6_leastFor_27 : decode cX6_leastFor 27 = .ok (.iload_n 1, 1) := by decide +kernel
theorem dX6_leastFor_28 : decode cX6_leastFor 28 = .ok (.aaload, 1) := by decide +kernel
theorem dX6_leastFor_29 : decode cX6_leastFor 29 = .ok (.invokevirtual 240, 3) := by decide +kernel
theorem dX6_leastFor_32 : decode cX6_leastFor 32 = .ok (.aload 5, 2) := by decide +kernel
theorem dX6_leastFor_34 : decode cX6_leastFor 34 = .ok (.bipush 9, 2) := by decide +kernel
theorem dX6_leastFor_36 : decode cX6_leastFor 36 = .ok (.iload_n 3, 1) := by decide +kernel
theorem dX6_leastFor_37 : decode cX6_leastFor 37 = .ok (.invokevirtual 214, 3) := by decide +kernel
theorem dX6_leastFor_40 : decode cX6_leastFor 40 = .ok (.invokestatic 217, 3) := by decide +kernel
theorem dX6_leastFor_43 : decode cX6_leastFor 43 = .ok (.aload_n 0, 1) := by decide +kernel
theorem dX6_leastFor_44 : decode cX6_leastFor 44 = .ok (.iload_n 1, 1) := by decide +kernel
theorem dX6_leastFor_45 : decode cX6_leastFor 45 = .ok (.iconst 1, 1) := by decide +kernel
theorem dX6_leastFor_46 : decode cX6_leastFor 46 = .ok (.iadd, 1) := by decide +kernel
theorem dX6_leastFor_47 : decode cX6_leastFor 47 = .ok (.iload_n 2, 1) := by decide +kernel
theorem dX6_leastFor_48 : decode cX6_leastFor 48 = .ok (.invokevirtual 243, 3) := by decide +kernel
theorem dX6_leastFor_51 : decode cX6_leastFor 51 = .ok (.iadd, 1) := by decide +kernel
theorem dX6_leastFor_52 : decode cX6_leastFor 52 = .ok (.istore 6, 2) := by decide +kernel
theorem dX6_leastFor_54 : decode cX6_leastFor 54 = .ok (.iload 6, 2) := by decide +kernel
theorem dX6_leastFor_56 : decode cX6_leastFor 56 = .ok (.iload 4, 2) := by decide +kernel
theorem dX6_leastFor_58 : decode cX6_leastFor 58 = .ok (.if_icmp .gt 6, 3) := by decide +kernel
theorem dX6_leastFor_61 : decode cX6_leastFor 61 = .ok (.iload 6, 2) := by decide +kernel
theorem dX6_leastFor_63 : decode cX6_leastFor 63 = .ok (.ireturn, 1) := by decide +kernel
theorem dX6_leastFor_64 : decode cX6_leastFor 64 = .ok (.aload 5, 2) := by decide +kernel
theorem dX6_leastFor_66 : decode cX6_leastFor 66 = .ok (.aload_n 0, 1) := by decide +kernel
theorem dX6_leastFor_67 : decode cX6_leastFor 67 = .ok (.getfield 19, 3) := by decide +kernel
theorem dX6_leastFor_70 : decode cX6_leastFor 70 = .ok (.iload_n 1, 1) := by decide +kernel
theorem dX6_leastFor_71 : decode cX6_leastFor 71 = .ok (.aaload, 1) := by decide +kernel
theorem dX6_leastFor_72 : decode cX6_leastFor 72 = .ok (.invokevirtual 240, 3) := by decide +kernel
theorem dX6_leastFor_75 : decode cX6_leastFor 75 = .ok (.aload 5, 2) := by decide +kernel
theorem dX6_leastFor_77 : decode cX6_leastFor 77 = .ok (.iconst 0, 1) := by decide +kernel
theorem dX6_leastFor_78 : decode cX6_leastFor 78 = .ok (.iload_n 3, 1) := by decide +kernel
theorem dX6_leastFor_79 : decode cX6_leastFor 79 = .ok (.invokevirtual 214, 3) := by decide +kernel
theorem dX6_leastFor_82 : decode cX6_leastFor 82 = .ok (.invokestatic 217, 3) := by decide +kernel
theorem dX6_leastFor_85 : decode cX6_leastFor 85 = .ok (.aload_n 0, 1) := by decide +kernel
theorem dX6_leastFor_86 : decode cX6_leastFor 86 = .ok (.iload_n 1, 1) := by decide +kernel
theorem dX6_leastFor_87 : decode cX6_leastFor 87 = .ok (.iconst 1, 1) := by decide +kernel
theorem dX6_leastFor_88 : decode cX6_leastFor 88 = .ok (.iadd, 1) := by decide +kernel
theorem dX6_leastFor_89 : decode cX6_leastFor 89 = .ok (.iload_n 2, 1) := by decide +kernel
theorem dX6_leastFor_90 : decode cX6_leastFor 90 = .ok (.invokevirtual 243, 3) := by decide +kernel
theorem dX6_leastFor_93 : decode cX6_leastFor 93 = .ok (.iadd, 1) := by decide +kernel
theorem dX6_leastFor_94 : decode cX6_leastFor 94 = .ok (.istore 7, 2) := by decide +kernel
theorem dX6_leastFor_96 : decode cX6_leastFor 96 = .ok (.iload 6, 2) := by decide +kernel
theorem dX6_leastFor_98 : decode cX6_leastFor 98 = .ok (.iload 7, 2) := by decide +kernel
theorem dX6_leastFor_100 : decode cX6_leastFor 100 = .ok (.invokestatic 246, 3) := by decide +kernel
theorem dX6_leastFor_103 : decode cX6_leastFor 103 = .ok (.ireturn, 1) := by decide +kernel
theorem dX6_luck_0 : decode cX6_luck 0 = .ok (.aload_n 0, 1) := by decide +kernel
theorem dX6_luck_1 : decode cX6_luck 1 = .ok (.getfield 10, 3) := by decide +kernel
theorem dX6_luck_4 : decode cX6_luck 4 = .ok (.iload_n 2, 1) := by decide +kernel
theorem dX6_luck_5 : decode cX6_luck 5 = .ok (.invokevirtual 126, 3) := by decide +kernel
theorem dX6_luck_8 : decode cX6_luck 8 = .ok (.ifCond .eq 13, 3) := by decide +kernel
theorem dX6_luck_11 : decode cX6_luck 11 = .ok (.iload_n 1, 1) := by decide +kernel
theorem dX6_luck_12 : decode cX6_luck 12 = .ok (.iload_n 3, 1) := by decide +kernel
theorem dX6_luck_13 : decode cX6_luck 13 = .ok (.iload 4, 2) := by decide +kernel
theorem dX6_luck_15 : decode cX6_luck 15 = .ok (.invokestatic 249, 3) := by decide +kernel
theorem dX6_luck_18 : decode cX6_luck 18 = .ok (.ifCond .ne 7, 3) := by decide +kernel
theorem dX6_luck_21 : decode cX6_luck 21 = .ok (.ldc2_w 252, 3) := by decide +kernel
theorem dX6_luck_24 : decode cX6_luck 24 = .ok (.lreturn, 1) := by decide +kernel
theorem dX6_luck_25 : decode cX6_luck 25 = .ok (.lconst 0, 1) := by decide +kernel
theorem dX6_luck_26 : decode cX6_luck 26 = .ok (.lstore 5, 2) := by decide +kernel
theorem dX6_luck_28 : decode cX6_luck 28 = .ok (.iconst 0, 1) := by decide +kernel
theorem dX6_luck_29 : decode cX6_luck 29 = .ok (.istore 7, 2) := by decide +kernel
theorem dX6_luck_31 : decode cX6_luck 31 = .ok (.iload 7, 2) := by decide +kernel
theorem dX6_luck_33 : decode cX6_luck 33 = .ok (.iconst 1, 1) := by decide +kernel
theorem dX6_luck_34 : decode cX6_luck 34 = .ok (.iload_n 3, 1) := by decide +kernel
theorem dX6_luck_35 : decode cX6_luck 35 = .ok (.ishl, 1) := by decide +kernel
theorem dX6_luck_36 : decode cX6_luck 36 = .ok (.if_icmp .ge 34, 3) := by decide +kernel
theorem dX6_luck_39 : decode cX6_luck 39 = .ok (.aload_n 0, 1) := by decide +kernel
theorem dX6_luck_40 : decode cX6_luck 40 = .ok (.iload 7, 2) := by decide +kernel
theorem dX6_luck_42 : decode cX6_luck 42 = .ok (.iload_n 3, 1) := by decide +kernel
theorem dX6_luck_43 : decode cX6_luck 43 = .ok (.iconst 1, 1) := by decide +kernel
theorem dX6_luck_44 : decode cX6_luck 44 = .ok (.iload_n 2, 1) := by decide +kernel
theorem dX6_luck_45 : decode cX6_luck 45 = .ok (.ishl, 1) := by decide +kernel
theorem dX6_luck_46 : decode cX6_luck 46 = .ok (.invokevirtual 254, 3) := by decide +kernel
theorem dX6_luck_49 : decode cX6_luck 49 = .ok (.ifCond .le 15, 3) := by decide +kernel
theorem dX6_luck_52 : decode cX6_luck 52 = .ok (.lload 5, 2) := by decide +kernel
theorem dX6_luck_54 : decode cX6_luck 54 = .ok (.iload 7, 2) := by decide +kernel
theorem dX6_luck_56 : decode cX6_luck 56 = .ok (.iload_n 3, 1) := by decide +kernel
theorem dX6_luck_57 : decode cX6_luck 57 = .ok (.iload_n 1, 1) := by decide +kernel
theorem dX6_luck_58 : decode cX6_luck 58 = .ok (.invokestatic 257, 3) := by decide +kernel
theorem dX6_luck_61 : decode cX6_luck 61 = .ok (.ladd, 1) := by decide +kernel
theorem dX6_luck_62 : decode cX6_luck 62 = .ok (.lstore 5, 2) := by decide +kernel
theorem dX6_luck_64 : decode cX6_luck 64 = .ok (.iinc 7 1, 3) := by decide +kernel
theorem dX6_luck_67 : decode cX6_luck 67 = .ok (.goto (-36), 3) := by decide +kernel
theorem dX6_luck_70 : decode cX6_luck 70 = .ok (.lload 5, 2) := by decide +kernel
theorem dX6_luck_72 : decode cX6_luck 72 = .ok (.bipush 10, 2) := by decide +kernel
theorem dX6_luck_74 : decode cX6_luck 74 = .ok (.iload_n 3, 1) := by decide +kernel
theorem dX6_luck_75 : decode cX6_luck 75 = .ok (.invokestatic 261, 3) := by decide +kernel
theorem dX6_luck_78 : decode cX6_luck 78 = .ok (.iload 4, 2) := by decide +kernel
theorem dX6_luck_80 : decode cX6_luck 80 = .ok (.invokestatic 265, 3) := by decide +kernel
theorem dX6_luck_83 : decode cX6_luck 83 = .ok (.lreturn, 1) := by decide +kernel
theorem dX6_mean_0 : decode cX6_mean 0 = .ok (.iload_n 1, 1) := by decide +kernel
theorem dX6_mean_1 : decode cX6_mean 1 = .ok (.iload_n 2, 1) := by decide +kernel
theorem dX6_mean_2 : decode cX6_mean 2 = .ok (.iload_n 3, 1) := by decide +kernel
theorem dX6_mean_3 : decode cX6_mean 3 = .ok (.invokestatic 249, 3) := by decide +kernel
theorem dX6_mean_6 : decode cX6_mean 6 = .ok (.ifCond .ne 7, 3) := by decide +kernel
theorem dX6_mean_9 : decode cX6_mean 9 = .ok (.ldc2_w 252, 3) := by decide +kernel
theorem dX6_mean_12 : decode cX6_mean 12 = .ok (.lreturn, 1) := by decide +kernel
theorem dX6_mean_13 : decode cX6_mean 13 = .ok (.lconst 0, 1) := by decide +kernel
theorem dX6_mean_14 : decode cX6_mean 14 = .ok (.lstore 4, 2) := by decide +kernel
theorem dX6_mean_16 : decode cX6_mean 16 = .ok (.iconst 0, 1) := by decide +kernel
theorem dX6_mean_17 : decode cX6_mean 17 = .ok (.istore 6, 2) := by decide +kernel
theorem dX6_mean_19 : decode cX6_mean 19 = .ok (.iload 6, 2) := by decide +kernel
theorem dX6_mean_21 : decode cX6_mean 21 = .ok (.iconst 1, 1) := by decide +kernel
theorem dX6_mean_22 : decode cX6_mean 22 = .ok (.iload_n 2, 1) := by decide +kernel
theorem dX6_mean_23 : decode cX6_mean 23 = .ok (.ishl, 1) := by decide +kernel
theorem dX6_mean_24 : decode cX6_mean 24 = .ok (.if_icmp .ge 32, 3) := by decide +kernel
theorem dX6_mean_27 : decode cX6_mean 27 = .ok (.lload 4, 2) := by decide +kernel
theorem dX6_mean_29 : decode cX6_mean 29 = .ok (.aload_n 0, 1) := by decide +kernel
theorem dX6_mean_30 : decode cX6_mean 30 = .ok (.iload 6, 2) := by decide +kernel
theorem dX6_mean_32 : decode cX6_mean 32 = .ok (.iload_n 2, 1) := by decide +kernel
theorem dX6_mean_33 : decode cX6_mean 33 = .ok (.bipush 15, 2) := by decide +kernel
theorem dX6_mean_35 : decode cX6_mean 35 = .ok (.invokevirtual 254, 3) := by decide +kernel
theorem dX6_mean_38 : decode cX6_mean 38 = .ok (.i2l, 1) := by decide +kernel
theorem dX6_mean_39 : decode cX6_mean 39 = .ok (.iload 6, 2) := by decide +kernel
theorem dX6_mean_41 : decode cX6_mean 41 = .ok (.iload_n 2, 1) := by decide +kernel
theorem dX6_mean_42 : decode cX6_mean 42 = .ok (.iload_n 1, 1) := by decide +kernel
theorem dX6_mean_43 : decode cX6_mean 43 = .ok (.invokestatic 257, 3) := by decide +kernel
theorem dX6_mean_46 : decode cX6_mean 46 = .ok (.lmul, 1) := by decide +kernel
theorem dX6_mean_47 : decode cX6_mean 47 = .ok (.ladd, 1) := by decide +kernel
theorem dX6_mean_48 : decode cX6_mean 48 = .ok (.lstore 4, 2) := by decide +kernel
theorem dX6_mean_50 : decode cX6_mean 50 = .ok (.iinc 6 1, 3) := by decide +kernel
theorem dX6_mean_53 : decode cX6_mean 53 = .ok (.goto (-34), 3) := by decide +kernel
theorem dX6_mean_56 : decode cX6_mean 56 = .ok (.lload 4, 2) := by decide +kernel
theorem dX6_mean_58 : decode cX6_mean 58 = .ok (.bipush 10, 2) := by decide +kernel
theorem dX6_mean_60 : decode cX6_mean 60 = .ok (.iload_n 2, 1) := by decide +kernel
theorem dX6_mean_61 : decode cX6_mean 61 = .ok (.invokestatic 261, 3) := by decide +kernel
theorem dX6_mean_64 : decode cX6_mean 64 = .ok (.iload_n 3, 1) := by decide +kernel
theorem dX6_mean_65 : decode cX6_mean 65 = .ok (.invokestatic 265, 3) := by decide +kernel
theorem dX6_mean_68 : decode cX6_mean 68 = .ok (.lreturn, 1) := by decide +kernel
theorem dX6_areOdds_0 : decode cX6_areOdds 0 = .ok (.iload_n 0, 1) := by decide +kernel
theorem dX6_areOdds_1 : decode cX6_areOdds 1 = .ok (.iconst 0, 1) := by decide +kernel
theorem dX6_areOdds_2 : decode cX6_areOdds 2 = .ok (.bipush 10, 2) := by decide +kernel
theorem dX6_areOdds_4 : decode cX6_areOdds 4 = .ok (.invokestatic 66, 3) := by decide +kernel
theorem dX6_areOdds_7 : decode cX6_areOdds 7 = .ok (.ifCond .eq 26, 3) := by decide +kernel
theorem dX6_areOdds_10 : decode cX6_areOdds 10 = .ok (.iload_n 1, 1) := by decide +kernel
theorem dX6_areOdds_11 : decode cX6_areOdds 11 = .ok (.iconst 0, 1) := by decide +kernel
theorem dX6_areOdds_12 : decode cX6_areOdds 12 = .ok (.bipush 8, 2) := by decide +kernel
theorem dX6_areOdds_14 : decode cX6_areOdds 14 = .ok (.invokestatic 66, 3) := by decide +kernel
theorem dX6_areOdds_17 : decode cX6_areOdds 17 = .ok (.ifCond .eq 16, 3) := by decide +kernel
theorem dX6_areOdds_20 : decode cX6_areOdds 20 = .ok (.iload_n 2, 1) := by decide +kernel
theorem dX6_areOdds_21 : decode cX6_areOdds 21 = .ok (.iconst 0, 1) := by decide +kernel
theorem dX6_areOdds_22 : decode cX6_areOdds 22 = .ok (.iconst 1, 1) := by decide +kernel
theorem dX6_areOdds_23 : decode cX6_areOdds 23 = .ok (.invokestatic 66, 3) := by decide +kernel
theorem dX6_areOdds_26 : decode cX6_areOdds 26 = .ok (.ifCond .eq 7, 3) := by decide +kernel
theorem dX6_areOdds_29 : decode cX6_areOdds 29 = .ok (.iconst 1, 1) := by decide +kernel
theorem dX6_areOdds_30 : decode cX6_areOdds 30 = .ok (.goto 4, 3) := by decide +kernel
theorem dX6_areOdds_33 : decode cX6_areOdds 33 = .ok (.iconst 0, 1) := by decide +kernel
theorem dX6_areOdds_34 : decode cX6_areOdds 34 = .ok (.ireturn, 1) := by decide +kernel
theorem dX6_upsByOdds_0 : decode cX6_upsByOdds 0 = .ok (.aload_n 0, 1) := by decide +kernel
theorem dX6_upsByOdds_1 : decode cX6_upsByOdds 1 = .ok (.invokevirtual 177, 3) := by decide +kernel
theorem dX6_upsByOdds_4 : decode cX6_upsByOdds 4 = .ok (.astore 4, 2) := by decide +kernel
theorem dX6_upsByOdds_6 : decode cX6_upsByOdds 6 = .ok (.iconst 0, 1) := by decide +kernel
theorem dX6_upsByOdds_7 : decode cX6_upsByOdds 7 = .ok (.istore 5, 2) := by decide +kernel
theorem dX6_upsByOdds_9 : decode cX6_upsByOdds 9 = .ok (.iconst 0, 1) := by decide +kernel
theorem dX6_upsByOdds_10 : decode cX6_upsByOdds 10 = .ok (.istore 6, 2) := by decide +kernel
theorem dX6_upsByOdds_12 : decode cX6_upsByOdds 12 = .ok (.iload 6, 2) := by decide +kernel
theorem dX6_upsByOdds_14 : decode cX6_upsByOdds 14 = .ok (.iload_n 2, 1) := by decide +kernel
theorem dX6_upsByOdds_15 : decode cX6_upsByOdds 15 = .ok (.if_icmp .ge 52, 3) := by decide +kernel
theorem dX6_upsByOdds_18 : decode cX6_upsByOdds 18 = .ok (.iload_n 1, 1) := by decide +kernel
theorem dX6_upsByOdds_19 : decode cX6_upsByOdds 19 = .ok (.iload 6, 2) := by decide +kernel
theorem dX6_upsByOdds_21 : decode cX6_upsByOdds 21 = .ok (.invokestatic 197, 3) := by decide +kernel
theorem dX6_upsByOdds_24 : decode cX6_upsByOdds 24 = .ok (.iconst 1, 1) := by decide +kernel
theorem dX6_upsByOdds_25 : decode cX6_upsByOdds 25 = .ok (.if_icmp .ne 7, 3) := by decide +kernel
theorem dX6_upsByOdds_28 : decode cX6_upsByOdds 28 = .ok (.iconst 0, 1) := by decide +kernel
theorem dX6_upsByOdds_29 : decode cX6_upsByOdds 29 = .ok (.goto 8, 3) := by decide +kernel
theorem dX6_upsByOdds_32 : decode cX6_upsByOdds 32 = .ok (.aload 4, 2) := by decide +kernel
theorem dX6_upsByOdds_34 : decode cX6_upsByOdds 34 = .ok (.invokevirtual 119, 3) := by decide +kernel
theorem dX6_upsByOdds_37 : decode cX6_upsByOdds 37 = .ok (.istore 7, 2) := by decide +kernel
theorem dX6_upsByOdds_39 : decode cX6_upsByOdds 39 = .ok (.iload 5, 2) := by decide +kernel
theorem dX6_upsByOdds_41 : decode cX6_upsByOdds 41 = .ok (.aload 4, 2) := by decide +kernel
theorem dX6_upsByOdds_43 : decode cX6_upsByOdds 43 = .ok (.iload 7, 2) := by decide +kernel
theorem dX6_upsByOdds_45 : decode cX6_upsByOdds 45 = .ok (.aload 4, 2) := by decide +kernel
theorem dX6_upsByOdds_47 : decode cX6_upsByOdds 47 = .ok (.invokevirtual 123, 3) := by decide +kernel
theorem dX6_upsByOdds_50 : decode cX6_upsByOdds 50 = .ok (.invokevirtual 214, 3) := by decide +kernel
theorem dX6_upsByOdds_53 : decode cX6_upsByOdds 53 = .ok (.iload_n 3, 1) := by decide +kernel
theorem dX6_upsByOdds_54 : decode cX6_upsByOdds 54 = .ok (.iand, 1) := by decide +kernel
theorem dX6_upsByOdds_55 : decode cX6_upsByOdds 55 = .ok (.invokestatic 217, 3) := by decide +kernel
theorem dX6_upsByOdds_58 : decode cX6_upsByOdds 58 = .ok (.iadd, 1) := by decide +kernel
theorem dX6_upsByOdds_59 : decode cX6_upsByOdds 59 = .ok (.istore 5, 2) := by decide +kernel
theorem dX6_upsByOdds_61 : decode cX6_upsByOdds 61 = .ok (.iinc 6 1, 3) := by decide +kernel
theorem dX6_upsByOdds_64 : decode cX6_upsByOdds 64 = .ok (.goto (-52), 3) := by decide +kernel
theorem dX6_upsByOdds_67 : decode cX6_upsByOdds 67 = .ok (.iload 5, 2) := by decide +kernel
theorem dX6_upsByOdds_69 : decode cX6_upsByOdds 69 = .ok (.ireturn, 1) := by decide +kernel
theorem dX6_weight_0 : decode cX6_weight 0 = .ok (.iload_n 0, 1) := by decide +kernel
theorem dX6_weight_1 : decode cX6_weight 1 = .ok (.invokestatic 217, 3) := by decide +kernel
theorem dX6_weight_4 : decode cX6_weight 4 = .ok (.istore_n 3, 1) := by decide +kernel
theorem dX6_weight_5 : decode cX6_weight 5 = .ok (.iload_n 2, 1) := by decide +kernel
theorem dX6_weight_6 : decode cX6_weight 6 = .ok (.iload_n 3, 1) := by decide +kernel
theorem dX6_weight_7 : decode cX6_weight 7 = .ok (.invokestatic 261, 3) := by decide +kernel
theorem dX6_weight_10 : decode cX6_weight 10 = .ok (.bipush 10, 2) := by decide +kernel
theorem dX6_weight_12 : decode cX6_weight 12 = .ok (.iload_n 2, 1) := by decide +kernel
theorem dX6_weight_13 : decode cX6_weight 13 = .ok (.isub, 1) := by decide +kernel
theorem dX6_weight_14 : decode cX6_weight 14 = .ok (.iload_n 1, 1) := by decide +kernel
theorem dX6_weight_15 : decode cX6_weight 15 = .ok (.iload_n 3, 1) := by decide +kernel
theorem dX6_weight_16 : decode cX6_weight 16 = .ok (.isub, 1) := by decide +kernel
theorem dX6_weight_17 : decode cX6_weight 17 = .ok (.invokestatic 261, 3) := by decide +kernel
theorem dX6_weight_20 : decode cX6_weight 20 = .ok (.lmul, 1) := by decide +kernel
theorem dX6_weight_21 : decode cX6_weight 21 = .ok (.lreturn, 1) := by decide +kernel
theorem dX6_power_0 : decode cX6_power 0 = .ok (.lconst 1, 1) := by decide +kernel
theorem dX6_power_1 : decode cX6_power 1 = .ok (.lstore_n 2, 1) := by decide +kernel
theorem dX6_power_2 : decode cX6_power 2 = .ok (.iconst 0, 1) := by decide +kernel
theorem dX6_power_3 : decode cX6_power 3 = .ok (.istore 4, 2) := by decide +kernel
theorem dX6_power_5 : decode cX6_power 5 = .ok (.iload 4, 2) := by decide +kernel
theorem dX6_power_7 : decode cX6_power 7 = .ok (.iload_n 1, 1) := by decide +kernel
theorem dX6_power_8 : decode cX6_power 8 = .ok (.if_icmp .ge 14, 3) := by decide +kernel
theorem dX6_power_11 : decode cX6_power 11 = .ok (.lload_n 2, 1) := by decide +kernel
theorem dX6_power_12 : decode cX6_power 12 = .ok (.iload_n 0, 1) := by decide +kernel
theorem dX6_power_13 : decode cX6_power 13 = .ok (.i2l, 1) := by decide +kernel
theorem dX6_power_14 : decode cX6_power 14 = .ok (.lmul, 1) := by decide +kernel
theorem dX6_power_15 : decode cX6_power 15 = .ok (.lstore_n 2, 1) := by decide +kernel
theorem dX6_power_16 : decode cX6_power 16 = .ok (.iinc 4 1, 3) := by decide +kernel
theorem dX6_power_19 : decode cX6_power 19 = .ok (.goto (-14), 3) := by decide +kernel
theorem dX6_power_22 : decode cX6_power 22 = .ok (.lload_n 2, 1) := by decide +kernel
theorem dX6_power_23 : decode cX6_power 23 = .ok (.lreturn, 1) := by decide +kernel
theorem dX6_lowest_0 : decode cX6_lowest 0 = .ok (.lload_n 2, 1) := by decide +kernel
theorem dX6_lowest_1 : decode cX6_lowest 1 = .ok (.lstore 5, 2) := by decide +kernel
theorem dX6_lowest_3 : decode cX6_lowest 3 = .ok (.lload_n 0, 1) := by decide +kernel
theorem dX6_lowest_4 : decode cX6_lowest 4 = .ok (.lstore 7, 2) := by decide +kernel
theorem dX6_lowest_6 : decode cX6_lowest 6 = .ok (.iconst 0, 1) := by decide +kernel
theorem dX6_lowest_7 : decode cX6_lowest 7 = .ok (.istore 9, 2) := by decide +kernel
theorem dX6_lowest_9 : decode cX6_lowest 9 = .ok (.iload 9, 2) := by decide +kernel
theorem dX6_lowest_11 : decode cX6_lowest 11 = .ok (.bipush 100, 2) := by decide +kernel
theorem dX6_lowest_13 : decode cX6_lowest 13 = .ok (.if_icmp .ge 31, 3) := by decide +kernel
theorem dX6_lowest_16 : decode cX6_lowest 16 = .ok (.lload 7, 2) := by decide +kernel
theorem dX6_lowest_18 : decode cX6_lowest 18 = .ok (.lconst 0, 1) := by decide +kernel
theorem dX6_lowest_19 : decode cX6_lowest 19 = .ok (.lcmp, 1) := by decide +kernel
theorem dX6_lowest_20 : decode cX6_lowest 20 = .ok (.ifCond .eq 24, 3) := by decide +kernel
theorem dX6_lowest_23 : decode cX6_lowest 23 = .ok (.lload 5, 2) := by decide +kernel
theorem dX6_lowest_25 : decode cX6_lowest 25 = .ok (.lload 7, 2) := by decide +kernel
theorem dX6_lowest_27 : decode cX6_lowest 27 = .ok (.lrem, 1) := by decide +kernel
theorem dX6_lowest_28 : decode cX6_lowest 28 = .ok (.lstore 10, 2) := by decide +kernel
theorem dX6_lowest_30 : decode cX6_lowest 30 = .ok (.lload 7, 2) := by decide +kernel
theorem dX6_lowest_32 : decode cX6_lowest 32 = .ok (.lstore 5, 2) := by decide +kernel
theorem dX6_lowest_34 : decode cX6_lowest 34 = .ok (.lload 10, 2) := by decide +kernel
theorem dX6_lowest_36 : decode cX6_lowest 36 = .ok (.lstore 7, 2) := by decide +kernel
theorem dX6_lowest_38 : decode cX6_lowest 38 = .ok (.iinc 9 1, 3) := by decide +kernel
theorem dX6_lowest_41 : decode cX6_lowest 41 = .ok (.goto (-32), 3) := by decide +kernel
theorem dX6_lowest_44 : decode cX6_lowest 44 = .ok (.lload 5, 2) := by decide +kernel
theorem dX6_lowest_46 : decode cX6_lowest 46 = .ok (.lconst 0, 1) := by decide +kernel
theorem dX6_lowest_47 : decode cX6_lowest 47 = .ok (.lcmp, 1) := by decide +kernel
theorem dX6_lowest_48 : decode cX6_lowest 48 = .ok (.ifCond .gt 7, 3) := by decide +kernel
theorem dX6_lowest_51 : decode cX6_lowest 51 = .ok (.ldc2_w 252, 3) := by decide +kernel
theorem dX6_lowest_54 : decode cX6_lowest 54 = .ok (.lreturn, 1) := by decide +kernel
theorem dX6_lowest_55 : decode cX6_lowest 55 = .ok (.iload 4, 2) := by decide +kernel
theorem dX6_lowest_57 : decode cX6_lowest 57 = .ok (.ifCond .ne 10, 3) := by decide +kernel
theorem dX6_lowest_60 : decode cX6_lowest 60 = .ok (.lload_n 0, 1) := by decide +kernel
theorem dX6_lowest_61 : decode cX6_lowest 61 = .ok (.lload 5, 2) := by decide +kernel
theorem dX6_lowest_63 : decode cX6_lowest 63 = .ok (.ldiv, 1) := by decide +kernel
theorem dX6_lowest_64 : decode cX6_lowest 64 = .ok (.goto 7, 3) := by decide +kernel
theorem dX6_lowest_67 : decode cX6_lowest 67 = .ok (.lload_n 2, 1) := by decide +kernel
theorem dX6_lowest_68 : decode cX6_lowest 68 = .ok (.lload 5, 2) := by decide +kernel
theorem dX6_lowest_70 : decode cX6_lowest 70 = .ok (.ldiv, 1) := by decide +kernel
theorem dX6_lowest_71 : decode cX6_lowest 71 = .ok (.lreturn, 1) := by decide +kernel
theorem dX6_see_0 : decode cX6_see 0 = .ok (.iload_n 1, 1) := by decide +kernel
theorem dX6_see_1 : decode cX6_see 1 = .ok (.iconst 0, 1) := by decide +kernel
theorem dX6_see_2 : decode cX6_see 2 = .ok (.bipush 40, 2) := by decide +kernel
theorem dX6_see_4 : decode cX6_see 4 = .ok (.invokestatic 66, 3) := by decide +kernel
theorem dX6_see_7 : decode cX6_see 7 = .ok (.ifCond .eq 23, 3) := by decide +kernel
theorem dX6_see_10 : decode cX6_see 10 = .ok (.aload_n 0, 1) := by decide +kernel
theorem dX6_see_11 : decode cX6_see 11 = .ok (.getfield 10, 3) := by decide +kernel
theorem dX6_see_14 : decode cX6_see 14 = .ok (.iload_n 2, 1) := by decide +kernel
theorem dX6_see_15 : decode cX6_see 15 = .ok (.invokevirtual 126, 3) := by decide +kernel
theorem dX6_see_18 : decode cX6_see 18 = .ok (.ifCond .eq 12, 3) := by decide +kernel
theorem dX6_see_21 : decode cX6_see 21 = .ok (.iload_n 3, 1) := by decide +kernel
theorem dX6_see_22 : decode cX6_see 22 = .ok (.iconst 0, 1) := by decide +kernel
theorem dX6_see_23 : decode cX6_see 23 = .ok (.iconst 1, 1) := by decide +kernel
theorem dX6_see_24 : decode cX6_see 24 = .ok (.invokestatic 66, 3) := by decide +kernel
theorem dX6_see_27 : decode cX6_see 27 = .ok (.ifCond .ne 5, 3) := by decide +kernel
theorem dX6_see_30 : decode cX6_see 30 = .ok (.iconst (-1), 1) := by decide +kernel
theorem dX6_see_31 : decode cX6_see 31 = .ok (.ireturn, 1) := by decide +kernel
theorem dX6_see_32 : decode cX6_see 32 = .ok (.aload_n 0, 1) := by decide +kernel
theorem dX6_see_33 : decode cX6_see 33 = .ok (.getfield 47, 3) := by decide +kernel
theorem dX6_see_36 : decode cX6_see 36 = .ok (.iload_n 1, 1) := by decide +kernel
theorem dX6_see_37 : decode cX6_see 37 = .ok (.iload_n 2, 1) := by decide +kernel
theorem dX6_see_38 : decode cX6_see 38 = .ok (.iload_n 3, 1) := by decide +kernel
theorem dX6_see_39 : decode cX6_see 39 = .ok (.invokevirtual 269, 3) := by decide +kernel
theorem dX6_see_42 : decode cX6_see 42 = .ok (.ifCond .eq 13, 3) := by decide +kernel
theorem dX6_see_45 : decode cX6_see 45 = .ok (.aload_n 0, 1) := by decide +kernel
theorem dX6_see_46 : decode cX6_see 46 = .ok (.getfield 47, 3) := by decide +kernel
theorem dX6_see_49 : decode cX6_see 49 = .ok (.getfield 97, 3) := by decide +kernel
theorem dX6_see_52 : decode cX6_see 52 = .ok (.goto 5, 3) := by decide +kernel
theorem dX6_see_55 : decode cX6_see 55 = .ok (.bipush (-3), 2) := by decide +kernel
theorem dX6_see_57 : decode cX6_see 57 = .ok (.ireturn, 1) := by decide +kernel
theorem dX6_forget_0 : decode cX6_forget 0 = .ok (.iload_n 1, 1) := by decide +kernel
theorem dX6_forget_1 : decode cX6_forget 1 = .ok (.iconst 0, 1) := by decide +kernel
theorem dX6_forget_2 : decode cX6_forget 2 = .ok (.aload_n 0, 1) := by decide +kernel
theorem dX6_forget_3 : decode cX6_forget 3 = .ok (.getfield 47, 3) := by decide +kernel
theorem dX6_forget_6 : decode cX6_forget 6 = .ok (.getfield 97, 3) := by decide +kernel
theorem dX6_forget_9 : decode cX6_forget 9 = .ok (.invokestatic 66, 3) := by decide +kernel
theorem dX6_forget_12 : decode cX6_forget 12 = .ok (.ifCond .ne 5, 3) := by decide +kernel
theorem dX6_forget_15 : decode cX6_forget 15 = .ok (.iconst (-1), 1) := by decide +kernel
theorem dX6_forget_16 : decode cX6_forget 16 = .ok (.ireturn, 1) := by decide +kernel
theorem dX6_forget_17 : decode cX6_forget 17 = .ok (.aload_n 0, 1) := by decide +kernel
theorem dX6_forget_18 : decode cX6_forget 18 = .ok (.getfield 47, 3) := by decide +kernel
theorem dX6_forget_21 : decode cX6_forget 21 = .ok (.getfield 97, 3) := by decide +kernel
theorem dX6_forget_24 : decode cX6_forget 24 = .ok (.istore_n 2, 1) := by decide +kernel
theorem dX6_forget_25 : decode cX6_forget 25 = .ok (.aload_n 0, 1) := by decide +kernel
theorem dX6_forget_26 : decode cX6_forget 26 = .ok (.getfield 47, 3) := by decide +kernel
theorem dX6_forget_29 : decode cX6_forget 29 = .ok (.iload_n 1, 1) := by decide +kernel
theorem dX6_forget_30 : decode cX6_forget 30 = .ok (.putfield 97, 3) := by decide +kernel
theorem dX6_forget_33 : decode cX6_forget 33 = .ok (.iload_n 2, 1) := by decide +kernel
theorem dX6_forget_34 : decode cX6_forget 34 = .ok (.ireturn, 1) := by decide +kernel
theorem dX6_kinds_0 : decode cX6_kinds 0 = .ok (.aload_n 0, 1) := by decide +kernel
theorem dX6_kinds_1 : decode cX6_kinds 1 = .ok (.getfield 10, 3) := by decide +kernel
theorem dX6_kinds_4 : decode cX6_kinds 4 = .ok (.iload_n 1, 1) := by decide +kernel
theorem dX6_kinds_5 : decode cX6_kinds 5 = .ok (.invokevirtual 126, 3) := by decide +kernel
theorem dX6_kinds_8 : decode cX6_kinds 8 = .ok (.ifCond .ne 5, 3) := by decide +kernel
theorem dX6_kinds_11 : decode cX6_kinds 11 = .ok (.iconst (-1), 1) := by decide +kernel
theorem dX6_kinds_12 : decode cX6_kinds 12 = .ok (.ireturn, 1) := by decide +kernel
theorem dX6_kinds_13 : decode cX6_kinds 13 = .ok (.iconst 0, 1) := by decide +kernel
theorem dX6_kinds_14 : decode cX6_kinds 14 = .ok (.istore_n 2, 1) := by decide +kernel
theorem dX6_kinds_15 : decode cX6_kinds 15 = .ok (.iconst 0, 1) := by decide +kernel
theorem dX6_kinds_16 : decode cX6_kinds 16 = .ok (.istore_n 3, 1) := by decide +kernel
theorem dX6_kinds_17 : decode cX6_kinds 17 = .ok (.iload_n 3, 1) := by decide +kernel
theorem dX6_kinds_18 : decode cX6_kinds 18 = .ok (.iconst 3, 1) := by decide +kernel
theorem dX6_kinds_19 : decode cX6_kinds 19 = .ok (.if_icmp .gt 41, 3) := by decide +kernel
theorem dX6_kinds_22 : decode cX6_kinds 22 = .ok (.aload_n 0, 1) := by decide +kernel
theorem dX6_kinds_23 : decode cX6_kinds 23 = .ok (.invokevirtual 177, 3) := by decide +kernel
theorem dX6_kinds_26 : decode cX6_kinds 26 = .ok (.astore 4, 2) := by decide +kernel
theorem dX6_kinds_28 : decode cX6_kinds 28 = .ok (.aload 4, 2) := by decide +kernel
theorem dX6_kinds_30 : decode cX6_kinds 30 = .ok (.getfield 132, 3) := by decide +kernel
theorem dX6_kinds_33 : decode cX6_kinds 33 = .ok (.iload_n 1, 1) := by decide +kernel
theorem dX6_kinds_34 : decode cX6_kinds 34 = .ok (.aaload, 1) := by decide +kernel
theorem dX6_kinds_35 : decode cX6_kinds 35 = .ok (.iload_n 3, 1) := by decide +kernel
theorem dX6_kinds_36 : decode cX6_kinds 36 = .ok (.putfield 233, 3) := by decide +kernel
theorem dX6_kinds_39 : decode cX6_kinds 39 = .ok (.aload_n 0, 1) := by decide +kernel
theorem dX6_kinds_40 : decode cX6_kinds 40 = .ok (.aload 4, 2) := by decide +kernel
theorem dX6_kinds_42 : decode cX6_kinds 42 = .ok (.invokevirtual 271, 3) := by decide +kernel
theorem dX6_kinds_45 : decode cX6_kinds 45 = .ok (.ifCond .eq 9, 3) := by decide +kernel
theorem dX6_kinds_48 : decode cX6_kinds 48 = .ok (.iload_n 2, 1) := by decide +kernel
theorem dX6_kinds_49 : decode cX6_kinds 49 = .ok (.iconst 1, 1) := by decide +kernel
theorem dX6_kinds_50 : decode cX6_kinds 50 = .ok (.iload_n 3, 1) := by decide +kernel
theorem dX6_kinds_51 : decode cX6_kinds 51 = .ok (.ishl, 1) := by decide +kernel
theorem dX6_kinds_52 : decode cX6_kinds 52 = .ok (.ior, 1) := by decide +kernel
theorem dX6_kinds_53 : decode cX6_kinds 53 = .ok (.istore_n 2, 1) := by decide +kernel
theorem dX6_kinds_54 : decode cX6_kinds 54 = .ok (.iinc 3 1, 3) := by decide +kernel
theorem dX6_kinds_57 : decode cX6_kinds 57 = .ok (.goto (-40), 3) := by decide +kernel
theorem dX6_kinds_60 : decode cX6_kinds 60 = .ok (.iload_n 2, 1) := by decide +kernel
theorem dX6_kinds_61 : decode cX6_kinds 61 = .ok (.ireturn, 1) := by decide +kernel
theorem dX6_nerves_0 : decode cX6_nerves 0 = .ok (.aload_n 0, 1) := by decide +kernel
theorem dX6_nerves_1 : decode cX6_nerves 1 = .ok (.getfield 10, 3) := by decide +kernel
theorem dX6_nerves_4 : decode cX6_nerves 4 = .ok (.iload_n 1, 1) := by decide +kernel
theorem dX6_nerves_5 : decode cX6_nerves 5 = .ok (.invokevirtual 126, 3) := by decide +kernel
theorem dX6_nerves_8 : decode cX6_nerves 8 = .ok (.ifCond .ne 5, 3) := by decide +kernel
theorem dX6_nerves_11 : decode cX6_nerves 11 = .ok (.iconst (-1), 1) := by decide +kernel
theorem dX6_nerves_12 : decode cX6_nerves 12 = .ok (.ireturn, 1) := by decide +kernel
theorem dX6_nerves_13 : decode cX6_nerves 13 = .ok (.iconst 0, 1) := by decide +kernel
theorem dX6_nerves_14 : decode cX6_nerves 14 = .ok (.istore_n 2, 1) := by decide +kernel
theorem dX6_nerves_15 : decode cX6_nerves 15 = .ok (.iconst 0, 1) := by decide +kernel
theorem dX6_nerves_16 : decode cX6_nerves 16 = .ok (.istore_n 3, 1) := by decide +kernel
theorem dX6_nerves_17 : decode cX6_nerves 17 = .ok (.iload_n 3, 1) := by decide +kernel
theorem dX6_nerves_18 : decode cX6_nerves 18 = .ok (.bipush 9, 2) := by decide +kernel
theorem dX6_nerves_20 : decode cX6_nerves 20 = .ok (.if_icmp .gt 24, 3) := by decide +kernel
theorem dX6_nerves_23 : decode cX6_nerves 23 = .ok (.aload_n 0, 1) := by decide +kernel
theorem dX6_nerves_24 : decode cX6_nerves 24 = .ok (.iload_n 1, 1) := by decide +kernel
theorem dX6_nerves_25 : decode cX6_nerves 25 = .ok (.iload_n 3, 1) := by decide +kernel
theorem dX6_nerves_26 : decode cX6_nerves 26 = .ok (.invokevirtual 274, 3) := by decide +kernel
theorem dX6_nerves_29 : decode cX6_nerves 29 = .ok (.ifCond .eq 9, 3) := by decide +kernel
theorem dX6_nerves_32 : decode cX6_nerves 32 = .ok (.iload_n 2, 1) := by decide +kernel
theorem dX6_nerves_33 : decode cX6_nerves 33 = .ok (.iconst 1, 1) := by decide +kernel
theorem dX6_nerves_34 : decode cX6_nerves 34 = .ok (.iload_n 3, 1) := by decide +kernel
theorem dX6_nerves_35 : decode cX6_nerves 35 = .ok (.ishl, 1) := by decide +kernel
theorem dX6_nerves_36 : decode cX6_nerves 36 = .ok (.ior, 1) := by decide +kernel
theorem dX6_nerves_37 : decode cX6_nerves 37 = .ok (.istore_n 2, 1) := by decide +kernel
theorem dX6_nerves_38 : decode cX6_nerves 38 = .ok (.iinc 3 1, 3) := by decide +kernel
theorem dX6_nerves_41 : decode cX6_nerves 41 = .ok (.goto (-24), 3) := by decide +kernel
theorem dX6_nerves_44 : decode cX6_nerves 44 = .ok (.iload_n 2, 1) := by decide +kernel
theorem dX6_nerves_45 : decode cX6_nerves 45 = .ok (.ireturn, 1) := by decide +kernel
theorem dX6_goesAsSeenByNerve_0 : decode cX6_goesAsSeenByNerve 0 = .ok (.aload_n 0, 1) := by decide +kernel
theorem dX6_goesAsSeenByNerve_1 : decode cX6_goesAsSeenByNerve 1 = .ok (.invokevirtual 177, 3) := by decide +kernel
theorem dX6_goesAsSeenByNerve_4 : decode cX6_goesAsSeenByNerve 4 = .ok (.astore_n 3, 1) := by decide +kernel
theorem dX6_goesAsSeenByNerve_5 : decode cX6_goesAsSeenByNerve 5 = .ok (.aload_n 3, 1) := by decide +kernel
theorem dX6_goesAsSeenByNerve_6 : decode cX6_goesAsSeenByNerve 6 = .ok (.iload_n 1, 1) := by decide +kernel
theorem dX6_goesAsSeenByNerve_7 : decode cX6_goesAsSeenByNerve 7 = .ok (.invokevirtual 126, 3) := by decide +kernel
theorem dX6_goesAsSeenByNerve_10 : decode cX6_goesAsSeenByNerve 10 = .ok (.ifCond .eq 13, 3) := by decide +kernel
theorem dX6_goesAsSeenByNerve_13 : decode cX6_goesAsSeenByNerve 13 = .ok (.aload_n 3, 1) := by decide +kernel
theorem dX6_goesAsSeenByNerve_14 : decode cX6_goesAsSeenByNerve 14 = .ok (.getfield 132, 3) := by decide +kernel
theorem dX6_goesAsSeenByNerve_17 : decode cX6_goesAsSeenByNerve 17 = .ok (.iload_n 1, 1) := by decide +kernel
theorem dX6_goesAsSeenByNerve_18 : decode cX6_goesAsSeenByNerve 18 = .ok (.aaload, 1) := by decide +kernel
theorem dX6_goesAsSeenByNerve_19 : decode cX6_goesAsSeenByNerve 19 = .ok (.iload_n 2, 1) := by decide +kernel
theorem dX6_goesAsSeenByNerve_20 : decode cX6_goesAsSeenByNerve 20 = .ok (.putfield 277, 3) := by decide +kernel
theorem dX6_goesAsSeenByNerve_23 : decode cX6_goesAsSeenByNerve 23 = .ok (.aload_n 0, 1) := by decide +kernel
theorem dX6_goesAsSeenByNerve_24 : decode cX6_goesAsSeenByNerve 24 = .ok (.aload_n 3, 1) := by decide +kernel
theorem dX6_goesAsSeenByNerve_25 : decode cX6_goesAsSeenByNerve 25 = .ok (.invokevirtual 271, 3) := by decide +kernel
theorem dX6_goesAsSeenByNerve_28 : decode cX6_goesAsSeenByNerve 28 = .ok (.ireturn, 1) := by decide +kernel
theorem dX6_goesAsSeen_0 : decode cX6_goesAsSeen 0 = .ok (.iconst 0, 1) := by decide +kernel
theorem dX6_goesAsSeen_1 : decode cX6_goesAsSeen 1 = .ok (.istore_n 2, 1) := by decide +kernel
theorem dX6_goesAsSeen_2 : decode cX6_goesAsSeen 2 = .ok (.iload_n 2, 1) := by decide +kernel
theorem dX6_goesAsSeen_3 : decode cX6_goesAsSeen 3 = .ok (.aload_n 0, 1) := by decide +kernel
theorem dX6_goesAsSeen_4 : decode cX6_goesAsSeen 4 = .ok (.getfield 51, 3) := by decide +kernel
theorem dX6_goesAsSeen_7 : decode cX6_goesAsSeen 7 = .ok (.arraylength, 1) := by decide +kernel
theorem dX6_goesAsSeen_8 : decode cX6_goesAsSeen 8 = .ok (.if_icmp .ge 19, 3) := by decide +kernel
theorem dX6_goesAsSeen_11 : decode cX6_goesAsSeen 11 = .ok (.aload_n 0, 1) := by decide +kernel
theorem dX6_goesAsSeen_12 : decode cX6_goesAsSeen 12 = .ok (.getfield 51, 3) := by decide +kernel
theorem dX6_goesAsSeen_15 : decode cX6_goesAsSeen 15 = .ok (.iload_n 2, 1) := by decide +kernel
theorem dX6_goesAsSeen_16 : decode cX6_goesAsSeen 16 = .ok (.aload_n 1, 1) := by decide +kernel
theorem dX6_goesAsSeen_17 : decode cX6_goesAsSeen 17 = .ok (.invokevirtual 194, 3) := by decide +kernel
theorem dX6_goesAsSeen_20 : decode cX6_goesAsSeen 20 = .ok (.iastore, 1) := by decide +kernel
theorem dX6_goesAsSeen_21 : decode cX6_goesAsSeen 21 = .ok (.iinc 2 1, 3) := by decide +kernel
theorem dX6_goesAsSeen_24 : decode cX6_goesAsSeen 24 = .ok (.goto (-22), 3) := by decide +kernel
theorem dX6_goesAsSeen_27 : decode cX6_goesAsSeen 27 = .ok (.aload_n 0, 1) := by decide +kernel
theorem dX6_goesAsSeen_28 : decode cX6_goesAsSeen 28 = .ok (.getfield 47, 3) := by decide +kernel
theorem dX6_goesAsSeen_31 : decode cX6_goesAsSeen 31 = .ok (.aload_n 0, 1) := by decide +kernel
theorem dX6_goesAsSeen_32 : decode cX6_goesAsSeen 32 = .ok (.getfield 51, 3) := by decide +kernel
theorem dX6_goesAsSeen_35 : decode cX6_goesAsSeen 35 = .ok (.invokevirtual 280, 3) := by decide +kernel
theorem dX6_goesAsSeen_38 : decode cX6_goesAsSeen 38 = .ok (.ireturn, 1) := by decide +kernel
theorem dX6_ask_0 : decode cX6_ask 0 = .ok (.aload_n 0, 1) := by decide +kernel
theorem dX6_ask_1 : decode cX6_ask 1 = .ok (.getfield 10, 3) := by decide +kernel
theorem dX6_ask_4 : decode cX6_ask 4 = .ok (.iload_n 1, 1) := by decide +kernel
theorem dX6_ask_5 : decode cX6_ask 5 = .ok (.invokevirtual 126, 3) := by decide +kernel
theorem dX6_ask_8 : decode cX6_ask 8 = .ok (.ifCond .eq 12, 3) := by decide +kernel
theorem dX6_ask_11 : decode cX6_ask 11 = .ok (.iload_n 2, 1) := by decide +kernel
theorem dX6_ask_12 : decode cX6_ask 12 = .ok (.iconst 0, 1) := by decide +kernel
theorem dX6_ask_13 : decode cX6_ask 13 = .ok (.iconst 1, 1) := by decide +kernel
theorem dX6_ask_14 : decode cX6_ask 14 = .ok (.invokestatic 66, 3) := by decide +kernel
theorem dX6_ask_17 : decode cX6_ask 17 = .ok (.ifCond .ne 5, 3) := by decide +kernel
theorem dX6_ask_20 : decode cX6_ask 20 = .ok (.iconst (-1), 1) := by decide +kernel
theorem dX6_ask_21 : decode cX6_ask 21 = .ok (.ireturn, 1) := by decide +kernel
theorem dX6_ask_22 : decode cX6_ask 22 = .ok (.iconst 0, 1) := by decide +kernel
theorem dX6_ask_23 : decode cX6_ask 23 = .ok (.istore_n 3, 1) := by decide +kernel
theorem dX6_ask_24 : decode cX6_ask 24 = .ok (.iconst 0, 1) := by decide +kernel
theorem dX6_ask_25 : decode cX6_ask 25 = .ok (.istore 4, 2) := by decide +kernel
theorem dX6_ask_27 : decode cX6_ask 27 = .ok (.iload 4, 2) := by decide +kernel
theorem dX6_ask_29 : decode cX6_ask 29 = .ok (.bipush 9, 2) := by decide +kernel
theorem dX6_ask_31 : decode cX6_ask 31 = .ok (.if_icmp .gt 33, 3) := by decide +kernel
theorem dX6_ask_34 : decode cX6_ask 34 = .ok (.aload_n 0, 1) := by decide +kernel
theorem dX6_ask_35 : decode cX6_ask 35 = .ok (.iload_n 1, 1) := by decide +kernel
theorem dX6_ask_36 : decode cX6_ask 36 = .ok (.iload 4, 2) := by decide +kernel
theorem dX6_ask_38 : decode cX6_ask 38 = .ok (.invokevirtual 274, 3) := by decide +kernel
theorem dX6_ask_41 : decode cX6_ask 41 = .ok (.ifCond .eq 17, 3) := by decide +kernel
theorem dX6_ask_44 : decode cX6_ask 44 = .ok (.aload_n 0, 1) := by decide +kernel
theorem dX6_ask_45 : decode cX6_ask 45 = .ok (.getfield 55, 3) := by decide +kernel
theorem dX6_ask_48 : decode cX6_ask 48 = .ok (.iload_n 3, 1) := by decide +kernel
theorem dX6_ask_49 : decode cX6_ask 49 = .ok (.aload_n 0, 1) := by decide +kernel
theorem dX6_ask_50 : decode cX6_ask 50 = .ok (.iload_n 1, 1) := by decide +kernel
theorem dX6_ask_51 : decode cX6_ask 51 = .ok (.invokevirtual 284, 3) := by decide +kernel
theorem dX6_ask_54 : decode cX6_ask 54 = .ok (.lastore, 1) := by decide +kernel
theorem dX6_ask_55 : decode cX6_ask 55 = .ok (.iinc 3 1, 3) := by decide +kernel
theorem dX6_ask_58 : decode cX6_ask 58 = .ok (.iinc 4 1, 3) := by decide +kernel
theorem dX6_ask_61 : decode cX6_ask 61 = .ok (.goto (-34), 3) := by decide +kernel
theorem dX6_ask_64 : decode cX6_ask 64 = .ok (.bipush (-4), 2) := by decide +kernel
theorem dX6_ask_66 : decode cX6_ask 66 = .ok (.istore 4, 2) := by decide +kernel
theorem dX6_ask_68 : decode cX6_ask 68 = .ok (.iload_n 3, 1) := by decide +kernel
theorem dX6_ask_69 : decode cX6_ask 69 = .ok (.istore 5, 2) := by decide +kernel
theorem dX6_ask_71 : decode cX6_ask 71 = .ok (.iconst 0, 1) := by decide +kernel
theorem dX6_ask_72 : decode cX6_ask 72 = .ok (.istore 6, 2) := by decide +kernel
theorem dX6_ask_74 : decode cX6_ask 74 = .ok (.iload 6, 2) := by decide +kernel
theorem dX6_ask_76 : decode cX6_ask 76 = .ok (.bipush 40, 2) := by decide +kernel
theorem dX6_ask_78 : decode cX6_ask 78 = .ok (.if_icmp .gt 33, 3) := by decide +kernel
theorem dX6_ask_81 : decode cX6_ask 81 = .ok (.aload_n 0, 1) := by decide +kernel
theorem dX6_ask_82 : decode cX6_ask 82 = .ok (.iload 6, 2) := by decide +kernel
theorem dX6_ask_84 : decode cX6_ask 84 = .ok (.iload_n 3, 1) := by decide +kernel
theorem dX6_ask_85 : decode cX6_ask 85 = .ok (.invokevirtual 288, 3) := by decide +kernel
theorem dX6_ask_88 : decode cX6_ask 88 = .ok (.istore 7, 2) := by decide +kernel
theorem dX6_ask_90 : decode cX6_ask 90 = .ok (.iload 7, 2) := by decide +kernel
theorem dX6_ask_92 : decode cX6_ask 92 = .ok (.iload 5, 2) := by decide +kernel
theorem dX6_ask_94 : decode cX6_ask 94 = .ok (.if_icmp .ge 11, 3) := by decide +kernel
theorem dX6_ask_97 : decode cX6_ask 97 = .ok (.iload 7, 2) := by decide +kernel
theorem dX6_ask_99 : decode cX6_ask 99 = .ok (.istore 5, 2) := by decide +kernel
theorem dX6_ask_101 : decode cX6_ask 101 = .ok (.iload 6, 2) := by decide +kernel
theorem dX6_ask_103 : decode cX6_ask 103 = .ok (.istore 4, 2) := by decide +kernel
theorem dX6_ask_105 : decode cX6_ask 105 = .ok (.iinc 6 1, 3) := by decide +kernel
theorem dX6_ask_108 : decode cX6_ask 108 = .ok (.goto (-34), 3) := by decide +kernel
theorem dX6_ask_111 : decode cX6_ask 111 = .ok (.iload 4, 2) := by decide +kernel
theorem dX6_ask_113 : decode cX6_ask 113 = .ok (.bipush (-4), 2) := by decide +kernel
theorem dX6_ask_115 : decode cX6_ask 115 = .ok (.if_icmp .eq 7, 3) := by decide +kernel
theorem dX6_ask_118 : decode cX6_ask 118 = .ok (.iload_n 2, 1) := by decide +kernel
theorem dX6_ask_119 : decode cX6_ask 119 = .ok (.ifCond .ne 8, 3) := by decide +kernel
theorem dX6_ask_122 : decode cX6_ask 122 = .ok (.iload 4, 2) := by decide +kernel
theorem dX6_ask_124 : decode cX6_ask 124 = .ok (.goto 5, 3) := by decide +kernel
theorem dX6_ask_127 : decode cX6_ask 127 = .ok (.iload 5, 2) := by decide +kernel
theorem dX6_ask_129 : decode cX6_ask 129 = .ok (.ireturn, 1) := by decide +kernel
theorem dX6_hoursOf_0 : decode cX6_hoursOf 0 = .ok (.lconst 0, 1) := by decide +kernel
theorem dX6_hoursOf_1 : decode cX6_hoursOf 1 = .ok (.lstore_n 2, 1) := by decide +kernel
theorem dX6_hoursOf_2 : decode cX6_hoursOf 2 = .ok (.iconst 0, 1) := by decide +kernel
theorem dX6_hoursOf_3 : decode cX6_hoursOf 3 = .ok (.istore 4, 2) := by decide +kernel
theorem dX6_hoursOf_5 : decode cX6_hoursOf 5 = .ok (.iload 4, 2) := by decide +kernel
theorem dX6_hoursOf_7 : decode cX6_hoursOf 7 = .ok (.aload_n 0, 1) := by decide +kernel
theorem dX6_hoursOf_8 : decode cX6_hoursOf 8 = .ok (.getfield 51, 3) := by decide +kernel
theorem dX6_hoursOf_11 : decode cX6_hoursOf 11 = .ok (.arraylength, 1) := by decide +kernel
theorem dX6_hoursOf_12 : decode cX6_hoursOf 12 = .ok (.if_icmp .ge 27, 3) := by decide +kernel
theorem dX6_hoursOf_15 : decode cX6_hoursOf 15 = .ok (.lload_n 2, 1) := by decide +kernel
theorem dX6_hoursOf_16 : decode cX6_hoursOf 16 = .ok (.aload_n 0, 1) := by decide +kernel
theorem dX6_hoursOf_17 : decode cX6_hoursOf 17 = .ok (.getfield 51, 3) := by decide +kernel
theorem dX6_hoursOf_20 : decode cX6_hoursOf 20 = .ok (.iload 4, 2) := by decide +kernel
theorem dX6_hoursOf_22 : decode cX6_hoursOf 22 = .ok (.iaload, 1) := by decide +kernel
theorem dX6_hoursOf_23 : decode cX6_hoursOf 23 = .ok (.iload_n 1, 1) := by decide +kernel
theorem dX6_hoursOf_24 : decode cX6_hoursOf 24 = .ok (.invokestatic 197, 3) := by decide +kernel
theorem dX6_hoursOf_27 : decode cX6_hoursOf 27 = .ok (.i2l, 1) := by decide +kernel
theorem dX6_hoursOf_28 : decode cX6_hoursOf 28 = .ok (.iload 4, 2) := by decide +kernel
theorem dX6_hoursOf_30 : decode cX6_hoursOf 30 = .ok (.lshl, 1) := by decide +kernel
theorem dX6_hoursOf_31 : decode cX6_hoursOf 31 = .ok (.lor, 1) := by decide +kernel
theorem dX6_hoursOf_32 : decode cX6_hoursOf 32 = .ok (.lstore_n 2, 1) := by decide +kernel
theorem dX6_hoursOf_33 : decode cX6_hoursOf 33 = .ok (.iinc 4 1, 3) := by decide +kernel
theorem dX6_hoursOf_36 : decode cX6_hoursOf 36 = .ok (.goto (-31), 3) := by decide +kernel
theorem dX6_hoursOf_39 : decode cX6_hoursOf 39 = .ok (.lload_n 2, 1) := by decide +kernel
theorem dX6_hoursOf_40 : decode cX6_hoursOf 40 = .ok (.lreturn, 1) := by decide +kernel
theorem dX6_leftAtWorst_0 : decode cX6_leftAtWorst 0 = .ok (.iconst 0, 1) := by decide +kernel
theorem dX6_leftAtWorst_1 : decode cX6_leftAtWorst 1 = .ok (.istore_n 3, 1) := by decide +kernel
theorem dX6_leftAtWorst_2 : decode cX6_leftAtWorst 2 = .ok (.iconst 0, 1) := by decide +kernel
theorem dX6_leftAtWorst_3 : decode cX6_leftAtWorst 3 = .ok (.istore 4, 2) := by decide +kernel
theorem dX6_leftAtWorst_5 : decode cX6_leftAtWorst 5 = .ok (.iload 4, 2) := by decide +kernel
theorem dX6_leftAtWorst_7 : decode cX6_leftAtWorst 7 = .ok (.iload_n 2, 1) := by decide +kernel
theorem dX6_leftAtWorst_8 : decode cX6_leftAtWorst 8 = .ok (.if_icmp .ge 34, 3) := by decide +kernel
theorem dX6_leftAtWorst_11 : decode cX6_leftAtWorst 11 = .ok (.iload 4, 2) := by decide +kernel
theorem dX6_leftAtWorst_13 : decode cX6_leftAtWorst 13 = .ok (.aload_n 0, 1) := by decide +kernel
theorem dX6_leftAtWorst_14 : decode cX6_leftAtWorst 14 = .ok (.getfield 55, 3) := by decide +kernel
theorem dX6_leftAtWorst_17 : decode cX6_leftAtWorst 17 = .ok (.arraylength, 1) := by decide +kernel
theorem dX6_leftAtWorst_18 : decode cX6_leftAtWorst 18 = .ok (.if_icmp .ge 24, 3) := by decide +kernel
theorem dX6_leftAtWorst_21 : decode cX6_leftAtWorst 21 = .ok (.iload_n 3, 1) := by decide +kernel
theorem dX6_leftAtWorst_22 : decode cX6_leftAtWorst 22 = .ok (.aload_n 0, 1) := by decide +kernel
theorem dX6_leftAtWorst_23 : decode cX6_leftAtWorst 23 = .ok (.getfield 55, 3) := by decide +kernel
theorem dX6_leftAtWorst_26 : decode cX6_leftAtWorst 26 = .ok (.iload 4, 2) := by decide +kernel
theorem dX6_leftAtWorst_28 : decode cX6_leftAtWorst 28 = .ok (.laload, 1) := by decide +kernel
theorem dX6_leftAtWorst_29 : decode cX6_leftAtWorst 29 = .ok (.iload_n 1, 1) := by decide +kernel
theorem dX6_leftAtWorst_30 : decode cX6_leftAtWorst 30 = .ok (.lushr, 1) := by decide +kernel
theorem dX6_leftAtWorst_31 : decode cX6_leftAtWorst 31 = .ok (.lconst 1, 1) := by decide +kernel
theorem dX6_leftAtWorst_32 : decode cX6_leftAtWorst 32 = .ok (.land, 1) := by decide +kernel
theorem dX6_leftAtWorst_33 : decode cX6_leftAtWorst 33 = .ok (.l2i, 1) := by decide +kernel
theorem dX6_leftAtWorst_34 : decode cX6_leftAtWorst 34 = .ok (.iadd, 1) := by decide +kernel
theorem dX6_leftAtWorst_35 : decode cX6_leftAtWorst 35 = .ok (.istore_n 3, 1) := by decide +kernel
theorem dX6_leftAtWorst_36 : decode cX6_leftAtWorst 36 = .ok (.iinc 4 1, 3) := by decide +kernel
theorem dX6_leftAtWorst_39 : decode cX6_leftAtWorst 39 = .ok (.goto (-34), 3) := by decide +kernel
theorem dX6_leftAtWorst_42 : decode cX6_leftAtWorst 42 = .ok (.iload_n 3, 1) := by decide +kernel
theorem dX6_leftAtWorst_43 : decode cX6_leftAtWorst 43 = .ok (.iload_n 2, 1) := by decide +kernel
theorem dX6_leftAtWorst_44 : decode cX6_leftAtWorst 44 = .ok (.iload_n 3, 1) := by decide +kernel
theorem dX6_leftAtWorst_45 : decode cX6_leftAtWorst 45 = .ok (.isub, 1) := by decide +kernel
theorem dX6_leftAtWorst_46 : decode cX6_leftAtWorst 46 = .ok (.invokestatic 222, 3) := by decide +kernel
theorem dX6_leftAtWorst_49 : decode cX6_leftAtWorst 49 = .ok (.ireturn, 1) := by decide +kernel
theorem dX6_season_0 : decode cX6_season 0 = .ok (.iload_n 2, 1) := by decide +kernel
theorem dX6_season_1 : decode cX6_season 1 = .ok (.iconst 1, 1) := by decide +kernel
theorem dX6_season_2 : decode cX6_season 2 = .ok (.sipush 200, 3) := by decide +kernel
theorem dX6_season_5 : decode cX6_season 5 = .ok (.invokestatic 66, 3) := by decide +kernel
theorem dX6_season_8 : decode cX6_season 8 = .ok (.ifCond .eq 12, 3) := by decide +kernel
theorem dX6_season_11 : decode cX6_season 11 = .ok (.iload_n 3, 1) := by decide +kernel
theorem dX6_season_12 : decode cX6_season 12 = .ok (.iconst 0, 1) := by decide +kernel
theorem dX6_season_13 : decode cX6_season 13 = .ok (.iconst 1, 1) := by decide +kernel
theorem dX6_season_14 : decode cX6_season 14 = .ok (.invokestatic 66, 3) := by decide +kernel
theorem dX6_season_17 : decode cX6_season 17 = .ok (.ifCond .ne 5, 3) := by decide +kernel
theorem dX6_season_20 : decode cX6_season 20 = .ok (.iconst (-1), 1) := by decide +kernel
theorem dX6_season_21 : decode cX6_season 21 = .ok (.ireturn, 1) := by decide +kernel
theorem dX6_season_22 : decode cX6_season 22 = .ok (.aload_n 0, 1) := by decide +kernel
theorem dX6_season_23 : decode cX6_season 23 = .ok (.getfield 10, 3) := by decide +kernel
theorem dX6_season_26 : decode cX6_season 26 = .ok (.getfield 100, 3) := by decide +kernel
theorem dX6_season_29 : decode cX6_season 29 = .ok (.ifCond .ne 6, 3) := by decide +kernel
theorem dX6_season_32 : decode cX6_season 32 = .ok (.bipush (-2), 2) := by decide +kernel
theorem dX6_season_34 : decode cX6_season 34 = .ok (.ireturn, 1) := by decide +kernel
theorem dX6_season_35 : decode cX6_season 35 = .ok (.aload_n 0, 1) := by decide +kernel
theorem dX6_season_36 : decode cX6_season 36 = .ok (.invokevirtual 177, 3) := by decide +kernel
theorem dX6_season_39 : decode cX6_season 39 = .ok (.astore 4, 2) := by decide +kernel
theorem dX6_season_41 : decode cX6_season 41 = .ok (.iload_n 1, 1) := by decide +kernel
theorem dX6_season_42 : decode cX6_season 42 = .ok (.istore 5, 2) := by decide +kernel
theorem dX6_season_44 : decode cX6_season 44 = .ok (.iconst 0, 1) := by decide +kernel
theorem dX6_season_45 : decode cX6_season 45 = .ok (.istore 6, 2) := by decide +kernel
theorem dX6_season_47 : decode cX6_season 47 = .ok (.iconst 0, 1) := by decide +kernel
theorem dX6_season_48 : decode cX6_season 48 = .ok (.istore 7, 2) := by decide +kernel
theorem dX6_season_50 : decode cX6_season 50 = .ok (.iload 7, 2) := by decide +kernel
theorem dX6_season_52 : decode cX6_season 52 = .ok (.iload_n 2, 1) := by decide +kernel
theorem dX6_season_53 : decode cX6_season 53 = .ok (.if_icmp .ge 55, 3) := by decide +kernel
theorem dX6_season_56 : decode cX6_season 56 = .ok (.iload 5, 2) := by decide +kernel
theorem dX6_season_58 : decode cX6_season 58 = .ok (.ldc_w 291, 3) := by decide +kernel
theorem dX6_season_61 : decode cX6_season 61 = .ok (.imul, 1) := by decide +kernel
theorem dX6_season_62 : decode cX6_season 62 = .ok (.sipush 12345, 3) := by decide +kernel
theorem dX6_season_65 : decode cX6_season 65 = .ok (.iadd, 1) := by decide +kernel
theorem dX6_season_66 : decode cX6_season 66 = .ok (.istore 5, 2) := by decide +kernel
theorem dX6_season_68 : decode cX6_season 68 = .ok (.iload 5, 2) := by decide +kernel
theorem dX6_season_70 : decode cX6_season 70 = .ok (.bipush 16, 2) := by decide +kernel
theorem dX6_season_72 : decode cX6_season 72 = .ok (.iushr, 1) := by decide +kernel
theorem dX6_season_73 : decode cX6_season 73 = .ok (.sipush 32767, 3) := by decide +kernel
theorem dX6_season_76 : decode cX6_season 76 = .ok (.iand, 1) := by decide +kernel
theorem dX6_season_77 : decode cX6_season 77 = .ok (.istore 8, 2) := by decide +kernel
theorem dX6_season_79 : decode cX6_season 79 = .ok (.iload 6, 2) := by decide +kernel
theorem dX6_season_81 : decode cX6_season 81 = .ok (.aload 4, 2) := by decide +kernel
theorem dX6_season_83 : decode cX6_season 83 = .ok (.iload 8, 2) := by decide +kernel
theorem dX6_season_85 : decode cX6_season 85 = .ok (.bipush 10, 2) := by decide +kernel
theorem dX6_season_87 : decode cX6_season 87 = .ok (.irem, 1) := by decide +kernel
theorem dX6_season_88 : decode cX6_season 88 = .ok (.aload 4, 2) := by decide +kernel
theorem dX6_season_90 : decode cX6_season 90 = .ok (.invokevirtual 123, 3) := by decide +kernel
theorem dX6_season_93 : decode cX6_season 93 = .ok (.invokevirtual 214, 3) := by decide +kernel
theorem dX6_season_96 : decode cX6_season 96 = .ok (.invokestatic 217, 3) := by decide +kernel
theorem dX6_season_99 : decode cX6_season 99 = .ok (.iadd, 1) := by decide +kernel
theorem dX6_season_100 : decode cX6_season 100 = .ok (.istore 6, 2) := by decide +kernel
theorem dX6_season_102 : decode cX6_season 102 = .ok (.iinc 7 1, 3) := by decide +kernel
theorem dX6_season_105 : decode cX6_season 105 = .ok (.goto (-55), 3) := by decide +kernel
theorem dX6_season_108 : decode cX6_season 108 = .ok (.iload_n 3, 1) := by decide +kernel
theorem dX6_season_109 : decode cX6_season 109 = .ok (.ifCond .ne 8, 3) := by decide +kernel
theorem dX6_season_112 : decode cX6_season 112 = .ok (.iload 6, 2) := by decide +kernel
theorem dX6_season_114 : decode cX6_season 114 = .ok (.goto 9, 3) := by decide +kernel
theorem dX6_season_117 : decode cX6_season 117 = .ok (.aload 4, 2) := by decide +kernel
theorem dX6_season_119 : decode cX6_season 119 = .ok (.iconst 4, 1) := by decide +kernel
theorem dX6_season_120 : decode cX6_season 120 = .ok (.invokevirtual 115, 3) := by decide +kernel
theorem dX6_season_123 : decode cX6_season 123 = .ok (.ireturn, 1) := by decide +kernel
theorem dX6_keep_0 : decode cX6_keep 0 = .ok (.iload_n 1, 1) := by decide +kernel
theorem dX6_keep_1 : decode cX6_keep 1 = .ok (.iconst 0, 1) := by decide +kernel
theorem dX6_keep_2 : decode cX6_keep 2 = .ok (.iconst 1, 1) := by decide +kernel
theorem dX6_keep_3 : decode cX6_keep 3 = .ok (.invokestatic 66, 3) := by decide +kernel
theorem dX6_keep_6 : decode cX6_keep 6 = .ok (.ifCond .ne 5, 3) := by decide +kernel
theorem dX6_keep_9 : decode cX6_keep 9 = .ok (.iconst (-1), 1) := by decide +kernel
theorem dX6_keep_10 : decode cX6_keep 10 = .ok (.ireturn, 1) := by decide +kernel
theorem dX6_keep_11 : decode cX6_keep 11 = .ok (.aload_n 0, 1) := by decide +kernel
theorem dX6_keep_12 : decode cX6_keep 12 = .ok (.getfield 26, 3) := by decide +kernel
theorem dX6_keep_15 : decode cX6_keep 15 = .ok (.iload_n 1, 1) := by decide +kernel
theorem dX6_keep_16 : decode cX6_keep 16 = .ok (.baload, 1) := by decide +kernel
theorem dX6_keep_17 : decode cX6_keep 17 = .ok (.ifCond .eq 7, 3) := by decide +kernel
theorem dX6_keep_20 : decode cX6_keep 20 = .ok (.iconst 1, 1) := by decide +kernel
theorem dX6_keep_21 : decode cX6_keep 21 = .ok (.goto 4, 3) := by decide +kernel
theorem dX6_keep_24 : decode cX6_keep 24 = .ok (.iconst 0, 1) := by decide +kernel
theorem dX6_keep_25 : decode cX6_keep 25 = .ok (.istore_n 2, 1) := by decide +kernel
theorem dX6_keep_26 : decode cX6_keep 26 = .ok (.aload_n 0, 1) := by decide +kernel
theorem dX6_keep_27 : decode cX6_keep 27 = .ok (.getfield 23, 3) := by decide +kernel
theorem dX6_keep_30 : decode cX6_keep 30 = .ok (.iload_n 1, 1) := by decide +kernel
theorem dX6_keep_31 : decode cX6_keep 31 = .ok (.aaload, 1) := by decide +kernel
theorem dX6_keep_32 : decode cX6_keep 32 = .ok (.aload_n 0, 1) := by decide +kernel
theorem dX6_keep_33 : decode cX6_keep 33 = .ok (.getfield 10, 3) := by decide +kernel
theorem dX6_keep_36 : decode cX6_keep 36 = .ok (.invokevirtual 93, 3) := by decide +kernel
theorem dX6_keep_39 : decode cX6_keep 39 = .ok (.aload_n 0, 1) := by decide +kernel
theorem dX6_keep_40 : decode cX6_keep 40 = .ok (.getfield 26, 3) := by decide +kernel
theorem dX6_keep_43 : decode cX6_keep 43 = .ok (.iload_n 1, 1) := by decide +kernel
theorem dX6_keep_44 : decode cX6_keep 44 = .ok (.iconst 1, 1) := by decide +kernel
theorem dX6_keep_45 : decode cX6_keep 45 = .ok (.bastore, 1) := by decide +kernel
theorem dX6_keep_46 : decode cX6_keep 46 = .ok (.iload_n 2, 1) := by decide +kernel
theorem dX6_keep_47 : decode cX6_keep 47 = .ok (.ireturn, 1) := by decide +kernel
theorem dX6_back_0 : decode cX6_back 0 = .ok (.iload_n 1, 1) := by decide +kernel
theorem dX6_back_1 : decode cX6_back 1 = .ok (.iconst 0, 1) := by decide +kernel
theorem dX6_back_2 : decode cX6_back 2 = .ok (.iconst 1, 1) := by decide +kernel
theorem dX6_back_3 : decode cX6_back 3 = .ok (.invokestatic 66, 3) := by decide +kernel
theorem dX6_back_6 : decode cX6_back 6 = .ok (.ifCond .ne 5, 3) := by decide +kernel
theorem dX6_back_9 : decode cX6_back 9 = .ok (.iconst (-1), 1) := by decide +kernel
theorem dX6_back_10 : decode cX6_back 10 = .ok (.ireturn, 1) := by decide +kernel
theorem dX6_back_11 : decode cX6_back 11 = .ok (.aload_n 0, 1) := by decide +kernel
theorem dX6_back_12 : decode cX6_back 12 = .ok (.getfield 26, 3) := by decide +kernel
theorem dX6_back_15 : decode cX6_back 15 = .ok (.iload_n 1, 1) := by decide +kernel
theorem dX6_back_16 : decode cX6_back 16 = .ok (.baload, 1) := by decide +kernel
theorem dX6_back_17 : decode cX6_back 17 = .ok (.ifCond .ne 6, 3) := by decide +kernel
theorem dX6_back_20 : decode cX6_back 20 = .ok (.bipush (-2), 2) := by decide +kernel
theorem dX6_back_22 : decode cX6_back 22 = .ok (.ireturn, 1) := by decide +kernel
theorem dX6_back_23 : decode cX6_back 23 = .ok (.aload_n 0, 1) := by decide +kernel
theorem dX6_back_24 : decode cX6_back 24 = .ok (.getfield 10, 3) := by decide +kernel
theorem dX6_back_27 : decode cX6_back 27 = .ok (.aload_n 0, 1) := by decide +kernel
theorem dX6_back_28 : decode cX6_back 28 = .ok (.getfield 23, 3) := by decide +kernel
theorem dX6_back_31 : decode cX6_back 31 = .ok (.iload_n 1, 1) := by decide +kernel
theorem dX6_back_32 : decode cX6_back 32 = .ok (.aaload, 1) := by decide +kernel
theorem dX6_back_33 : decode cX6_back 33 = .ok (.invokevirtual 93, 3) := by decide +kernel
theorem dX6_back_36 : decode cX6_back 36 = .ok (.aload_n 0, 1) := by decide +kernel
theorem dX6_back_37 : decode cX6_back 37 = .ok (.getfield 10, 3) := by decide +kernel
theorem dX6_back_40 : decode cX6_back 40 = .ok (.getfield 106, 3) := by decide +kernel
theorem dX6_back_43 : decode cX6_back 43 = .ok (.ireturn, 1) := by decide +kernel
theorem dX6_sheet_0 : decode cX6_sheet 0 = .ok (.iload_n 1, 1) := by decide +kernel
theorem dX6_sheet_1 : decode cX6_sheet 1 = .ok (.iconst 0, 1) := by decide +kernel
theorem dX6_sheet_2 : decode cX6_sheet 2 = .ok (.iconst 3, 1) := by decide +kernel
theorem dX6_sheet_3 : decode cX6_sheet 3 = .ok (.invokestatic 66, 3) := by decide +kernel
theorem dX6_sheet_6 : decode cX6_sheet 6 = .ok (.ifCond .eq 16, 3) := by decide +kernel
theorem dX6_sheet_9 : decode cX6_sheet 9 = .ok (.iload_n 2, 1) := by decide +kernel
theorem dX6_sheet_10 : decode cX6_sheet 10 = .ok (.invokestatic 292, 3) := by decide +kernel
theorem dX6_sheet_13 : decode cX6_sheet 13 = .ok (.ifCond .eq 9, 3) := by decide +kernel
theorem dX6_sheet_16 : decode cX6_sheet 16 = .ok (.iload_n 3, 1) := by decide +kernel
theorem dX6_sheet_17 : decode cX6_sheet 17 = .ok (.bipush 40, 2) := by decide +kernel
theorem dX6_sheet_19 : decode cX6_sheet 19 = .ok (.if_icmp .le 5, 3) := by decide +kernel
theorem dX6_sheet_22 : decode cX6_sheet 22 = .ok (.iconst (-1), 1) := by decide +kernel
theorem dX6_sheet_23 : decode cX6_sheet 23 = .ok (.ireturn, 1) := by decide +kernel
theorem dX6_sheet_24 : decode cX6_sheet 24 = .ok (.iload_n 3, 1) := by decide +kernel
theorem dX6_sheet_25 : decode cX6_sheet 25 = .ok (.ifCond .ge 6, 3) := by decide +kernel
theorem dX6_sheet_28 : decode cX6_sheet 28 = .ok (.bipush (-14), 2) := by decide +kernel
theorem dX6_sheet_30 : decode cX6_sheet 30 = .ok (.ireturn, 1) := by decide +kernel
theorem dX6_sheet_31 : decode cX6_sheet 31 = .ok (.aload_n 0, 1) := by decide +kernel
theorem dX6_sheet_32 : decode cX6_sheet 32 = .ok (.getfield 61, 3) := by decide +kernel
theorem dX6_sheet_35 : decode cX6_sheet 35 = .ok (.iload_n 1, 1) := by decide +kernel
theorem dX6_sheet_36 : decode cX6_sheet 36 = .ok (.aaload, 1) := by decide +kernel
theorem dX6_sheet_37 : decode cX6_sheet 37 = .ok (.iload_n 2, 1) := by decide +kernel
theorem dX6_sheet_38 : decode cX6_sheet 38 = .ok (.iload_n 3, 1) := by decide +kernel
theorem dX6_sheet_39 : decode cX6_sheet 39 = .ok (.invokevirtual 295, 3) := by decide +kernel
theorem dX6_sheet_42 : decode cX6_sheet 42 = .ok (.iconst 1, 1) := by decide +kernel
theorem dX6_sheet_43 : decode cX6_sheet 43 = .ok (.ireturn, 1) := by decide +kernel
theorem dX6_lay_0 : decode cX6_lay 0 = .ok (.iload_n 1, 1) := by decide +kernel
theorem dX6_lay_1 : decode cX6_lay 1 = .ok (.iconst 0, 1) := by decide +kernel
theorem dX6_lay_2 : decode cX6_lay 2 = .ok (.iconst 3, 1) := by decide +kernel
theorem dX6_lay_3 : decode cX6_lay 3 = .ok (.invokestatic 66, 3) := by decide +kernel
theorem dX6_lay_6 : decode cX6_lay 6 = .ok (.ifCond .ne 5, 3) := by decide +kernel
theorem dX6_lay_9 : decode cX6_lay 9 = .ok (.iconst (-1), 1) := by decide +kernel
theorem dX6_lay_10 : decode cX6_lay 10 = .ok (.ireturn, 1) := by decide +kernel
theorem dX6_lay_11 : decode cX6_lay 11 = .ok (.aload_n 0, 1) := by decide +kernel
theorem dX6_lay_12 : decode cX6_lay 12 = .ok (.getfield 61, 3) := by decide +kernel
theorem dX6_lay_15 : decode cX6_lay 15 = .ok (.iload_n 1, 1) := by decide +kernel
theorem dX6_lay_16 : decode cX6_lay 16 = .ok (.aaload, 1) := by decide +kernel
theorem dX6_lay_17 : decode cX6_lay 17 = .ok (.aload_n 0, 1) := by decide +kernel
theorem dX6_lay_18 : decode cX6_lay 18 = .ok (.getfield 61, 3) := by decide +kernel
theorem dX6_lay_21 : decode cX6_lay 21 = .ok (.iload_n 1, 1) := by decide +kernel
theorem dX6_lay_22 : decode cX6_lay 22 = .ok (.aaload, 1) := by decide +kernel
theorem dX6_lay_23 : decode cX6_lay 23 = .ok (.getfield 298, 3) := by decide +kernel
theorem dX6_lay_26 : decode cX6_lay 26 = .ok (.iload_n 2, 1) := by decide +kernel
theorem dX6_lay_27 : decode cX6_lay 27 = .ok (.i2l, 1) := by decide +kernel
theorem dX6_lay_28 : decode cX6_lay 28 = .ok (.invokevirtual 301, 3) := by decide +kernel
theorem dX6_lay_31 : decode cX6_lay 31 = .ok (.istore 4, 2) := by decide +kernel
theorem dX6_lay_33 : decode cX6_lay 33 = .ok (.iload 4, 2) := by decide +kernel
theorem dX6_lay_35 : decode cX6_lay 35 = .ok (.ifCond .eq 9, 3) := by decide +kernel
theorem dX6_lay_38 : decode cX6_lay 38 = .ok (.bipush (-10), 2) := by decide +kernel
theorem dX6_lay_40 : decode cX6_lay 40 = .ok (.iload 4, 2) := by decide +kernel
theorem dX6_lay_42 : decode cX6_lay 42 = .ok (.isub, 1) := by decide +kernel
theorem dX6_lay_43 : decode cX6_lay 43 = .ok (.ireturn, 1) := by decide +kernel
theorem dX6_lay_44 : decode cX6_lay 44 = .ok (.aload_n 0, 1) := by decide +kernel
theorem dX6_lay_45 : decode cX6_lay 45 = .ok (.getfield 61, 3) := by decide +kernel
theorem dX6_lay_48 : decode cX6_lay 48 = .ok (.iload_n 1, 1) := by decide +kernel
theorem dX6_lay_49 : decode cX6_lay 49 = .ok (.aaload, 1) := by decide +kernel
theorem dX6_lay_50 : decode cX6_lay 50 = .ok (.iload_n 2, 1) := by decide +kernel
theorem dX6_lay_51 : decode cX6_lay 51 = .ok (.iload_n 3, 1) := by decide +kernel
theorem dX6_lay_52 : decode cX6_lay 52 = .ok (.invokevirtual 305, 3) := by decide +kernel
theorem dX6_lay_55 : decode cX6_lay 55 = .ok (.iconst 1, 1) := by decide +kernel
theorem dX6_lay_56 : decode cX6_lay 56 = .ok (.ireturn, 1) := by decide +kernel
theorem dX6_read_0 : decode cX6_read 0 = .ok (.iload_n 1, 1) := by decide +kernel
theorem dX6_read_1 : decode cX6_read 1 = .ok (.iconst 0, 1) := by decide +kernel
theorem dX6_read_2 : decode cX6_read 2 = .ok (.iconst 3, 1) := by decide +kernel
theorem dX6_read_3 : decode cX6_read 3 = .ok (.invokestatic 66, 3) := by decide +kernel
theorem dX6_read_6 : decode cX6_read 6 = .ok (.ifCond .eq 21, 3) := by decide +kernel
theorem dX6_read_9 : decode cX6_read 9 = .ok (.iload_n 2, 1) := by decide +kernel
theorem dX6_read_10 : decode cX6_read 10 = .ok (.invokestatic 292, 3) := by decide +kernel
theorem dX6_read_13 : decode cX6_read 13 = .ok (.ifCond .eq 14, 3) := by decide +kernel
theorem dX6_read_16 : decode cX6_read 16 = .ok (.iload 4, 2) := by decide +kernel
theorem dX6_read_18 : decode cX6_read 18 = .ok (.iconst 0, 1) := by decide +kernel
theorem dX6_read_19 : decode cX6_read 19 = .ok (.bipush 20, 2) := by decide +kernel
theorem dX6_read_21 : decode cX6_read 21 = .ok (.invokestatic 66, 3) := by decide +kernel
theorem dX6_read_24 : decode cX6_read 24 = .ok (.ifCond .ne 5, 3) := by decide +kernel
theorem dX6_read_27 : decode cX6_read 27 = .ok (.iconst (-1), 1) := by decide +kernel
theorem dX6_read_28 : decode cX6_read 28 = .ok (.ireturn, 1) := by decide +kernel
theorem dX6_read_29 : decode cX6_read 29 = .ok (.aload_n 0, 1) := by decide +kernel
theorem dX6_read_30 : decode cX6_read 30 = .ok (.invokevirtual 177, 3) := by decide +kernel
theorem dX6_read_33 : decode cX6_read 33 = .ok (.astore 5, 2) := by decide +kernel
theorem dX6_read_35 : decode cX6_read 35 = .ok (.iconst 0, 1) := by decide +kernel
theorem dX6_read_36 : decode cX6_read 36 = .ok (.istore 6, 2) := by decide +kernel
theorem dX6_read_38 : decode cX6_read 38 = .ok (.iconst 0, 1) := by decide +kernel
theorem dX6_read_39 : decode cX6_read 39 = .ok (.istore 7, 2) := by decide +kernel
theorem dX6_read_41 : decode cX6_read 41 = .ok (.iconst 0, 1) := by decide +kernel
theorem dX6_read_42 : decode cX6_read 42 = .ok (.istore 8, 2) := by decide +kernel
theorem dX6_read_44 : decode cX6_read 44 = .ok (.iload 8, 2) := by decide +kernel
theorem dX6_read_46 : decode cX6_read 46 = .ok (.iload 4, 2) := by decide +kernel
theorem dX6_read_48 : decode cX6_read 48 = .ok (.if_icmp .ge 86, 3) := by decide +kernel
theorem dX6_read_51 : decode cX6_read 51 = .ok (.iload 6, 2) := by decide +kernel
theorem dX6_read_53 : decode cX6_read 53 = .ok (.ifCond .ne 81, 3) := by decide +kernel
theorem dX6_read_56 : decode cX6_read 56 = .ok (.iload_n 3, 1) := by decide +kernel
theorem dX6_read_57 : decode cX6_read 57 = .ok (.i2l, 1) := by decide +kernel
theorem dX6_read_58 : decode cX6_read 58 = .ok (.ldc2_w 308, 3) := by decide +kernel
theorem dX6_read_61 : decode cX6_read 61 = .ok (.iload 8, 2) := by decide +kernel
theorem dX6_read_63 : decode cX6_read 63 = .ok (.i2l, 1) := by decide +kernel
theorem dX6_read_64 : decode cX6_read 64 = .ok (.lmul, 1) := by decide +kernel
theorem dX6_read_65 : decode cX6_read 65 = .ok (.ladd, 1) := by decide +kernel
theorem dX6_read_66 : decode cX6_read 66 = .ok (.lstore 9, 2) := by decide +kernel
theorem dX6_read_68 : decode cX6_read 68 = .ok (.aload_n 0, 1) := by decide +kernel
theorem dX6_read_69 : decode cX6_read 69 = .ok (.getfield 61, 3) := by decide +kernel
theorem dX6_read_72 : decode cX6_read 72 = .ok (.iload_n 1, 1) := by decide +kernel
theorem dX6_read_73 : decode cX6_read 73 = .ok (.aaload, 1) := by decide +kernel
theorem dX6_read_74 : decode cX6_read 74 = .ok (.iload_n 2, 1) := by decide +kernel
theorem dX6_read_75 : decode cX6_read 75 = .ok (.lload 9, 2) := by decide +kernel
theorem dX6_read_77 : decode cX6_read 77 = .ok (.invokevirtual 310, 3) := by decide +kernel
theorem dX6_read_80 : decode cX6_read 80 = .ok (.istore 6, 2) := by decide +kernel
theorem dX6_read_82 : decode cX6_read 82 = .ok (.iload 6, 2) := by decide +kernel
theorem dX6_read_84 : decode cX6_read 84 = .ok (.ifCond .ne 44, 3) := by decide +kernel
theorem dX6_read_87 : decode cX6_read 87 = .ok (.aload 5, 2) := by decide +kernel
theorem dX6_read_89 : decode cX6_read 89 = .ok (.aload_n 0, 1) := by decide +kernel
theorem dX6_read_90 : decode cX6_read 90 = .ok (.getfield 61, 3) := by decide +kernel
theorem dX6_read_93 : decode cX6_read 93 = .ok (.iload_n 1, 1) := by decide +kernel
theorem dX6_read_94 : decode cX6_read 94 = .ok (.aaload, 1) := by decide +kernel
theorem dX6_read_95 : decode cX6_read 95 = .ok (.lload 9, 2) := by decide +kernel
theorem dX6_read_97 : decode cX6_read 97 = .ok (.invokevirtual 313, 3) := by decide +kernel
theorem dX6_read_100 : decode cX6_read 100 = .ok (.aload_n 0, 1) := by decide +kernel
theorem dX6_read_101 : decode cX6_read 101 = .ok (.getfield 61, 3) := by decide +kernel
theorem dX6_read_104 : decode cX6_read 104 = .ok (.iload_n 1, 1) := by decide +kernel
theorem dX6_read_105 : decode cX6_read 105 = .ok (.aaload, 1) := by decide +kernel
theorem dX6_read_106 : decode cX6_read 106 = .ok (.lload 9, 2) := by decide +kernel
theorem dX6_read_108 : decode cX6_read 108 = .ok (.lconst 1, 1) := by decide +kernel
theorem dX6_read_109 : decode cX6_read 109 = .ok (.ladd, 1) := by decide +kernel
theorem dX6_read_110 : decode cX6_read 110 = .ok (.invokevirtual 313, 3) := by decide +kernel
theorem dX6_read_113 : decode cX6_read 113 = .ok (.invokestatic 164, 3) := by decide +kernel
theorem dX6_read_116 : decode cX6_read 116 = .ok (.ifCond .ge 9, 3) := by decide +kernel
theorem dX6_read_119 : decode cX6_read 119 = .ok (.bipush (-20), 2) := by decide +kernel
theorem dX6_read_121 : decode cX6_read 121 = .ok (.iload 8, 2) := by decide +kernel
theorem dX6_read_123 : decode cX6_read 123 = .ok (.isub, 1) := by decide +kernel
theorem dX6_read_124 : decode cX6_read 124 = .ok (.ireturn, 1) := by decide +kernel
theorem dX6_read_125 : decode cX6_read 125 = .ok (.iinc 7 1, 3) := by decide +kernel
theorem dX6_read_128 : decode cX6_read 128 = .ok (.iinc 8 1, 3) := by decide +kernel
theorem dX6_read_131 : decode cX6_read 131 = .ok (.goto (-87), 3) := by decide +kernel
theorem dX6_read_134 : decode cX6_read 134 = .ok (.aload_n 0, 1) := by decide +kernel
theorem dX6_read_135 : decode cX6_read 135 = .ok (.getfield 10, 3) := by decide +kernel
theorem dX6_read_138 : decode cX6_read 138 = .ok (.aload 5, 2) := by decide +kernel
theorem dX6_read_140 : decode cX6_read 140 = .ok (.invokevirtual 93, 3) := by decide +kernel
theorem dX6_read_143 : decode cX6_read 143 = .ok (.aload_n 0, 1) := by decide +kernel
theorem dX6_read_144 : decode cX6_read 144 = .ok (.iload 6, 2) := by decide +kernel
theorem dX6_read_146 : decode cX6_read 146 = .ok (.putfield 317, 3) := by decide +kernel
theorem dX6_read_149 : decode cX6_read 149 = .ok (.iload 7, 2) := by decide +kernel
theorem dX6_read_151 : decode cX6_read 151 = .ok (.ireturn, 1) := by decide +kernel
theorem dX6_isLane_0 : decode cX6_isLane 0 = .ok (.iload_n 0, 1) := by decide +kernel
theorem dX6_isLane_1 : decode cX6_isLane 1 = .ok (.iconst 0, 1) := by decide +kernel
theorem dX6_isLane_2 : decode cX6_isLane 2 = .ok (.iconst 2, 1) := by decide +kernel
theorem dX6_isLane_3 : decode cX6_isLane 3 = .ok (.invokestatic 66, 3) := by decide +kernel
theorem dX6_isLane_6 : decode cX6_isLane 6 = .ok (.ireturn, 1) := by decide +kernel
theorem dX6_torn_0 : decode cX6_torn 0 = .ok (.aload_n 0, 1) := by decide +kernel
theorem dX6_torn_1 : decode cX6_torn 1 = .ok (.getfield 317, 3) := by decide +kernel
theorem dX6_torn_4 : decode cX6_torn 4 = .ok (.ireturn, 1) := by decide +kernel
theorem dX6_count_0 : decode cX6_count 0 = .ok (.iload_n 1, 1) := by decide +kernel
theorem dX6_count_1 : decode cX6_count 1 = .ok (.tableswitch 129 0 5 #[39, 47, 77, 85, 112, 121], 39) := by decide +kernel
theorem dX6_count_40 : decode cX6_count 40 = .ok (.aload_n 0, 1) := by decide +kernel
theorem dX6_count_41 : decode cX6_count 41 = .ok (.getfield 47, 3) := by decide +kernel
theorem dX6_count_44 : decode cX6_count 44 = .ok (.getfield 97, 3) := by decide +kernel
theorem dX6_count_47 : decode cX6_count 47 = .ok (.ireturn, 1) := by decide +kernel
theorem dX6_count_48 : decode cX6_count 48 = .ok (.aload_n 0, 1) := by decide +kernel
theorem dX6_count_49 : decode cX6_count 49 = .ok (.getfield 26, 3) := by decide +kernel
theorem dX6_count_52 : decode cX6_count 52 = .ok (.iconst 0, 1) := by decide +kernel
theorem dX6_count_53 : decode cX6_count 53 = .ok (.baload, 1) := by decide +kernel
theorem dX6_count_54 : decode cX6_count 54 = .ok (.ifCond .eq 7, 3) := by decide +kernel
theorem dX6_count_57 : decode cX6_count 57 = .ok (.iconst 1, 1) := by decide +kernel
theorem dX6_count_58 : decode cX6_count 58 = .ok (.goto 4, 3) := by decide +kernel
theorem dX6_count_61 : decode cX6_count 61 = .ok (.iconst 0, 1) := by decide +kernel
theorem dX6_count_62 : decode cX6_count 62 = .ok (.aload_n 0, 1) := by decide +kernel
theorem dX6_count_63 : decode cX6_count 63 = .ok (.getfield 26, 3) := by decide +kernel
theorem dX6_count_66 : decode cX6_count 66 = .ok (.iconst 1, 1) := by decide +kernel
theorem dX6_count_67 : decode cX6_count 67 = .ok (.baload, 1) := by decide +kernel
theorem dX6_count_68 : decode cX6_count 68 = .ok (.ifCond .eq 7, 3) := by decide +kernel
theorem dX6_count_71 : decode cX6_count 71 = .ok (.iconst 1, 1) := by decide +kernel
theorem dX6_count_72 : decode cX6_count 72 = .ok (.goto 4, 3) := by decide +kernel
theorem dX6_count_75 : decode cX6_count 75 = .ok (.iconst 0, 1) := by decide +kernel
theorem dX6_count_76 : decode cX6_count 76 = .ok (.iadd, 1) := by decide +kernel
theorem dX6_count_77 : decode cX6_count 77 = .ok (.ireturn, 1) := by decide +kernel
theorem dX6_count_78 : decode cX6_count 78 = .ok (.aload_n 0, 1) := by decide +kernel
theorem dX6_count_79 : decode cX6_count 79 = .ok (.getfield 41, 3) := by decide +kernel
theorem dX6_count_82 : decode cX6_count 82 = .ok (.getfield 76, 3) := by decide +kernel
theorem dX6_count_85 : decode cX6_count 85 = .ok (.ireturn, 1) := by decide +kernel
theorem dX6_count_86 : decode cX6_count 86 = .ok (.aload_n 0, 1) := by decide +kernel
theorem dX6_count_87 : decode cX6_count 87 = .ok (.getfield 61, 3) := by decide +kernel
theorem dX6_count_90 : decode cX6_count 90 = .ok (.iconst 0, 1) := by decide +kernel
theorem dX6_count_91 : decode cX6_count 91 = .ok (.aaload, 1) := by decide +kernel
theorem dX6_count_92 : decode cX6_count 92 = .ok (.getfield 320, 3) := by decide +kernel
theorem dX6_count_95 : decode cX6_count 95 = .ok (.ifCond .ge 8, 3) := by decide +kernel
theorem dX6_count_98 : decode cX6_count 98 = .ok (.bipush (-4), 2) := by decide +kernel
theorem dX6_count_100 : decode cX6_count 100 = .ok (.goto 12, 3) := by decide +kernel
theorem dX6_count_103 : decode cX6_count 103 = .ok (.aload_n 0, 1) := by decide +kernel
theorem dX6_count_104 : decode cX6_count 104 = .ok (.getfield 61, 3) := by decide +kernel
theorem dX6_count_107 : decode cX6_count 107 = .ok (.iconst 0, 1) := by decide +kernel
theorem dX6_count_108 : decode cX6_count 108 = .ok (.aaload, 1) := by decide +kernel
theorem dX6_count_109 : decode cX6_count 109 = .ok (.getfield 320, 3) := by decide +kernel
theorem dX6_count_112 : decode cX6_count 112 = .ok (.ireturn, 1) := by decide +kernel
theorem dX6_count_113 : decode cX6_count 113 = .ok (.aload_n 0, 1) := by decide +kernel
theorem dX6_count_114 : decode cX6_count 114 = .ok (.getfield 10, 3) := by decide +kernel
theorem dX6_count_117 : decode cX6_count 117 = .ok (.iconst 1, 1) := by decide +kernel
theorem dX6_count_118 : decode cX6_count 118 = .ok (.invokevirtual 115, 3) := by decide +kernel
theorem dX6_count_121 : decode cX6_count 121 = .ok (.ireturn, 1) := by decide +kernel
theorem dX6_count_122 : decode cX6_count 122 = .ok (.aload_n 0, 1) := by decide +kernel
theorem dX6_count_123 : decode cX6_count 123 = .ok (.getfield 10, 3) := by decide +kernel
theorem dX6_count_126 : decode cX6_count 126 = .ok (.invokevirtual 323, 3) := by decide +kernel
theorem dX6_count_129 : decode cX6_count 129 = .ok (.ireturn, 1) := by decide +kernel
theorem dX6_count_130 : decode cX6_count 130 = .ok (.iconst (-1), 1) := by decide +kernel
theorem dX6_count_131 : decode cX6_count 131 = .ok (.ireturn, 1) := by decide +kernel
theorem dX6_afresh_0 : decode cX6_afresh 0 = .ok (.aload_n 0, 1) := by decide +kernel
theorem dX6_afresh_1 : decode cX6_afresh 1 = .ok (.getfield 16, 3) := by decide +kernel
theorem dX6_afresh_4 : decode cX6_afresh 4 = .ok (.aload_n 0, 1) := by decide +kernel
theorem dX6_afresh_5 : decode cX6_afresh 5 = .ok (.getfield 10, 3) := by decide +kernel
theorem dX6_afresh_8 : decode cX6_afresh 8 = .ok (.invokevirtual 93, 3) := by decide +kernel
theorem dX6_afresh_11 : decode cX6_afresh 11 = .ok (.aload_n 0, 1) := by decide +kernel
theorem dX6_afresh_12 : decode cX6_afresh 12 = .ok (.getfield 16, 3) := by decide +kernel
theorem dX6_afresh_15 : decode cX6_afresh 15 = .ok (.areturn, 1) := by decide +kernel
theorem dX6_within_0 : decode cX6_within 0 = .ok (.iload_n 0, 1) := by decide +kernel
theorem dX6_within_1 : decode cX6_within 1 = .ok (.iload_n 1, 1) := by decide +kernel
theorem dX6_within_2 : decode cX6_within 2 = .ok (.if_icmp .lt 12, 3) := by decide +kernel
theorem dX6_within_5 : decode cX6_within 5 = .ok (.iload_n 0, 1) := by decide +kernel
theorem dX6_within_6 : decode cX6_within 6 = .ok (.iload_n 2, 1) := by decide +kernel
theorem dX6_within_7 : decode cX6_within 7 = .ok (.if_icmp .gt 7, 3) := by decide +kernel
theorem dX6_within_10 : decode cX6_within 10 = .ok (.iconst 1, 1) := by decide +kernel
theorem dX6_within_11 : decode cX6_within 11 = .ok (.goto 4, 3) := by decide +kernel
theorem dX6_within_14 : decode cX6_within 14 = .ok (.iconst 0, 1) := by decide +kernel
theorem dX6_within_15 : decode cX6_within 15 = .ok (.ireturn, 1) := by decide +kernel
theorem dX6_isAhead_0 : decode cX6_isAhead 0 = .ok (.iload_n 0, 1) := by decide +kernel
theorem dX6_isAhead_1 : decode cX6_isAhead 1 = .ok (.iconst 0, 1) := by decide +kernel
theorem dX6_isAhead_2 : decode cX6_isAhead 2 = .ok (.sipush 200, 3) := by decide +kernel
theorem dX6_isAhead_5 : decode cX6_isAhead 5 = .ok (.invokestatic 66, 3) := by decide +kernel
theorem dX6_isAhead_8 : decode cX6_isAhead 8 = .ok (.ireturn, 1) := by decide +kernel
theorem dX6_bit_0 : decode cX6_bit 0 = .ok (.iload_n 0, 1) := by decide +kernel
theorem dX6_bit_1 : decode cX6_bit 1 = .ok (.iload_n 1, 1) := by decide +kernel
theorem dX6_bit_2 : decode cX6_bit 2 = .ok (.iushr, 1) := by decide +kernel
theorem dX6_bit_3 : decode cX6_bit 3 = .ok (.iconst 1, 1) := by decide +kernel
theorem dX6_bit_4 : decode cX6_bit 4 = .ok (.iand, 1) := by decide +kernel
theorem dX6_bit_5 : decode cX6_bit 5 = .ok (.ireturn, 1) := by decide +kernel
theorem dJ0_length_8abf5_0 : decode cJ0_length_8abf5 0 = .ok (.aload_n 0, 1) := by decide +kernel
theorem dJ0_length_8abf5_1 : decode cJ0_length_8abf5 1 = .ok (.getfield 9, 3) := by decide +kernel
theorem dJ0_length_8abf5_4 : decode cJ0_length_8abf5 4 = .ok (.arraylength, 1) := by decide +kernel
theorem dJ0_length_8abf5_5 : decode cJ0_length_8abf5 5 = .ok (.aload_n 0, 1) := by decide +kernel
theorem dJ0_length_8abf5_6 : decode cJ0_length_8abf5 6 = .ok (.invokevirtual 335, 3) := by decide +kernel
theorem dJ0_length_8abf5_9 : decode cJ0_length_8abf5 9 = .ok (.ishr, 1) := by decide +kernel
theorem dJ0_length_8abf5_10 : decode cJ0_length_8abf5 10 = .ok (.ireturn, 1) := by decide +kernel
theorem dJ0_charAt_5068e_0 : decode cJ0_charAt_5068e 0 = .ok (.aload_n 0, 1) := by decide +kernel
theorem dJ0_charAt_5068e_1 : decode cJ0_charAt_5068e 1 = .ok (.invokevirtual 492, 3) := by decide +kernel
theorem dJ0_charAt_5068e_4 : decode cJ0_charAt_5068e 4 = .ok (.ifCond .eq 12, 3) := by decide +kernel
theorem dJ0_charAt_5068e_7 : decode cJ0_charAt_5068e 7 = .ok (.aload_n 0, 1) := by decide +kernel
theorem dJ0_charAt_5068e_8 : decode cJ0_charAt_5068e 8 = .ok (.getfield 9, 3) := by decide +kernel
theorem dJ0_charAt_5068e_11 : decode cJ0_charAt_5068e 11 = .ok (.iload_n 1, 1) := by decide +kernel
theorem dJ0_charAt_5068e_12 : decode cJ0_charAt_5068e 12 = .ok (.invokestatic 495, 3) := by decide +kernel
theorem dJ0_charAt_5068e_15 : decode cJ0_charAt_5068e 15 = .ok (.ireturn, 1) := by decide +kernel
theorem dJ0_charAt_5068e_16 : decode cJ0_charAt_5068e 16 = .ok (.aload_n 0, 1) := by decide +kernel
theorem dJ0_charAt_5068e_17 : decode cJ0_charAt_5068e 17 = .ok (.getfield 9, 3) := by decide +kernel
theorem dJ0_charAt_5068e_20 : decode cJ0_charAt_5068e 20 = .ok (.iload_n 1, 1) := by decide +kernel
theorem dJ0_charAt_5068e_21 : decode cJ0_charAt_5068e 21 = .ok (.invokestatic 498, 3) := by decide +kernel
theorem dJ0_charAt_5068e_24 : decode cJ0_charAt_5068e 24 = .ok (.ireturn, 1) := by decide +kernel
theorem dJ0_coder_7d493_0 : decode cJ0_coder_7d493 0 = .ok (.getstatic 38, 3) := by decide +kernel
theorem dJ0_coder_7d493_3 : decode cJ0_coder_7d493 3 = .ok (.ifCond .eq 10, 3) := by decide +kernel
theorem dJ0_coder_7d493_6 : decode cJ0_coder_7d493 6 = .ok (.aload_n 0, 1) := by decide +kernel
theorem dJ0_coder_7d493_7 : decode cJ0_coder_7d493 7 = .ok (.getfield 15, 3) := by decide +kernel
theorem dJ0_coder_7d493_10 : decode cJ0_coder_7d493 10 = .ok (.goto 4, 3) := by decide +kernel
theorem dJ0_coder_7d493_13 : decode cJ0_coder_7d493 13 = .ok (.iconst 1, 1) := by decide +kernel
theorem dJ0_coder_7d493_14 : decode cJ0_coder_7d493 14 = .ok (.ireturn, 1) := by decide +kernel
theorem dJ0_isLatin1_aae02_0 : decode cJ0_isLatin1_aae02 0 = .ok (.getstatic 38, 3) := by decide +kernel
theorem dJ0_isLatin1_aae02_3 : decode cJ0_isLatin1_aae02 3 = .ok (.ifCond .eq 14, 3) := by decide +kernel
theorem dJ0_isLatin1_aae02_6 : decode cJ0_isLatin1_aae02 6 = .ok (.aload_n 0, 1) := by decide +kernel
theorem dJ0_isLatin1_aae02_7 : decode cJ0_isLatin1_aae02 7 = .ok (.getfield 15, 3) := by decide +kernel
theorem dJ0_isLatin1_aae02_10 : decode cJ0_isLatin1_aae02 10 = .ok (.ifCond .ne 7, 3) := by decide +kernel
theorem dJ0_isLatin1_aae02_13 : decode cJ0_isLatin1_aae02 13 = .ok (.iconst 1, 1) := by decide +kernel
theorem dJ0_isLatin1_aae02_14 : decode cJ0_isLatin1_aae02 14 = .ok (.goto 4, 3) := by decide +kernel
theorem dJ0_isLatin1_aae02_17 : decode cJ0_isLatin1_aae02 17 = .ok (.iconst 0, 1) := by decide +kernel
theorem dJ0_isLatin1_aae02_18 : decode cJ0_isLatin1_aae02 18 = .ok (.ireturn, 1) := by decide +kernel
theorem dJ0_checkIndex_df160_0 : decode cJ0_checkIndex_df160 0 = .ok (.iload_n 0, 1) := by decide +kernel
theorem dJ0_checkIndex_df160_1 : decode cJ0_checkIndex_df160 1 = .ok (.iload_n 1, 1) := by decide +kernel
theorem dJ0_checkIndex_df160_2 : decode cJ0_checkIndex_df160 2 = .ok (.getstatic 1053, 3) := by decide +kernel
theorem dJ0_checkIndex_df160_5 : decode cJ0_checkIndex_df160 5 = .ok (.invokestatic 1059, 3) := by decide +kernel
theorem dJ0_checkIndex_df160_8 : decode cJ0_checkIndex_df160 8 = .ok (.pop, 1) := by decide +kernel
theorem dJ0_checkIndex_df160_9 : decode cJ0_checkIndex_df160 9 = .ok (.return_, 1) := by decide +kernel
theorem dJ1_charAt_3b067_0 : decode cJ1_charAt_3b067 0 = .ok (.iload_n 1, 1) := by decide +kernel
theorem dJ1_charAt_3b067_1 : decode cJ1_charAt_3b067 1 = .ok (.aload_n 0, 1) := by decide +kernel
theorem dJ1_charAt_3b067_2 : decode cJ1_charAt_3b067 2 = .ok (.arraylength, 1) := by decide +kernel
theorem dJ1_charAt_3b067_3 : decode cJ1_charAt_3b067 3 = .ok (.invokestatic 9, 3) := by decide +kernel
theorem dJ1_charAt_3b067_6 : decode cJ1_charAt_3b067 6 = .ok (.aload_n 0, 1) := by decide +kernel
theorem dJ1_charAt_3b067_7 : decode cJ1_charAt_3b067 7 = .ok (.iload_n 1, 1) := by decide +kernel
theorem dJ1_charAt_3b067_8 : decode cJ1_charAt_3b067 8 = .ok (.baload, 1) := by decide +kernel
theorem dJ1_charAt_3b067_9 : decode cJ1_charAt_3b067 9 = .ok (.sipush 255, 3) := by decide +kernel
theorem dJ1_charAt_3b067_12 : decode cJ1_charAt_3b067 12 = .ok (.iand, 1) := by decide +kernel
theorem dJ1_charAt_3b067_13 : decode cJ1_charAt_3b067 13 = .ok (.i2c, 1) := by decide +kernel
theorem dJ1_charAt_3b067_14 : decode cJ1_charAt_3b067 14 = .ok (.ireturn, 1) := by decide +kernel
theorem dJ2_getChar_3b067_0 : decode cJ2_getChar_3b067 0 = .ok (.getstatic 44, 3) := by decide +kernel
theorem dJ2_getChar_3b067_3 : decode cJ2_getChar_3b067 3 = .ok (.ifCond .ne 25, 3) := by decide +kernel
theorem dJ2_getChar_3b067_6 : decode cJ2_getChar_3b067 6 = .ok (.iload_n 1, 1) := by decide +kernel
theorem dJ2_getChar_3b067_7 : decode cJ2_getChar_3b067 7 = .ok (.ifCond .lt 11, 3) := by decide +kernel
theorem dJ2_getChar_3b067_10 : decode cJ2_getChar_3b067 10 = .ok (.iload_n 1, 1) := by decide +kernel
theorem dJ2_getChar_3b067_11 : decode cJ2_getChar_3b067 11 = .ok (.aload_n 0, 1) := by decide +kernel
theorem dJ2_getChar_3b067_12 : decode cJ2_getChar_3b067 12 = .ok (.invokestatic 48, 3) := by decide +kernel
theorem dJ2_getChar_3b067_15 : decode cJ2_getChar_3b067 15 = .ok (.if_icmp .lt 13, 3) := by decide +kernel
theorem dJ2_getChar_3b067_18 : decode cJ2_getChar_3b067 18 = .ok (.new 52, 3) := by decide +kernel
theorem dJ2_getChar_3b067_21 : decode cJ2_getChar_3b067 21 = .ok (.dup, 1) := by decide +kernel
theorem dJ2_getChar_3b067_22 : decode cJ2_getChar_3b067 22 = .ok (.ldc 54, 2) := by decide +kernel
theorem dJ2_getChar_3b067_24 : decode cJ2_getChar_3b067 24 = .ok (.invokespecial 56, 3) := by decide +kernel
theorem dJ2_getChar_3b067_27 : decode cJ2_getChar_3b067 27 = .ok (.athrow, 1) := by decide +kernel
theorem dJ2_getChar_3b067_28 : decode cJ2_getChar_3b067 28 = .ok (.iload_n 1, 1) := by decide +kernel
theorem dJ2_getChar_3b067_29 : decode cJ2_getChar_3b067 29 = .ok (.iconst 1, 1) := by decide +kernel
theorem dJ2_getChar_3b067_30 : decode cJ2_getChar_3b067 30 = .ok (.ishl, 1) := by decide +kernel
theorem dJ2_getChar_3b067_31 : decode cJ2_getChar_3b067 31 = .ok (.istore_n 1, 1) := by decide +kernel
theorem dJ2_getChar_3b067_32 : decode cJ2_getChar_3b067 32 = .ok (.aload_n 0, 1) := by decide +kernel
theorem dJ2_getChar_3b067_33 : decode cJ2_getChar_3b067 33 = .ok (.iload_n 1, 1) := by decide +kernel
theorem dJ2_getChar_3b067_34 : decode cJ2_getChar_3b067 34 = .ok (.iinc 1 1, 3) := by decide +kernel
theorem dJ2_getChar_3b067_37 : decode cJ2_getChar_3b067 37 = .ok (.baload, 1) := by decide +kernel
theorem dJ2_getChar_3b067_38 : decode cJ2_getChar_3b067 38 = .ok (.sipush 255, 3) := by decide +kernel
theorem dJ2_getChar_3b067_41 : decode cJ2_getChar_3b067 41 = .ok (.iand, 1) := by decide +kernel
theorem dJ2_getChar_3b067_42 : decode cJ2_getChar_3b067 42 = .ok (.getstatic 59, 3) := by decide +kernel
theorem dJ2_getChar_3b067_45 : decode cJ2_getChar_3b067 45 = .ok (.ishl, 1) := by decide +kernel
theorem dJ2_getChar_3b067_46 : decode cJ2_getChar_3b067 46 = .ok (.aload_n 0, 1) := by decide +kernel
theorem dJ2_getChar_3b067_47 : decode cJ2_getChar_3b067 47 = .ok (.iload_n 1, 1) := by decide +kernel
theorem dJ2_getChar_3b067_48 : decode cJ2_getChar_3b067 48 = .ok (.baload, 1) := by decide +kernel
theorem dJ2_getChar_3b067_49 : decode cJ2_getChar_3b067 49 = .ok (.sipush 255, 3) := by decide +kernel
theorem dJ2_getChar_3b067_52 : decode cJ2_getChar_3b067 52 = .ok (.iand, 1) := by decide +kernel
theorem dJ2_getChar_3b067_53 : decode cJ2_getChar_3b067 53 = .ok (.getstatic 63, 3) := by decide +kernel
theorem dJ2_getChar_3b067_56 : decode cJ2_getChar_3b067 56 = .ok (.ishl, 1) := by decide +kernel
theorem dJ2_getChar_3b067_57 : decode cJ2_getChar_3b067 57 = .ok (.ior, 1) := by decide +kernel
theorem dJ2_getChar_3b067_58 : decode cJ2_getChar_3b067 58 = .ok (.i2c, 1) := by decide +kernel
theorem dJ2_getChar_3b067_59 : decode cJ2_getChar_3b067 59 = .ok (.ireturn, 1) := by decide +kernel
theorem dJ2_length_9d52b_0 : decode cJ2_length_9d52b 0 = .ok (.aload_n 0, 1) := by decide +kernel
theorem dJ2_length_9d52b_1 : decode cJ2_length_9d52b 1 = .ok (.arraylength, 1) := by decide +kernel
theorem dJ2_length_9d52b_2 : decode cJ2_length_9d52b 2 = .ok (.iconst 1, 1) := by decide +kernel
theorem dJ2_length_9d52b_3 : decode cJ2_length_9d52b 3 = .ok (.ishr, 1) := by decide +kernel
theorem dJ2_length_9d52b_4 : decode cJ2_length_9d52b 4 = .ok (.ireturn, 1) := by decide +kernel
theorem dJ2_charAt_3b067_0 : decode cJ2_charAt_3b067 0 = .ok (.iload_n 1, 1) := by decide +kernel
theorem dJ2_charAt_3b067_1 : decode cJ2_charAt_3b067 1 = .ok (.aload_n 0, 1) := by decide +kernel
theorem dJ2_charAt_3b067_2 : decode cJ2_charAt_3b067 2 = .ok (.invokestatic 67, 3) := by decide +kernel
theorem dJ2_charAt_3b067_5 : decode cJ2_charAt_3b067 5 = .ok (.aload_n 0, 1) := by decide +kernel
theorem dJ2_charAt_3b067_6 : decode cJ2_charAt_3b067 6 = .ok (.iload_n 1, 1) := by decide +kernel
theorem dJ2_charAt_3b067_7 : decode cJ2_charAt_3b067 7 = .ok (.invokestatic 71, 3) := by decide +kernel
theorem dJ2_charAt_3b067_10 : decode cJ2_charAt_3b067 10 = .ok (.ireturn, 1) := by decide +kernel
theorem dJ2_checkIndex_2214a_0 : decode cJ2_checkIndex_2214a 0 = .ok (.iload_n 0, 1) := by decide +kernel
theorem dJ2_checkIndex_2214a_1 : decode cJ2_checkIndex_2214a 1 = .ok (.aload_n 1, 1) := by decide +kernel
theorem dJ2_checkIndex_2214a_2 : decode cJ2_checkIndex_2214a 2 = .ok (.invokestatic 48, 3) := by decide +kernel
theorem dJ2_checkIndex_2214a_5 : decode cJ2_checkIndex_2214a 5 = .ok (.invokestatic 414, 3) := by decide +kernel
theorem dJ2_checkIndex_2214a_8 : decode cJ2_checkIndex_2214a 8 = .ok (.return_, 1) := by decide +kernel
theorem dJ3_checkIndex_8e157_0 : decode cJ3_checkIndex_8e157 0 = .ok (.iload_n 0, 1) := by decide +kernel
theorem dJ3_checkIndex_8e157_1 : decode cJ3_checkIndex_8e157 1 = .ok (.ifCond .lt 8, 3) := by decide +kernel
theorem dJ3_checkIndex_8e157_4 : decode cJ3_checkIndex_8e157 4 = .ok (.iload_n 0, 1) := by decide +kernel
theorem dJ3_checkIndex_8e157_5 : decode cJ3_checkIndex_8e157 5 = .ok (.iload_n 1, 1) := by decide +kernel
theorem dJ3_checkIndex_8e157_6 : decode cJ3_checkIndex_8e157 6 = .ok (.if_icmp .lt 10, 3) := by decide +kernel
theorem dJ3_checkIndex_8e157_9 : decode cJ3_checkIndex_8e157 9 = .ok (.aload_n 2, 1) := by decide +kernel
theorem dJ3_checkIndex_8e157_10 : decode cJ3_checkIndex_8e157 10 = .ok (.iload_n 0, 1) := by decide +kernel
theorem dJ3_checkIndex_8e157_11 : decode cJ3_checkIndex_8e157 11 = .ok (.iload_n 1, 1) := by decide +kernel
theorem dJ3_checkIndex_8e157_12 : decode cJ3_checkIndex_8e157 12 = .ok (.invokestatic 95, 3) := by decide +kernel
theorem dJ3_checkIndex_8e157_15 : decode cJ3_checkIndex_8e157 15 = .ok (.athrow, 1) := by decide +kernel
theorem dJ3_checkIndex_8e157_16 : decode cJ3_checkIndex_8e157 16 = .ok (.iload_n 0, 1) := by decide +kernel
theorem dJ3_checkIndex_8e157_17 : decode cJ3_checkIndex_8e157 17 = .ok (.ireturn, 1) := by decide +kernel
theorem dJ6_bitCount_0f7a4_0 : decode cJ6_bitCount_0f7a4 0 = .ok (.iload_n 0, 1) := by decide +kernel
theorem dJ6_bitCount_0f7a4_1 : decode cJ6_bitCount_0f7a4 1 = .ok (.iload_n 0, 1) := by decide +kernel
theorem dJ6_bitCount_0f7a4_2 : decode cJ6_bitCount_0f7a4 2 = .ok (.iconst 1, 1) := by decide +kernel
theorem dJ6_bitCount_0f7a4_3 : decode cJ6_bitCount_0f7a4 3 = .ok (.iushr, 1) := by decide +kernel
theorem dJ6_bitCount_0f7a4_4 : decode cJ6_bitCount_0f7a4 4 = .ok (.ldc_w 265, 3) := by decide +kernel
theorem dJ6_bitCount_0f7a4_7 : decode cJ6_bitCount_0f7a4 7 = .ok (.iand, 1) := by decide +kernel
theorem dJ6_bitCount_0f7a4_8 : decode cJ6_bitCount_0f7a4 8 = .ok (.isub, 1) := by decide +kernel
theorem dJ6_bitCount_0f7a4_9 : decode cJ6_bitCount_0f7a4 9 = .ok (.istore_n 0, 1) := by decide +kernel
theorem dJ6_bitCount_0f7a4_10 : decode cJ6_bitCount_0f7a4 10 = .ok (.iload_n 0, 1) := by decide +kernel
theorem dJ6_bitCount_0f7a4_11 : decode cJ6_bitCount_0f7a4 11 = .ok (.ldc_w 266, 3) := by decide +kernel
theorem dJ6_bitCount_0f7a4_14 : decode cJ6_bitCount_0f7a4 14 = .ok (.iand, 1) := by decide +kernel
theorem dJ6_bitCount_0f7a4_15 : decode cJ6_bitCount_0f7a4 15 = .ok (.iload_n 0, 1) := by decide +kernel
theorem dJ6_bitCount_0f7a4_16 : decode cJ6_bitCount_0f7a4 16 = .ok (.iconst 2, 1) := by decide +kernel
theorem dJ6_bitCount_0f7a4_17 : decode cJ6_bitCount_0f7a4 17 = .ok (.iushr, 1) := by decide +kernel
theorem dJ6_bitCount_0f7a4_18 : decode cJ6_bitCount_0f7a4 18 = .ok (.ldc_w 266, 3) := by decide +kernel
theorem dJ6_bitCount_0f7a4_21 : decode cJ6_bitCount_0f7a4 21 = .ok (.iand, 1) := by decide +kernel
theorem dJ6_bitCount_0f7a4_22 : decode cJ6_bitCount_0f7a4 22 = .ok (.iadd, 1) := by decide +kernel
theorem dJ6_bitCount_0f7a4_23 : decode cJ6_bitCount_0f7a4 23 = .ok (.istore_n 0, 1) := by decide +kernel
theorem dJ6_bitCount_0f7a4_24 : decode cJ6_bitCount_0f7a4 24 = .ok (.iload_n 0, 1) := by decide +kernel
theorem dJ6_bitCount_0f7a4_25 : decode cJ6_bitCount_0f7a4 25 = .ok (.iload_n 0, 1) := by decide +kernel
theorem dJ6_bitCount_0f7a4_26 : decode cJ6_bitCount_0f7a4 26 = .ok (.iconst 4, 1) := by decide +kernel
theorem dJ6_bitCount_0f7a4_27 : decode cJ6_bitCount_0f7a4 27 = .ok (.iushr, 1) := by decide +kernel
theorem dJ6_bitCount_0f7a4_28 : decode cJ6_bitCount_0f7a4 28 = .ok (.iadd, 1) := by decide +kernel
theorem dJ6_bitCount_0f7a4_29 : decode cJ6_bitCount_0f7a4 29 = .ok (.ldc_w 267, 3) := by decide +kernel
theorem dJ6_bitCount_0f7a4_32 : decode cJ6_bitCount_0f7a4 32 = .ok (.iand, 1) := by decide +kernel
theorem dJ6_bitCount_0f7a4_33 : decode cJ6_bitCount_0f7a4 33 = .ok (.istore_n 0, 1) := by decide +kernel
theorem dJ6_bitCount_0f7a4_34 : decode cJ6_bitCount_0f7a4 34 = .ok (.iload_n 0, 1) := by decide +kernel
theorem dJ6_bitCount_0f7a4_35 : decode cJ6_bitCount_0f7a4 35 = .ok (.iload_n 0, 1) := by decide +kernel
theorem dJ6_bitCount_0f7a4_36 : decode cJ6_bitCount_0f7a4 36 = .ok (.bipush 8, 2) := by decide +kernel
theorem dJ6_bitCount_0f7a4_38 : decode cJ6_bitCount_0f7a4 38 = .ok (.iushr, 1) := by decide +kernel
theorem dJ6_bitCount_0f7a4_39 : decode cJ6_bitCount_0f7a4 39 = .ok (.iadd, 1) := by decide +kernel
theorem dJ6_bitCount_0f7a4_40 : decode cJ6_bitCount_0f7a4 40 = .ok (.istore_n 0, 1) := by decide +kernel
theorem dJ6_bitCount_0f7a4_41 : decode cJ6_bitCount_0f7a4 41 = .ok (.iload_n 0, 1) := by decide +kernel
theorem dJ6_bitCount_0f7a4_42 : decode cJ6_bitCount_0f7a4 42 = .ok (.iload_n 0, 1) := by decide +kernel
theorem dJ6_bitCount_0f7a4_43 : decode cJ6_bitCount_0f7a4 43 = .ok (.bipush 16, 2) := by decide +kernel
theorem dJ6_bitCount_0f7a4_45 : decode cJ6_bitCount_0f7a4 45 = .ok (.iushr, 1) := by decide +kernel
theorem dJ6_bitCount_0f7a4_46 : decode cJ6_bitCount_0f7a4 46 = .ok (.iadd, 1) := by decide +kernel
theorem dJ6_bitCount_0f7a4_47 : decode cJ6_bitCount_0f7a4 47 = .ok (.istore_n 0, 1) := by decide +kernel
theorem dJ6_bitCount_0f7a4_48 : decode cJ6_bitCount_0f7a4 48 = .ok (.iload_n 0, 1) := by decide +kernel
theorem dJ6_bitCount_0f7a4_49 : decode cJ6_bitCount_0f7a4 49 = .ok (.bipush 63, 2) := by decide +kernel
theorem dJ6_bitCount_0f7a4_51 : decode cJ6_bitCount_0f7a4 51 = .ok (.iand, 1) := by decide +kernel
theorem dJ6_bitCount_0f7a4_52 : decode cJ6_bitCount_0f7a4 52 = .ok (.ireturn, 1) := by decide +kernel
theorem dJ9_max_7cf53_0 : decode cJ9_max_7cf53 0 = .ok (.iload_n 0, 1) := by decide +kernel
theorem dJ9_max_7cf53_1 : decode cJ9_max_7cf53 1 = .ok (.iload_n 1, 1) := by decide +kernel
theorem dJ9_max_7cf53_2 : decode cJ9_max_7cf53 2 = .ok (.if_icmp .lt 7, 3) := by decide +kernel
theorem dJ9_max_7cf53_5 : decode cJ9_max_7cf53 5 = .ok (.iload_n 0, 1) := by decide +kernel
theorem dJ9_max_7cf53_6 : decode cJ9_max_7cf53 6 = .ok (.goto 4, 3) := by decide +kernel
theorem dJ9_max_7cf53_9 : decode cJ9_max_7cf53 9 = .ok (.iload_n 1, 1) := by decide +kernel
theorem dJ9_max_7cf53_10 : decode cJ9_max_7cf53 10 = .ok (.ireturn, 1) := by decide +kernel
theorem dJ9_min_7cf53_0 : decode cJ9_min_7cf53 0 = .ok (.iload_n 0, 1) := by decide +kernel
theorem dJ9_min_7cf53_1 : decode cJ9_min_7cf53 1 = .ok (.iload_n 1, 1) := by decide +kernel
theorem dJ9_min_7cf53_2 : decode cJ9_min_7cf53 2 = .ok (.if_icmp .gt 7, 3) := by decide +kernel
theorem dJ9_min_7cf53_5 : decode cJ9_min_7cf53 5 = .ok (.iload_n 0, 1) := by decide +kernel
theorem dJ9_min_7cf53_6 : decode cJ9_min_7cf53 6 = .ok (.goto 4, 3) := by decide +kernel
theorem dJ9_min_7cf53_9 : decode cJ9_min_7cf53 9 = .ok (.iload_n 1, 1) := by decide +kernel
theorem dJ9_min_7cf53_10 : decode cJ9_min_7cf53 10 = .ok (.ireturn, 1) := by decide +kernel
