theorem d_NU_init_0 : decode prog_1_method_1_code 0 = .ok (.aload_n 0, 1) := by decide +kernel
theorem d_NU_init_1 : decode prog_1_method_1_code 1 = .ok (.invokespecial 1, 3) := by decide +kernel
theorem d_NU_init_4 : decode prog_1_method_1_code 4 = .ok (.aload_n 0, 1) := by decide +kernel
theorem d_NU_init_5 : decode prog_1_method_1_code 5 = .ok (.new 7, 3) := by decide +kernel
theorem d_NU_init_8 : decode prog_1_method_1_code 8 = .ok (.dup, 1) := by decide +kernel
theorem d_NU_init_9 : decode prog_1_method_1_code 9 = .ok (.invokespecial 9, 3) := by decide +kernel
theorem d_NU_init_12 : decode prog_1_method_1_code 12 = .ok (.putfield 10, 3) := by decide +kernel
theorem d_NU_init_15 : decode prog_1_method_1_code 15 = .ok (.aload_n 0, 1) := by decide +kernel
theorem d_NU_init_16 : decode prog_1_method_1_code 16 = .ok (.new 16, 3) := by decide +kernel
theorem d_NU_init_19 : decode prog_1_method_1_code 19 = .ok (.dup, 1) := by decide +kernel
theorem d_NU_init_20 : decode prog_1_method_1_code 20 = .ok (.invokespecial 18, 3) := by decide +kernel
theorem d_NU_init_23 : decode prog_1_method_1_code 23 = .ok (.putfield 19, 3) := by decide +kernel
theorem d_NU_init_26 : decode prog_1_method_1_code 26 = .ok (.aload_n 0, 1) := by decide +kernel
theorem d_NU_init_27 : decode prog_1_method_1_code 27 = .ok (.new 23, 3) := by decide +kernel
theorem d_NU_init_30 : decode prog_1_method_1_code 30 = .ok (.dup, 1) := by decide +kernel
theorem d_NU_init_31 : decode prog_1_method_1_code 31 = .ok (.invokespecial 25, 3) := by decide +kernel
theorem d_NU_init_34 : decode prog_1_method_1_code 34 = .ok (.putfield 26, 3) := by decide +kernel
theorem d_NU_init_37 : decode prog_1_method_1_code 37 = .ok (.aload_n 0, 1) := by decide +kernel
theorem d_NU_init_38 : decode prog_1_method_1_code 38 = .ok (.new 30, 3) := by decide +kernel
theorem d_NU_init_41 : decode prog_1_method_1_code 41 = .ok (.dup, 1) := by decide +kernel
theorem d_NU_init_42 : decode prog_1_method_1_code 42 = .ok (.aload_n 0, 1) := by decide +kernel
theorem d_NU_init_43 : decode prog_1_method_1_code 43 = .ok (.getfield 10, 3) := by decide +kernel
theorem d_NU_init_46 : decode prog_1_method_1_code 46 = .ok (.aload_n 0, 1) := by decide +kernel
theorem d_NU_init_47 : decode prog_1_method_1_code 47 = .ok (.getfield 19, 3) := by decide +kernel
theorem d_NU_init_50 : decode prog_1_method_1_code 50 = .ok (.aload_n 0, 1) := by decide +kernel
theorem d_NU_init_51 : decode prog_1_method_1_code 51 = .ok (.getfield 26, 3) := by decide +kernel
theorem d_NU_init_54 : decode prog_1_method_1_code 54 = .ok (.invokespecial 32, 3) := by decide +kernel
theorem d_NU_init_57 : decode prog_1_method_1_code 57 = .ok (.putfield 35, 3) := by decide +kernel
theorem d_NU_init_60 : decode prog_1_method_1_code 60 = .ok (.aload_n 0, 1) := by decide +kernel
theorem d_NU_init_61 : decode prog_1_method_1_code 61 = .ok (.new 39, 3) := by decide +kernel
theorem d_NU_init_64 : decode prog_1_method_1_code 64 = .ok (.dup, 1) := by decide +kernel
theorem d_NU_init_65 : decode prog_1_method_1_code 65 = .ok (.aload_n 0, 1) := by decide +kernel
theorem d_NU_init_66 : decode prog_1_method_1_code 66 = .ok (.getfield 10, 3) := by decide +kernel
theorem d_NU_init_69 : decode prog_1_method_1_code 69 = .ok (.aload_n 0, 1) := by decide +kernel
theorem d_NU_init_70 : decode prog_1_method_1_code 70 = .ok (.getfield 19, 3) := by decide +kernel
theorem d_NU_init_73 : decode prog_1_method_1_code 73 = .ok (.aload_n 0, 1) := by decide +kernel
theorem d_NU_init_74 : decode prog_1_method_1_code 74 = .ok (.getfield 26, 3) := by decide +kernel
theorem d_NU_init_77 : decode prog_1_method_1_code 77 = .ok (.invokespecial 41, 3) := by decide +kernel
theorem d_NU_init_80 : decode prog_1_method_1_code 80 = .ok (.putfield 42, 3) := by decide +kernel
theorem d_NU_init_83 : decode prog_1_method_1_code 83 = .ok (.return_, 1) := by decide +kernel
theorem d_NU_clear_0 : decode prog_1_method_4_code 0 = .ok (.aload_n 0, 1) := by decide +kernel
theorem d_NU_clear_1 : decode prog_1_method_4_code 1 = .ok (.invokevirtual 60, 3) := by decide +kernel
theorem d_NU_clear_4 : decode prog_1_method_4_code 4 = .ok (.aload_n 0, 1) := by decide +kernel
theorem d_NU_clear_5 : decode prog_1_method_4_code 5 = .ok (.getfield 10, 3) := by decide +kernel
theorem d_NU_clear_8 : decode prog_1_method_4_code 8 = .ok (.invokevirtual 70, 3) := by decide +kernel
theorem d_NU_clear_11 : decode prog_1_method_4_code 11 = .ok (.return_, 1) := by decide +kernel
theorem d_NU_concurrent_0 : decode prog_1_method_14_code 0 = .ok (.iload_n 1, 1) := by decide +kernel
theorem d_NU_concurrent_1 : decode prog_1_method_14_code 1 = .ok (.ifCond .lt 29, 3) := by decide +kernel
theorem d_NU_concurrent_4 : decode prog_1_method_14_code 4 = .ok (.iload_n 1, 1) := by decide +kernel
theorem d_NU_concurrent_5 : decode prog_1_method_14_code 5 = .ok (.aload_n 0, 1) := by decide +kernel
theorem d_NU_concurrent_6 : decode prog_1_method_14_code 6 = .ok (.getfield 19, 3) := by decide +kernel
theorem d_NU_concurrent_9 : decode prog_1_method_14_code 9 = .ok (.getfield 104, 3) := by decide +kernel
theorem d_NU_concurrent_12 : decode prog_1_method_14_code 12 = .ok (.if_icmp .ge 18, 3) := by decide +kernel
theorem d_NU_concurrent_15 : decode prog_1_method_14_code 15 = .ok (.iload_n 2, 1) := by decide +kernel
theorem d_NU_concurrent_16 : decode prog_1_method_14_code 16 = .ok (.ifCond .lt 14, 3) := by decide +kernel
theorem d_NU_concurrent_19 : decode prog_1_method_14_code 19 = .ok (.iload_n 2, 1) := by decide +kernel
theorem d_NU_concurrent_20 : decode prog_1_method_14_code 20 = .ok (.aload_n 0, 1) := by decide +kernel
theorem d_NU_concurrent_21 : decode prog_1_method_14_code 21 = .ok (.getfield 19, 3) := by decide +kernel
theorem d_NU_concurrent_24 : decode prog_1_method_14_code 24 = .ok (.getfield 104, 3) := by decide +kernel
theorem d_NU_concurrent_27 : decode prog_1_method_14_code 27 = .ok (.if_icmp .lt 5, 3) := by decide +kernel
theorem d_NU_concurrent_30 : decode prog_1_method_14_code 30 = .ok (.iconst 0, 1) := by decide +kernel
theorem d_NU_concurrent_31 : decode prog_1_method_14_code 31 = .ok (.ireturn, 1) := by decide +kernel
theorem d_NU_concurrent_32 : decode prog_1_method_14_code 32 = .ok (.aload_n 0, 1) := by decide +kernel
theorem d_NU_concurrent_33 : decode prog_1_method_14_code 33 = .ok (.getfield 19, 3) := by decide +kernel
theorem d_NU_concurrent_36 : decode prog_1_method_14_code 36 = .ok (.getfield 140, 3) := by decide +kernel
theorem d_NU_concurrent_39 : decode prog_1_method_14_code 39 = .ok (.iload_n 1, 1) := by decide +kernel
theorem d_NU_concurrent_40 : decode prog_1_method_14_code 40 = .ok (.laload, 1) := by decide +kernel
theorem d_NU_concurrent_41 : decode prog_1_method_14_code 41 = .ok (.iload_n 2, 1) := by decide +kernel
theorem d_NU_concurrent_42 : decode prog_1_method_14_code 42 = .ok (.invokestatic 144, 3) := by decide +kernel
theorem d_NU_concurrent_45 : decode prog_1_method_14_code 45 = .ok (.ireturn, 1) := by decide +kernel
theorem d_NU_condition_0 : decode prog_1_method_13_code 0 = .ok (.iload_n 1, 1) := by decide +kernel
theorem d_NU_condition_1 : decode prog_1_method_13_code 1 = .ok (.ifCond .lt 14, 3) := by decide +kernel
theorem d_NU_condition_4 : decode prog_1_method_13_code 4 = .ok (.iload_n 1, 1) := by decide +kernel
theorem d_NU_condition_5 : decode prog_1_method_13_code 5 = .ok (.aload_n 0, 1) := by decide +kernel
theorem d_NU_condition_6 : decode prog_1_method_13_code 6 = .ok (.getfield 19, 3) := by decide +kernel
theorem d_NU_condition_9 : decode prog_1_method_13_code 9 = .ok (.getfield 104, 3) := by decide +kernel
theorem d_NU_condition_12 : decode prog_1_method_13_code 12 = .ok (.if_icmp .lt 5, 3) := by decide +kernel
theorem d_NU_condition_15 : decode prog_1_method_13_code 15 = .ok (.iconst (-1), 1) := by decide +kernel
theorem d_NU_condition_16 : decode prog_1_method_13_code 16 = .ok (.ireturn, 1) := by decide +kernel
theorem d_NU_condition_17 : decode prog_1_method_13_code 17 = .ok (.iload_n 2, 1) := by decide +kernel
theorem d_NU_condition_18 : decode prog_1_method_13_code 18 = .ok (.tableswitch 59 0 2 #[26, 36, 46], 26) := by decide +kernel
theorem d_NU_condition_44 : decode prog_1_method_13_code 44 = .ok (.aload_n 0, 1) := by decide +kernel
theorem d_NU_condition_45 : decode prog_1_method_13_code 45 = .ok (.getfield 19, 3) := by decide +kernel
theorem d_NU_condition_48 : decode prog_1_method_13_code 48 = .ok (.getfield 131, 3) := by decide +kernel
theorem d_NU_condition_51 : decode prog_1_method_13_code 51 = .ok (.iload_n 1, 1) := by decide +kernel
theorem d_NU_condition_52 : decode prog_1_method_13_code 52 = .ok (.iaload, 1) := by decide +kernel
theorem d_NU_condition_53 : decode prog_1_method_13_code 53 = .ok (.ireturn, 1) := by decide +kernel
theorem d_NU_condition_54 : decode prog_1_method_13_code 54 = .ok (.aload_n 0, 1) := by decide +kernel
theorem d_NU_condition_55 : decode prog_1_method_13_code 55 = .ok (.getfield 19, 3) := by decide +kernel
theorem d_NU_condition_58 : decode prog_1_method_13_code 58 = .ok (.getfield 134, 3) := by decide +kernel
theorem d_NU_condition_61 : decode prog_1_method_13_code 61 = .ok (.iload_n 1, 1) := by decide +kernel
theorem d_NU_condition_62 : decode prog_1_method_13_code 62 = .ok (.iaload, 1) := by decide +kernel
theorem d_NU_condition_63 : decode prog_1_method_13_code 63 = .ok (.ireturn, 1) := by decide +kernel
theorem d_NU_condition_64 : decode prog_1_method_13_code 64 = .ok (.aload_n 0, 1) := by decide +kernel
theorem d_NU_condition_65 : decode prog_1_method_13_code 65 = .ok (.getfield 19, 3) := by decide +kernel
theorem d_NU_condition_68 : decode prog_1_method_13_code 68 = .ok (.getfield 137, 3) := by decide +kernel
theorem d_NU_condition_71 : decode prog_1_method_13_code 71 = .ok (.iload_n 1, 1) := by decide +kernel
theorem d_NU_condition_72 : decode prog_1_method_13_code 72 = .ok (.iaload, 1) := by decide +kernel
theorem d_NU_condition_73 : decode prog_1_method_13_code 73 = .ok (.invokestatic 110, 3) := by decide +kernel
theorem d_NU_condition_76 : decode prog_1_method_13_code 76 = .ok (.ireturn, 1) := by decide +kernel
theorem d_NU_condition_77 : decode prog_1_method_13_code 77 = .ok (.iconst (-1), 1) := by decide +kernel
theorem d_NU_condition_78 : decode prog_1_method_13_code 78 = .ok (.ireturn, 1) := by decide +kernel
theorem d_NU_count_0 : decode prog_1_method_10_code 0 = .ok (.iload_n 1, 1) := by decide +kernel
theorem d_NU_count_1 : decode prog_1_method_10_code 1 = .ok (.tableswitch 66 0 3 #[31, 39, 47, 58], 31) := by decide +kernel
theorem d_NU_count_32 : decode prog_1_method_10_code 32 = .ok (.aload_n 0, 1) := by decide +kernel
theorem d_NU_count_33 : decode prog_1_method_10_code 33 = .ok (.getfield 19, 3) := by decide +kernel
theorem d_NU_count_36 : decode prog_1_method_10_code 36 = .ok (.getfield 101, 3) := by decide +kernel
theorem d_NU_count_39 : decode prog_1_method_10_code 39 = .ok (.ireturn, 1) := by decide +kernel
theorem d_NU_count_40 : decode prog_1_method_10_code 40 = .ok (.aload_n 0, 1) := by decide +kernel
theorem d_NU_count_41 : decode prog_1_method_10_code 41 = .ok (.getfield 19, 3) := by decide +kernel
theorem d_NU_count_44 : decode prog_1_method_10_code 44 = .ok (.getfield 104, 3) := by decide +kernel
theorem d_NU_count_47 : decode prog_1_method_10_code 47 = .ok (.ireturn, 1) := by decide +kernel
theorem d_NU_count_48 : decode prog_1_method_10_code 48 = .ok (.aload_n 0, 1) := by decide +kernel
theorem d_NU_count_49 : decode prog_1_method_10_code 49 = .ok (.getfield 19, 3) := by decide +kernel
theorem d_NU_count_52 : decode prog_1_method_10_code 52 = .ok (.getfield 107, 3) := by decide +kernel
theorem d_NU_count_55 : decode prog_1_method_10_code 55 = .ok (.invokestatic 110, 3) := by decide +kernel
theorem d_NU_count_58 : decode prog_1_method_10_code 58 = .ok (.ireturn, 1) := by decide +kernel
theorem d_NU_count_59 : decode prog_1_method_10_code 59 = .ok (.aload_n 0, 1) := by decide +kernel
theorem d_NU_count_60 : decode prog_1_method_10_code 60 = .ok (.getfield 26, 3) := by decide +kernel
theorem d_NU_count_63 : decode prog_1_method_10_code 63 = .ok (.getfield 91, 3) := by decide +kernel
theorem d_NU_count_66 : decode prog_1_method_10_code 66 = .ok (.ireturn, 1) := by decide +kernel
theorem d_NU_count_67 : decode prog_1_method_10_code 67 = .ok (.iconst (-1), 1) := by decide +kernel
theorem d_NU_count_68 : decode prog_1_method_10_code 68 = .ok (.ireturn, 1) := by decide +kernel
theorem d_NU_deadlock_0 : decode prog_1_method_7_code 0 = .ok (.aload_n 0, 1) := by decide +kernel
theorem d_NU_deadlock_1 : decode prog_1_method_7_code 1 = .ok (.getfield 19, 3) := by decide +kernel
theorem d_NU_deadlock_4 : decode prog_1_method_7_code 4 = .ok (.getfield 77, 3) := by decide +kernel
theorem d_NU_deadlock_7 : decode prog_1_method_7_code 7 = .ok (.ifCond .ne 11, 3) := by decide +kernel
theorem d_NU_deadlock_10 : decode prog_1_method_7_code 10 = .ok (.new 57, 3) := by decide +kernel
theorem d_NU_deadlock_13 : decode prog_1_method_7_code 13 = .ok (.dup, 1) := by decide +kernel
theorem d_NU_deadlock_14 : decode prog_1_method_7_code 14 = .ok (.invokespecial 59, 3) := by decide +kernel
theorem d_NU_deadlock_17 : decode prog_1_method_7_code 17 = .ok (.athrow, 1) := by decide +kernel
theorem d_NU_deadlock_18 : decode prog_1_method_7_code 18 = .ok (.aload_n 0, 1) := by decide +kernel
theorem d_NU_deadlock_19 : decode prog_1_method_7_code 19 = .ok (.getfield 42, 3) := by decide +kernel
theorem d_NU_deadlock_22 : decode prog_1_method_7_code 22 = .ok (.invokevirtual 85, 3) := by decide +kernel
theorem d_NU_deadlock_25 : decode prog_1_method_7_code 25 = .ok (.ireturn, 1) := by decide +kernel
theorem d_NU_dropPrefixAndWay_0 : decode prog_1_method_15_code 0 = .ok (.aload_n 0, 1) := by decide +kernel
theorem d_NU_dropPrefixAndWay_1 : decode prog_1_method_15_code 1 = .ok (.getfield 19, 3) := by decide +kernel
theorem d_NU_dropPrefixAndWay_4 : decode prog_1_method_15_code 4 = .ok (.invokevirtual 148, 3) := by decide +kernel
theorem d_NU_dropPrefixAndWay_7 : decode prog_1_method_15_code 7 = .ok (.aload_n 0, 1) := by decide +kernel
theorem d_NU_dropPrefixAndWay_8 : decode prog_1_method_15_code 8 = .ok (.getfield 26, 3) := by decide +kernel
theorem d_NU_dropPrefixAndWay_11 : decode prog_1_method_15_code 11 = .ok (.invokevirtual 149, 3) := by decide +kernel
theorem d_NU_dropPrefixAndWay_14 : decode prog_1_method_15_code 14 = .ok (.return_, 1) := by decide +kernel
theorem d_NU_event_0 : decode prog_1_method_11_code 0 = .ok (.iload_n 1, 1) := by decide +kernel
theorem d_NU_event_1 : decode prog_1_method_11_code 1 = .ok (.ifCond .lt 14, 3) := by decide +kernel
theorem d_NU_event_4 : decode prog_1_method_11_code 4 = .ok (.iload_n 1, 1) := by decide +kernel
theorem d_NU_event_5 : decode prog_1_method_11_code 5 = .ok (.aload_n 0, 1) := by decide +kernel
theorem d_NU_event_6 : decode prog_1_method_11_code 6 = .ok (.getfield 19, 3) := by decide +kernel
theorem d_NU_event_9 : decode prog_1_method_11_code 9 = .ok (.getfield 101, 3) := by decide +kernel
theorem d_NU_event_12 : decode prog_1_method_11_code 12 = .ok (.if_icmp .lt 5, 3) := by decide +kernel
theorem d_NU_event_15 : decode prog_1_method_11_code 15 = .ok (.iconst (-1), 1) := by decide +kernel
theorem d_NU_event_16 : decode prog_1_method_11_code 16 = .ok (.ireturn, 1) := by decide +kernel
theorem d_NU_event_17 : decode prog_1_method_11_code 17 = .ok (.iload_n 2, 1) := by decide +kernel
theorem d_NU_event_18 : decode prog_1_method_11_code 18 = .ok (.tableswitch 80 0 3 #[30, 40, 53, 63], 30) := by decide +kernel
theorem d_NU_event_48 : decode prog_1_method_11_code 48 = .ok (.aload_n 0, 1) := by decide +kernel
theorem d_NU_event_49 : decode prog_1_method_11_code 49 = .ok (.getfield 19, 3) := by decide +kernel
theorem d_NU_event_52 : decode prog_1_method_11_code 52 = .ok (.getfield 115, 3) := by decide +kernel
theorem d_NU_event_55 : decode prog_1_method_11_code 55 = .ok (.iload_n 1, 1) := by decide +kernel
theorem d_NU_event_56 : decode prog_1_method_11_code 56 = .ok (.iaload, 1) := by decide +kernel
theorem d_NU_event_57 : decode prog_1_method_11_code 57 = .ok (.ireturn, 1) := by decide +kernel
theorem d_NU_event_58 : decode prog_1_method_11_code 58 = .ok (.aload_n 0, 1) := by decide +kernel
theorem d_NU_event_59 : decode prog_1_method_11_code 59 = .ok (.getfield 19, 3) := by decide +kernel
theorem d_NU_event_62 : decode prog_1_method_11_code 62 = .ok (.getfield 119, 3) := by decide +kernel
theorem d_NU_event_65 : decode prog_1_method_11_code 65 = .ok (.iload_n 1, 1) := by decide +kernel
theorem d_NU_event_66 : decode prog_1_method_11_code 66 = .ok (.iaload, 1) := by decide +kernel
theorem d_NU_event_67 : decode prog_1_method_11_code 67 = .ok (.invokestatic 110, 3) := by decide +kernel
theorem d_NU_event_70 : decode prog_1_method_11_code 70 = .ok (.ireturn, 1) := by decide +kernel
theorem d_NU_event_71 : decode prog_1_method_11_code 71 = .ok (.aload_n 0, 1) := by decide +kernel
theorem d_NU_event_72 : decode prog_1_method_11_code 72 = .ok (.getfield 19, 3) := by decide +kernel
theorem d_NU_event_75 : decode prog_1_method_11_code 75 = .ok (.getfield 122, 3) := by decide +kernel
theorem d_NU_event_78 : decode prog_1_method_11_code 78 = .ok (.iload_n 1, 1) := by decide +kernel
theorem d_NU_event_79 : decode prog_1_method_11_code 79 = .ok (.iaload, 1) := by decide +kernel
theorem d_NU_event_80 : decode prog_1_method_11_code 80 = .ok (.ireturn, 1) := by decide +kernel
theorem d_NU_event_81 : decode prog_1_method_11_code 81 = .ok (.aload_n 0, 1) := by decide +kernel
theorem d_NU_event_82 : decode prog_1_method_11_code 82 = .ok (.getfield 19, 3) := by decide +kernel
theorem d_NU_event_85 : decode prog_1_method_11_code 85 = .ok (.iload_n 1, 1) := by decide +kernel
theorem d_NU_event_86 : decode prog_1_method_11_code 86 = .ok (.invokevirtual 125, 3) := by decide +kernel
theorem d_NU_event_89 : decode prog_1_method_11_code 89 = .ok (.ifCond .eq 7, 3) := by decide +kernel
theorem d_NU_event_92 : decode prog_1_method_11_code 92 = .ok (.iconst 1, 1) := by decide +kernel
theorem d_NU_event_93 : decode prog_1_method_11_code 93 = .ok (.goto 4, 3) := by decide +kernel
theorem d_NU_event_96 : decode prog_1_method_11_code 96 = .ok (.iconst 0, 1) := by decide +kernel
theorem d_NU_event_97 : decode prog_1_method_11_code 97 = .ok (.ireturn, 1) := by decide +kernel
theorem d_NU_event_98 : decode prog_1_method_11_code 98 = .ok (.iconst (-1), 1) := by decide +kernel
theorem d_NU_event_99 : decode prog_1_method_11_code 99 = .ok (.ireturn, 1) := by decide +kernel
theorem d_NU_first_0 : decode prog_1_method_3_code 0 = .ok (.iload_n 1, 1) := by decide +kernel
theorem d_NU_first_1 : decode prog_1_method_3_code 1 = .ok (.invokestatic 46, 3) := by decide +kernel
theorem d_NU_first_4 : decode prog_1_method_3_code 4 = .ok (.ifCond .ne 11, 3) := by decide +kernel
theorem d_NU_first_7 : decode prog_1_method_3_code 7 = .ok (.new 50, 3) := by decide +kernel
theorem d_NU_first_10 : decode prog_1_method_3_code 10 = .ok (.dup, 1) := by decide +kernel
theorem d_NU_first_11 : decode prog_1_method_3_code 11 = .ok (.invokespecial 52, 3) := by decide +kernel
theorem d_NU_first_14 : decode prog_1_method_3_code 14 = .ok (.athrow, 1) := by decide +kernel
theorem d_NU_first_15 : decode prog_1_method_3_code 15 = .ok (.aload_n 0, 1) := by decide +kernel
theorem d_NU_first_16 : decode prog_1_method_3_code 16 = .ok (.invokevirtual 60, 3) := by decide +kernel
theorem d_NU_first_19 : decode prog_1_method_3_code 19 = .ok (.aload_n 0, 1) := by decide +kernel
theorem d_NU_first_20 : decode prog_1_method_3_code 20 = .ok (.getfield 10, 3) := by decide +kernel
theorem d_NU_first_23 : decode prog_1_method_3_code 23 = .ok (.iload_n 1, 1) := by decide +kernel
theorem d_NU_first_24 : decode prog_1_method_3_code 24 = .ok (.putfield 67, 3) := by decide +kernel
theorem d_NU_first_27 : decode prog_1_method_3_code 27 = .ok (.return_, 1) := by decide +kernel
theorem d_NU_has_0 : decode prog_1_method_17_code 0 = .ok (.lload_n 0, 1) := by decide +kernel
theorem d_NU_has_1 : decode prog_1_method_17_code 1 = .ok (.iload_n 2, 1) := by decide +kernel
theorem d_NU_has_2 : decode prog_1_method_17_code 2 = .ok (.lushr, 1) := by decide +kernel
theorem d_NU_has_3 : decode prog_1_method_17_code 3 = .ok (.lconst 1, 1) := by decide +kernel
theorem d_NU_has_4 : decode prog_1_method_17_code 4 = .ok (.land, 1) := by decide +kernel
theorem d_NU_has_5 : decode prog_1_method_17_code 5 = .ok (.lconst 0, 1) := by decide +kernel
theorem d_NU_has_6 : decode prog_1_method_17_code 6 = .ok (.lcmp, 1) := by decide +kernel
theorem d_NU_has_7 : decode prog_1_method_17_code 7 = .ok (.ifCond .eq 7, 3) := by decide +kernel
theorem d_NU_has_10 : decode prog_1_method_17_code 10 = .ok (.iconst 1, 1) := by decide +kernel
theorem d_NU_has_11 : decode prog_1_method_17_code 11 = .ok (.goto 4, 3) := by decide +kernel
theorem d_NU_has_14 : decode prog_1_method_17_code 14 = .ok (.iconst 0, 1) := by decide +kernel
theorem d_NU_has_15 : decode prog_1_method_17_code 15 = .ok (.ireturn, 1) := by decide +kernel
theorem d_NU_isMarking_0 : decode prog_1_method_16_code 0 = .ok (.iload_n 0, 1) := by decide +kernel
theorem d_NU_isMarking_1 : decode prog_1_method_16_code 1 = .ok (.ifCond .lt 14, 3) := by decide +kernel
theorem d_NU_isMarking_4 : decode prog_1_method_16_code 4 = .ok (.iload_n 0, 1) := by decide +kernel
theorem d_NU_isMarking_5 : decode prog_1_method_16_code 5 = .ok (.sipush 255, 3) := by decide +kernel
theorem d_NU_isMarking_8 : decode prog_1_method_16_code 8 = .ok (.if_icmp .gt 7, 3) := by decide +kernel
theorem d_NU_isMarking_11 : decode prog_1_method_16_code 11 = .ok (.iconst 1, 1) := by decide +kernel
theorem d_NU_isMarking_12 : decode prog_1_method_16_code 12 = .ok (.goto 4, 3) := by decide +kernel
theorem d_NU_isMarking_15 : decode prog_1_method_16_code 15 = .ok (.iconst 0, 1) := by decide +kernel
theorem d_NU_isMarking_16 : decode prog_1_method_16_code 16 = .ok (.ireturn, 1) := by decide +kernel
theorem d_NU_least_0 : decode prog_1_method_18_code 0 = .ok (.lload_n 0, 1) := by decide +kernel
theorem d_NU_least_1 : decode prog_1_method_18_code 1 = .ok (.lload_n 0, 1) := by decide +kernel
theorem d_NU_least_2 : decode prog_1_method_18_code 2 = .ok (.lneg, 1) := by decide +kernel
theorem d_NU_least_3 : decode prog_1_method_18_code 3 = .ok (.land, 1) := by decide +kernel
theorem d_NU_least_4 : decode prog_1_method_18_code 4 = .ok (.lconst 1, 1) := by decide +kernel
theorem d_NU_least_5 : decode prog_1_method_18_code 5 = .ok (.lsub, 1) := by decide +kernel
theorem d_NU_least_6 : decode prog_1_method_18_code 6 = .ok (.invokestatic 152, 3) := by decide +kernel
theorem d_NU_least_9 : decode prog_1_method_18_code 9 = .ok (.ireturn, 1) := by decide +kernel
theorem d_NU_play_0 : decode prog_1_method_9_code 0 = .ok (.aload_n 0, 1) := by decide +kernel
theorem d_NU_play_1 : decode prog_1_method_9_code 1 = .ok (.getfield 26, 3) := by decide +kernel
theorem d_NU_play_4 : decode prog_1_method_9_code 4 = .ok (.getfield 91, 3) := by decide +kernel
theorem d_NU_play_7 : decode prog_1_method_9_code 7 = .ok (.iconst (-1), 1) := by decide +kernel
theorem d_NU_play_8 : decode prog_1_method_9_code 8 = .ok (.if_icmp .eq 7, 3) := by decide +kernel
theorem d_NU_play_11 : decode prog_1_method_9_code 11 = .ok (.iconst 1, 1) := by decide +kernel
theorem d_NU_play_12 : decode prog_1_method_9_code 12 = .ok (.goto 4, 3) := by decide +kernel
theorem d_NU_play_15 : decode prog_1_method_9_code 15 = .ok (.iconst 0, 1) := by decide +kernel
theorem d_NU_play_16 : decode prog_1_method_9_code 16 = .ok (.istore_n 2, 1) := by decide +kernel
theorem d_NU_play_17 : decode prog_1_method_9_code 17 = .ok (.iload_n 1, 1) := by decide +kernel
theorem d_NU_play_18 : decode prog_1_method_9_code 18 = .ok (.ifCond .lt 18, 3) := by decide +kernel
theorem d_NU_play_21 : decode prog_1_method_9_code 21 = .ok (.iload_n 2, 1) := by decide +kernel
theorem d_NU_play_22 : decode prog_1_method_9_code 22 = .ok (.ifCond .eq 22, 3) := by decide +kernel
theorem d_NU_play_25 : decode prog_1_method_9_code 25 = .ok (.iload_n 1, 1) := by decide +kernel
theorem d_NU_play_26 : decode prog_1_method_9_code 26 = .ok (.aload_n 0, 1) := by decide +kernel
theorem d_NU_play_27 : decode prog_1_method_9_code 27 = .ok (.getfield 26, 3) := by decide +kernel
theorem d_NU_play_30 : decode prog_1_method_9_code 30 = .ok (.getfield 91, 3) := by decide +kernel
theorem d_NU_play_33 : decode prog_1_method_9_code 33 = .ok (.if_icmp .le 11, 3) := by decide +kernel
theorem d_NU_play_36 : decode prog_1_method_9_code 36 = .ok (.new 50, 3) := by decide +kernel
theorem d_NU_play_39 : decode prog_1_method_9_code 39 = .ok (.dup, 1) := by decide +kernel
theorem d_NU_play_40 : decode prog_1_method_9_code 40 = .ok (.invokespecial 52, 3) := by decide +kernel
theorem d_NU_play_43 : decode prog_1_method_9_code 43 = .ok (.athrow, 1) := by decide +kernel
theorem d_NU_play_44 : decode prog_1_method_9_code 44 = .ok (.iload_n 2, 1) := by decide +kernel
theorem d_NU_play_45 : decode prog_1_method_9_code 45 = .ok (.ifCond .ne 11, 3) := by decide +kernel
theorem d_NU_play_48 : decode prog_1_method_9_code 48 = .ok (.new 57, 3) := by decide +kernel
theorem d_NU_play_51 : decode prog_1_method_9_code 51 = .ok (.dup, 1) := by decide +kernel
theorem d_NU_play_52 : decode prog_1_method_9_code 52 = .ok (.invokespecial 59, 3) := by decide +kernel
theorem d_NU_play_55 : decode prog_1_method_9_code 55 = .ok (.athrow, 1) := by decide +kernel
theorem d_NU_play_56 : decode prog_1_method_9_code 56 = .ok (.aload_n 0, 1) := by decide +kernel
theorem d_NU_play_57 : decode prog_1_method_9_code 57 = .ok (.getfield 10, 3) := by decide +kernel
theorem d_NU_play_60 : decode prog_1_method_9_code 60 = .ok (.getfield 67, 3) := by decide +kernel
theorem d_NU_play_63 : decode prog_1_method_9_code 63 = .ok (.istore_n 3, 1) := by decide +kernel
theorem d_NU_play_64 : decode prog_1_method_9_code 64 = .ok (.iconst 0, 1) := by decide +kernel
theorem d_NU_play_65 : decode prog_1_method_9_code 65 = .ok (.istore 4, 2) := by decide +kernel
theorem d_NU_play_67 : decode prog_1_method_9_code 67 = .ok (.iload 4, 2) := by decide +kernel
theorem d_NU_play_69 : decode prog_1_method_9_code 69 = .ok (.iload_n 1, 1) := by decide +kernel
theorem d_NU_play_70 : decode prog_1_method_9_code 70 = .ok (.if_icmp .ge 52, 3) := by decide +kernel
theorem d_NU_play_73 : decode prog_1_method_9_code 73 = .ok (.aload_n 0, 1) := by decide +kernel
theorem d_NU_play_74 : decode prog_1_method_9_code 74 = .ok (.getfield 26, 3) := by decide +kernel
theorem d_NU_play_77 : decode prog_1_method_9_code 77 = .ok (.iload 4, 2) := by decide +kernel
theorem d_NU_play_79 : decode prog_1_method_9_code 79 = .ok (.invokevirtual 88, 3) := by decide +kernel
theorem d_NU_play_82 : decode prog_1_method_9_code 82 = .ok (.istore 5, 2) := by decide +kernel
theorem d_NU_play_84 : decode prog_1_method_9_code 84 = .ok (.aload_n 0, 1) := by decide +kernel
theorem d_NU_play_85 : decode prog_1_method_9_code 85 = .ok (.getfield 10, 3) := by decide +kernel
theorem d_NU_play_88 : decode prog_1_method_9_code 88 = .ok (.iload_n 3, 1) := by decide +kernel
theorem d_NU_play_89 : decode prog_1_method_9_code 89 = .ok (.iload 5, 2) := by decide +kernel
theorem d_NU_play_91 : decode prog_1_method_9_code 91 = .ok (.invokevirtual 94, 3) := by decide +kernel
theorem d_NU_play_94 : decode prog_1_method_9_code 94 = .ok (.ifCond .ne 11, 3) := by decide +kernel
theorem d_NU_play_97 : decode prog_1_method_9_code 97 = .ok (.new 57, 3) := by decide +kernel
theorem d_NU_play_100 : decode prog_1_method_9_code 100 = .ok (.dup, 1) := by decide +kernel
theorem d_NU_play_101 : decode prog_1_method_9_code 101 = .ok (.invokespecial 59, 3) := by decide +kernel
theorem d_NU_play_104 : decode prog_1_method_9_code 104 = .ok (.athrow, 1) := by decide +kernel
theorem d_NU_play_105 : decode prog_1_method_9_code 105 = .ok (.aload_n 0, 1) := by decide +kernel
theorem d_NU_play_106 : decode prog_1_method_9_code 106 = .ok (.getfield 10, 3) := by decide +kernel
theorem d_NU_play_109 : decode prog_1_method_9_code 109 = .ok (.iload_n 3, 1) := by decide +kernel
theorem d_NU_play_110 : decode prog_1_method_9_code 110 = .ok (.iload 5, 2) := by decide +kernel
theorem d_NU_play_112 : decode prog_1_method_9_code 112 = .ok (.invokevirtual 98, 3) := by decide +kernel
theorem d_NU_play_115 : decode prog_1_method_9_code 115 = .ok (.istore_n 3, 1) := by decide +kernel
theorem d_NU_play_116 : decode prog_1_method_9_code 116 = .ok (.iinc 4 1, 3) := by decide +kernel
theorem d_NU_play_119 : decode prog_1_method_9_code 119 = .ok (.goto (-52), 3) := by decide +kernel
theorem d_NU_play_122 : decode prog_1_method_9_code 122 = .ok (.iload_n 3, 1) := by decide +kernel
theorem d_NU_play_123 : decode prog_1_method_9_code 123 = .ok (.ireturn, 1) := by decide +kernel
theorem d_NU_reach_0 : decode prog_1_method_6_code 0 = .ok (.iload_n 1, 1) := by decide +kernel
theorem d_NU_reach_1 : decode prog_1_method_6_code 1 = .ok (.invokestatic 46, 3) := by decide +kernel
theorem d_NU_reach_4 : decode prog_1_method_6_code 4 = .ok (.ifCond .ne 11, 3) := by decide +kernel
theorem d_NU_reach_7 : decode prog_1_method_6_code 7 = .ok (.new 50, 3) := by decide +kernel
theorem d_NU_reach_10 : decode prog_1_method_6_code 10 = .ok (.dup, 1) := by decide +kernel
theorem d_NU_reach_11 : decode prog_1_method_6_code 11 = .ok (.invokespecial 52, 3) := by decide +kernel
theorem d_NU_reach_14 : decode prog_1_method_6_code 14 = .ok (.athrow, 1) := by decide +kernel
theorem d_NU_reach_15 : decode prog_1_method_6_code 15 = .ok (.aload_n 0, 1) := by decide +kernel
theorem d_NU_reach_16 : decode prog_1_method_6_code 16 = .ok (.getfield 19, 3) := by decide +kernel
theorem d_NU_reach_19 : decode prog_1_method_6_code 19 = .ok (.getfield 77, 3) := by decide +kernel
theorem d_NU_reach_22 : decode prog_1_method_6_code 22 = .ok (.ifCond .ne 11, 3) := by decide +kernel
theorem d_NU_reach_25 : decode prog_1_method_6_code 25 = .ok (.new 57, 3) := by decide +kernel
theorem d_NU_reach_28 : decode prog_1_method_6_code 28 = .ok (.dup, 1) := by decide +kernel
theorem d_NU_reach_29 : decode prog_1_method_6_code 29 = .ok (.invokespecial 59, 3) := by decide +kernel
theorem d_NU_reach_32 : decode prog_1_method_6_code 32 = .ok (.athrow, 1) := by decide +kernel
theorem d_NU_reach_33 : decode prog_1_method_6_code 33 = .ok (.aload_n 0, 1) := by decide +kernel
theorem d_NU_reach_34 : decode prog_1_method_6_code 34 = .ok (.getfield 42, 3) := by decide +kernel
theorem d_NU_reach_37 : decode prog_1_method_6_code 37 = .ok (.iload_n 1, 1) := by decide +kernel
theorem d_NU_reach_38 : decode prog_1_method_6_code 38 = .ok (.invokevirtual 81, 3) := by decide +kernel
theorem d_NU_reach_41 : decode prog_1_method_6_code 41 = .ok (.ireturn, 1) := by decide +kernel
theorem d_NU_takes_0 : decode prog_1_method_12_code 0 = .ok (.iload_n 1, 1) := by decide +kernel
theorem d_NU_takes_1 : decode prog_1_method_12_code 1 = .ok (.ifCond .lt 14, 3) := by decide +kernel
theorem d_NU_takes_4 : decode prog_1_method_12_code 4 = .ok (.iload_n 1, 1) := by decide +kernel
theorem d_NU_takes_5 : decode prog_1_method_12_code 5 = .ok (.aload_n 0, 1) := by decide +kernel
theorem d_NU_takes_6 : decode prog_1_method_12_code 6 = .ok (.getfield 19, 3) := by decide +kernel
theorem d_NU_takes_9 : decode prog_1_method_12_code 9 = .ok (.getfield 101, 3) := by decide +kernel
theorem d_NU_takes_12 : decode prog_1_method_12_code 12 = .ok (.if_icmp .lt 5, 3) := by decide +kernel
theorem d_NU_takes_15 : decode prog_1_method_12_code 15 = .ok (.iconst (-1), 1) := by decide +kernel
theorem d_NU_takes_16 : decode prog_1_method_12_code 16 = .ok (.ireturn, 1) := by decide +kernel
theorem d_NU_takes_17 : decode prog_1_method_12_code 17 = .ok (.aload_n 0, 1) := by decide +kernel
theorem d_NU_takes_18 : decode prog_1_method_12_code 18 = .ok (.getfield 19, 3) := by decide +kernel
theorem d_NU_takes_21 : decode prog_1_method_12_code 21 = .ok (.iload_n 1, 1) := by decide +kernel
theorem d_NU_takes_22 : decode prog_1_method_12_code 22 = .ok (.iload_n 2, 1) := by decide +kernel
theorem d_NU_takes_23 : decode prog_1_method_12_code 23 = .ok (.invokevirtual 128, 3) := by decide +kernel
theorem d_NU_takes_26 : decode prog_1_method_12_code 26 = .ok (.ireturn, 1) := by decide +kernel
theorem d_NU_transition_0 : decode prog_1_method_2_code 0 = .ok (.iload_n 1, 1) := by decide +kernel
theorem d_NU_transition_1 : decode prog_1_method_2_code 1 = .ok (.ifCond .eq 17, 3) := by decide +kernel
theorem d_NU_transition_4 : decode prog_1_method_2_code 4 = .ok (.iload_n 1, 1) := by decide +kernel
theorem d_NU_transition_5 : decode prog_1_method_2_code 5 = .ok (.invokestatic 46, 3) := by decide +kernel
theorem d_NU_transition_8 : decode prog_1_method_2_code 8 = .ok (.ifCond .eq 10, 3) := by decide +kernel
theorem d_NU_transition_11 : decode prog_1_method_2_code 11 = .ok (.iload_n 2, 1) := by decide +kernel
theorem d_NU_transition_12 : decode prog_1_method_2_code 12 = .ok (.invokestatic 46, 3) := by decide +kernel
theorem d_NU_transition_15 : decode prog_1_method_2_code 15 = .ok (.ifCond .ne 11, 3) := by decide +kernel
theorem d_NU_transition_18 : decode prog_1_method_2_code 18 = .ok (.new 50, 3) := by decide +kernel
theorem d_NU_transition_21 : decode prog_1_method_2_code 21 = .ok (.dup, 1) := by decide +kernel
theorem d_NU_transition_22 : decode prog_1_method_2_code 22 = .ok (.invokespecial 52, 3) := by decide +kernel
theorem d_NU_transition_25 : decode prog_1_method_2_code 25 = .ok (.athrow, 1) := by decide +kernel
theorem d_NU_transition_26 : decode prog_1_method_2_code 26 = .ok (.aload_n 0, 1) := by decide +kernel
theorem d_NU_transition_27 : decode prog_1_method_2_code 27 = .ok (.getfield 10, 3) := by decide +kernel
theorem d_NU_transition_30 : decode prog_1_method_2_code 30 = .ok (.getfield 53, 3) := by decide +kernel
theorem d_NU_transition_33 : decode prog_1_method_2_code 33 = .ok (.bipush 8, 2) := by decide +kernel
theorem d_NU_transition_35 : decode prog_1_method_2_code 35 = .ok (.if_icmp .lt 11, 3) := by decide +kernel
theorem d_NU_transition_38 : decode prog_1_method_2_code 38 = .ok (.new 57, 3) := by decide +kernel
theorem d_NU_transition_41 : decode prog_1_method_2_code 41 = .ok (.dup, 1) := by decide +kernel
theorem d_NU_transition_42 : decode prog_1_method_2_code 42 = .ok (.invokespecial 59, 3) := by decide +kernel
theorem d_NU_transition_45 : decode prog_1_method_2_code 45 = .ok (.athrow, 1) := by decide +kernel
theorem d_NU_transition_46 : decode prog_1_method_2_code 46 = .ok (.aload_n 0, 1) := by decide +kernel
theorem d_NU_transition_47 : decode prog_1_method_2_code 47 = .ok (.invokevirtual 60, 3) := by decide +kernel
theorem d_NU_transition_50 : decode prog_1_method_2_code 50 = .ok (.aload_n 0, 1) := by decide +kernel
theorem d_NU_transition_51 : decode prog_1_method_2_code 51 = .ok (.getfield 10, 3) := by decide +kernel
theorem d_NU_transition_54 : decode prog_1_method_2_code 54 = .ok (.iload_n 1, 1) := by decide +kernel
theorem d_NU_transition_55 : decode prog_1_method_2_code 55 = .ok (.iload_n 2, 1) := by decide +kernel
theorem d_NU_transition_56 : decode prog_1_method_2_code 56 = .ok (.invokevirtual 63, 3) := by decide +kernel
theorem d_NU_transition_59 : decode prog_1_method_2_code 59 = .ok (.ireturn, 1) := by decide +kernel
theorem d_NU_unfold_0 : decode prog_1_method_5_code 0 = .ok (.aload_n 0, 1) := by decide +kernel
theorem d_NU_unfold_1 : decode prog_1_method_5_code 1 = .ok (.getfield 35, 3) := by decide +kernel
theorem d_NU_unfold_4 : decode prog_1_method_5_code 4 = .ok (.invokevirtual 73, 3) := by decide +kernel
theorem d_NU_unfold_7 : decode prog_1_method_5_code 7 = .ok (.istore_n 1, 1) := by decide +kernel
theorem d_NU_unfold_8 : decode prog_1_method_5_code 8 = .ok (.iload_n 1, 1) := by decide +kernel
theorem d_NU_unfold_9 : decode prog_1_method_5_code 9 = .ok (.bipush (-3), 2) := by decide +kernel
theorem d_NU_unfold_11 : decode prog_1_method_5_code 11 = .ok (.if_icmp .ne 7, 3) := by decide +kernel
theorem d_NU_unfold_14 : decode prog_1_method_5_code 14 = .ok (.aload_n 0, 1) := by decide +kernel
theorem d_NU_unfold_15 : decode prog_1_method_5_code 15 = .ok (.invokevirtual 60, 3) := by decide +kernel
theorem d_NU_unfold_18 : decode prog_1_method_5_code 18 = .ok (.iload_n 1, 1) := by decide +kernel
theorem d_NU_unfold_19 : decode prog_1_method_5_code 19 = .ok (.ireturn, 1) := by decide +kernel
theorem d_NU_way_0 : decode prog_1_method_8_code 0 = .ok (.aload_n 0, 1) := by decide +kernel
theorem d_NU_way_1 : decode prog_1_method_8_code 1 = .ok (.getfield 26, 3) := by decide +kernel
theorem d_NU_way_4 : decode prog_1_method_8_code 4 = .ok (.iload_n 1, 1) := by decide +kernel
theorem d_NU_way_5 : decode prog_1_method_8_code 5 = .ok (.invokevirtual 88, 3) := by decide +kernel
theorem d_NU_way_8 : decode prog_1_method_8_code 8 = .ok (.ireturn, 1) := by decide +kernel
theorem d_Cs_init_0 : decode prog_2_method_1_code 0 = .ok (.aload_n 0, 1) := by decide +kernel
theorem d_Cs_init_1 : decode prog_2_method_1_code 1 = .ok (.invokespecial 3, 3) := by decide +kernel
theorem d_Cs_init_4 : decode prog_2_method_1_code 4 = .ok (.aload_n 0, 1) := by decide +kernel
theorem d_Cs_init_5 : decode prog_2_method_1_code 5 = .ok (.sipush 815, 3) := by decide +kernel
theorem d_Cs_init_8 : decode prog_2_method_1_code 8 = .ok (.newarray .long, 2) := by decide +kernel
theorem d_Cs_init_10 : decode prog_2_method_1_code 10 = .ok (.putfield 11, 3) := by decide +kernel
theorem d_Cs_init_13 : decode prog_2_method_1_code 13 = .ok (.aload_n 0, 1) := by decide +kernel
theorem d_Cs_init_14 : decode prog_2_method_1_code 14 = .ok (.sipush 815, 3) := by decide +kernel
theorem d_Cs_init_17 : decode prog_2_method_1_code 17 = .ok (.newarray .long, 2) := by decide +kernel
theorem d_Cs_init_19 : decode prog_2_method_1_code 19 = .ok (.putfield 15, 3) := by decide +kernel
theorem d_Cs_init_22 : decode prog_2_method_1_code 22 = .ok (.return_, 1) := by decide +kernel
theorem d_Cs_give_0 : decode prog_2_method_4_code 0 = .ok (.lload_n 1, 1) := by decide +kernel
theorem d_Cs_give_1 : decode prog_2_method_4_code 1 = .ok (.lload_n 3, 1) := by decide +kernel
theorem d_Cs_give_2 : decode prog_2_method_4_code 2 = .ok (.land, 1) := by decide +kernel
theorem d_Cs_give_3 : decode prog_2_method_4_code 3 = .ok (.lconst 0, 1) := by decide +kernel
theorem d_Cs_give_4 : decode prog_2_method_4_code 4 = .ok (.lcmp, 1) := by decide +kernel
theorem d_Cs_give_5 : decode prog_2_method_4_code 5 = .ok (.ifCond .ne 51, 3) := by decide +kernel
theorem d_Cs_give_8 : decode prog_2_method_4_code 8 = .ok (.aload_n 0, 1) := by decide +kernel
theorem d_Cs_give_9 : decode prog_2_method_4_code 9 = .ok (.getfield 22, 3) := by decide +kernel
theorem d_Cs_give_12 : decode prog_2_method_4_code 12 = .ok (.sipush 751, 3) := by decide +kernel
theorem d_Cs_give_15 : decode prog_2_method_4_code 15 = .ok (.if_icmp .ge 41, 3) := by decide +kernel
theorem d_Cs_give_18 : decode prog_2_method_4_code 18 = .ok (.aload_n 0, 1) := by decide +kernel
theorem d_Cs_give_19 : decode prog_2_method_4_code 19 = .ok (.getfield 11, 3) := by decide +kernel
theorem d_Cs_give_22 : decode prog_2_method_4_code 22 = .ok (.aload_n 0, 1) := by decide +kernel
theorem d_Cs_give_23 : decode prog_2_method_4_code 23 = .ok (.getfield 22, 3) := by decide +kernel
theorem d_Cs_give_26 : decode prog_2_method_4_code 26 = .ok (.lload_n 1, 1) := by decide +kernel
theorem d_Cs_give_27 : decode prog_2_method_4_code 27 = .ok (.lastore, 1) := by decide +kernel
theorem d_Cs_give_28 : decode prog_2_method_4_code 28 = .ok (.aload_n 0, 1) := by decide +kernel
theorem d_Cs_give_29 : decode prog_2_method_4_code 29 = .ok (.getfield 15, 3) := by decide +kernel
theorem d_Cs_give_32 : decode prog_2_method_4_code 32 = .ok (.aload_n 0, 1) := by decide +kernel
theorem d_Cs_give_33 : decode prog_2_method_4_code 33 = .ok (.getfield 22, 3) := by decide +kernel
theorem d_Cs_give_36 : decode prog_2_method_4_code 36 = .ok (.lload_n 3, 1) := by decide +kernel
theorem d_Cs_give_37 : decode prog_2_method_4_code 37 = .ok (.lastore, 1) := by decide +kernel
theorem d_Cs_give_38 : decode prog_2_method_4_code 38 = .ok (.aload_n 0, 1) := by decide +kernel
theorem d_Cs_give_39 : decode prog_2_method_4_code 39 = .ok (.dup, 1) := by decide +kernel
theorem d_Cs_give_40 : decode prog_2_method_4_code 40 = .ok (.getfield 22, 3) := by decide +kernel
theorem d_Cs_give_43 : decode prog_2_method_4_code 43 = .ok (.iconst 1, 1) := by decide +kernel
theorem d_Cs_give_44 : decode prog_2_method_4_code 44 = .ok (.iadd, 1) := by decide +kernel
theorem d_Cs_give_45 : decode prog_2_method_4_code 45 = .ok (.putfield 22, 3) := by decide +kernel
theorem d_Cs_give_48 : decode prog_2_method_4_code 48 = .ok (.aload_n 0, 1) := by decide +kernel
theorem d_Cs_give_49 : decode prog_2_method_4_code 49 = .ok (.aload_n 0, 1) := by decide +kernel
theorem d_Cs_give_50 : decode prog_2_method_4_code 50 = .ok (.getfield 22, 3) := by decide +kernel
theorem d_Cs_give_53 : decode prog_2_method_4_code 53 = .ok (.putfield 18, 3) := by decide +kernel
theorem d_Cs_give_56 : decode prog_2_method_4_code 56 = .ok (.return_, 1) := by decide +kernel
theorem d_Cs_isFull_0 : decode prog_2_method_3_code 0 = .ok (.aload_n 0, 1) := by decide +kernel
theorem d_Cs_isFull_1 : decode prog_2_method_3_code 1 = .ok (.getfield 18, 3) := by decide +kernel
theorem d_Cs_isFull_4 : decode prog_2_method_3_code 4 = .ok (.aload_n 0, 1) := by decide +kernel
theorem d_Cs_isFull_5 : decode prog_2_method_3_code 5 = .ok (.getfield 11, 3) := by decide +kernel
theorem d_Cs_isFull_8 : decode prog_2_method_3_code 8 = .ok (.arraylength, 1) := by decide +kernel
theorem d_Cs_isFull_9 : decode prog_2_method_3_code 9 = .ok (.if_icmp .ge 17, 3) := by decide +kernel
theorem d_Cs_isFull_12 : decode prog_2_method_3_code 12 = .ok (.aload_n 0, 1) := by decide +kernel
theorem d_Cs_isFull_13 : decode prog_2_method_3_code 13 = .ok (.getfield 18, 3) := by decide +kernel
theorem d_Cs_isFull_16 : decode prog_2_method_3_code 16 = .ok (.aload_n 0, 1) := by decide +kernel
theorem d_Cs_isFull_17 : decode prog_2_method_3_code 17 = .ok (.getfield 22, 3) := by decide +kernel
theorem d_Cs_isFull_20 : decode prog_2_method_3_code 20 = .ok (.isub, 1) := by decide +kernel
theorem d_Cs_isFull_21 : decode prog_2_method_3_code 21 = .ok (.bipush 64, 2) := by decide +kernel
theorem d_Cs_isFull_23 : decode prog_2_method_3_code 23 = .ok (.if_icmp .lt 7, 3) := by decide +kernel
theorem d_Cs_isFull_26 : decode prog_2_method_3_code 26 = .ok (.iconst 1, 1) := by decide +kernel
theorem d_Cs_isFull_27 : decode prog_2_method_3_code 27 = .ok (.goto 4, 3) := by decide +kernel
theorem d_Cs_isFull_30 : decode prog_2_method_3_code 30 = .ok (.iconst 0, 1) := by decide +kernel
theorem d_Cs_isFull_31 : decode prog_2_method_3_code 31 = .ok (.ireturn, 1) := by decide +kernel
theorem d_Cs_learn_0 : decode prog_2_method_5_code 0 = .ok (.aload_n 0, 1) := by decide +kernel
theorem d_Cs_learn_1 : decode prog_2_method_5_code 1 = .ok (.invokevirtual 25, 3) := by decide +kernel
theorem d_Cs_learn_4 : decode prog_2_method_5_code 4 = .ok (.ifCond .ne 33, 3) := by decide +kernel
theorem d_Cs_learn_7 : decode prog_2_method_5_code 7 = .ok (.aload_n 0, 1) := by decide +kernel
theorem d_Cs_learn_8 : decode prog_2_method_5_code 8 = .ok (.getfield 11, 3) := by decide +kernel
theorem d_Cs_learn_11 : decode prog_2_method_5_code 11 = .ok (.aload_n 0, 1) := by decide +kernel
theorem d_Cs_learn_12 : decode prog_2_method_5_code 12 = .ok (.getfield 18, 3) := by decide +kernel
theorem d_Cs_learn_15 : decode prog_2_method_5_code 15 = .ok (.lload_n 1, 1) := by decide +kernel
theorem d_Cs_learn_16 : decode prog_2_method_5_code 16 = .ok (.lastore, 1) := by decide +kernel
theorem d_Cs_learn_17 : decode prog_2_method_5_code 17 = .ok (.aload_n 0, 1) := by decide +kernel
theorem d_Cs_learn_18 : decode prog_2_method_5_code 18 = .ok (.getfield 15, 3) := by decide +kernel
theorem d_Cs_learn_21 : decode prog_2_method_5_code 21 = .ok (.aload_n 0, 1) := by decide +kernel
theorem d_Cs_learn_22 : decode prog_2_method_5_code 22 = .ok (.getfield 18, 3) := by decide +kernel
theorem d_Cs_learn_25 : decode prog_2_method_5_code 25 = .ok (.lload_n 3, 1) := by decide +kernel
theorem d_Cs_learn_26 : decode prog_2_method_5_code 26 = .ok (.lastore, 1) := by decide +kernel
theorem d_Cs_learn_27 : decode prog_2_method_5_code 27 = .ok (.aload_n 0, 1) := by decide +kernel
theorem d_Cs_learn_28 : decode prog_2_method_5_code 28 = .ok (.dup, 1) := by decide +kernel
theorem d_Cs_learn_29 : decode prog_2_method_5_code 29 = .ok (.getfield 18, 3) := by decide +kernel
theorem d_Cs_learn_32 : decode prog_2_method_5_code 32 = .ok (.iconst 1, 1) := by decide +kernel
theorem d_Cs_learn_33 : decode prog_2_method_5_code 33 = .ok (.iadd, 1) := by decide +kernel
theorem d_Cs_learn_34 : decode prog_2_method_5_code 34 = .ok (.putfield 18, 3) := by decide +kernel
theorem d_Cs_learn_37 : decode prog_2_method_5_code 37 = .ok (.return_, 1) := by decide +kernel
theorem d_Cs_move_0 : decode prog_2_method_6_code 0 = .ok (.aload_n 0, 1) := by decide +kernel
theorem d_Cs_move_1 : decode prog_2_method_6_code 1 = .ok (.getfield 11, 3) := by decide +kernel
theorem d_Cs_move_4 : decode prog_2_method_6_code 4 = .ok (.iload_n 2, 1) := by decide +kernel
theorem d_Cs_move_5 : decode prog_2_method_6_code 5 = .ok (.aload_n 0, 1) := by decide +kernel
theorem d_Cs_move_6 : decode prog_2_method_6_code 6 = .ok (.getfield 11, 3) := by decide +kernel
theorem d_Cs_move_9 : decode prog_2_method_6_code 9 = .ok (.iload_n 1, 1) := by decide +kernel
theorem d_Cs_move_10 : decode prog_2_method_6_code 10 = .ok (.laload, 1) := by decide +kernel
theorem d_Cs_move_11 : decode prog_2_method_6_code 11 = .ok (.lastore, 1) := by decide +kernel
theorem d_Cs_move_12 : decode prog_2_method_6_code 12 = .ok (.aload_n 0, 1) := by decide +kernel
theorem d_Cs_move_13 : decode prog_2_method_6_code 13 = .ok (.getfield 15, 3) := by decide +kernel
theorem d_Cs_move_16 : decode prog_2_method_6_code 16 = .ok (.iload_n 2, 1) := by decide +kernel
theorem d_Cs_move_17 : decode prog_2_method_6_code 17 = .ok (.aload_n 0, 1) := by decide +kernel
theorem d_Cs_move_18 : decode prog_2_method_6_code 18 = .ok (.getfield 15, 3) := by decide +kernel
theorem d_Cs_move_21 : decode prog_2_method_6_code 21 = .ok (.iload_n 1, 1) := by decide +kernel
theorem d_Cs_move_22 : decode prog_2_method_6_code 22 = .ok (.laload, 1) := by decide +kernel
theorem d_Cs_move_23 : decode prog_2_method_6_code 23 = .ok (.lastore, 1) := by decide +kernel
theorem d_Cs_move_24 : decode prog_2_method_6_code 24 = .ok (.return_, 1) := by decide +kernel
theorem d_Cs_wipe_0 : decode prog_2_method_2_code 0 = .ok (.aload_n 0, 1) := by decide +kernel
theorem d_Cs_wipe_1 : decode prog_2_method_2_code 1 = .ok (.iconst 0, 1) := by decide +kernel
theorem d_Cs_wipe_2 : decode prog_2_method_2_code 2 = .ok (.putfield 18, 3) := by decide +kernel
theorem d_Cs_wipe_5 : decode prog_2_method_2_code 5 = .ok (.aload_n 0, 1) := by decide +kernel
theorem d_Cs_wipe_6 : decode prog_2_method_2_code 6 = .ok (.iconst 0, 1) := by decide +kernel
theorem d_Cs_wipe_7 : decode prog_2_method_2_code 7 = .ok (.putfield 22, 3) := by decide +kernel
theorem d_Cs_wipe_10 : decode prog_2_method_2_code 10 = .ok (.return_, 1) := by decide +kernel
theorem d_Ne_init_0 : decode prog_3_method_1_code 0 = .ok (.aload_n 0, 1) := by decide +kernel
theorem d_Ne_init_1 : decode prog_3_method_1_code 1 = .ok (.invokespecial 3, 3) := by decide +kernel
theorem d_Ne_init_4 : decode prog_3_method_1_code 4 = .ok (.aload_n 0, 1) := by decide +kernel
theorem d_Ne_init_5 : decode prog_3_method_1_code 5 = .ok (.bipush 8, 2) := by decide +kernel
theorem d_Ne_init_7 : decode prog_3_method_1_code 7 = .ok (.newarray .int, 2) := by decide +kernel
theorem d_Ne_init_9 : decode prog_3_method_1_code 9 = .ok (.putfield 9, 3) := by decide +kernel
theorem d_Ne_init_12 : decode prog_3_method_1_code 12 = .ok (.aload_n 0, 1) := by decide +kernel
theorem d_Ne_init_13 : decode prog_3_method_1_code 13 = .ok (.bipush 8, 2) := by decide +kernel
theorem d_Ne_init_15 : decode prog_3_method_1_code 15 = .ok (.newarray .int, 2) := by decide +kernel
theorem d_Ne_init_17 : decode prog_3_method_1_code 17 = .ok (.putfield 15, 3) := by decide +kernel
theorem d_Ne_init_20 : decode prog_3_method_1_code 20 = .ok (.return_, 1) := by decide +kernel
theorem d_Ne_add_0 : decode prog_3_method_3_code 0 = .ok (.aload_n 0, 1) := by decide +kernel
theorem d_Ne_add_1 : decode prog_3_method_3_code 1 = .ok (.getfield 9, 3) := by decide +kernel
theorem d_Ne_add_4 : decode prog_3_method_3_code 4 = .ok (.aload_n 0, 1) := by decide +kernel
theorem d_Ne_add_5 : decode prog_3_method_3_code 5 = .ok (.getfield 18, 3) := by decide +kernel
theorem d_Ne_add_8 : decode prog_3_method_3_code 8 = .ok (.iload_n 1, 1) := by decide +kernel
theorem d_Ne_add_9 : decode prog_3_method_3_code 9 = .ok (.iastore, 1) := by decide +kernel
theorem d_Ne_add_10 : decode prog_3_method_3_code 10 = .ok (.aload_n 0, 1) := by decide +kernel
theorem d_Ne_add_11 : decode prog_3_method_3_code 11 = .ok (.getfield 15, 3) := by decide +kernel
theorem d_Ne_add_14 : decode prog_3_method_3_code 14 = .ok (.aload_n 0, 1) := by decide +kernel
theorem d_Ne_add_15 : decode prog_3_method_3_code 15 = .ok (.getfield 18, 3) := by decide +kernel
theorem d_Ne_add_18 : decode prog_3_method_3_code 18 = .ok (.iload_n 2, 1) := by decide +kernel
theorem d_Ne_add_19 : decode prog_3_method_3_code 19 = .ok (.iastore, 1) := by decide +kernel
theorem d_Ne_add_20 : decode prog_3_method_3_code 20 = .ok (.aload_n 0, 1) := by decide +kernel
theorem d_Ne_add_21 : decode prog_3_method_3_code 21 = .ok (.dup, 1) := by decide +kernel
theorem d_Ne_add_22 : decode prog_3_method_3_code 22 = .ok (.getfield 18, 3) := by decide +kernel
theorem d_Ne_add_25 : decode prog_3_method_3_code 25 = .ok (.iconst 1, 1) := by decide +kernel
theorem d_Ne_add_26 : decode prog_3_method_3_code 26 = .ok (.iadd, 1) := by decide +kernel
theorem d_Ne_add_27 : decode prog_3_method_3_code 27 = .ok (.putfield 18, 3) := by decide +kernel
theorem d_Ne_add_30 : decode prog_3_method_3_code 30 = .ok (.aload_n 0, 1) := by decide +kernel
theorem d_Ne_add_31 : decode prog_3_method_3_code 31 = .ok (.getfield 18, 3) := by decide +kernel
theorem d_Ne_add_34 : decode prog_3_method_3_code 34 = .ok (.iconst 1, 1) := by decide +kernel
theorem d_Ne_add_35 : decode prog_3_method_3_code 35 = .ok (.isub, 1) := by decide +kernel
theorem d_Ne_add_36 : decode prog_3_method_3_code 36 = .ok (.ireturn, 1) := by decide +kernel
theorem d_Ne_enables_0 : decode prog_3_method_4_code 0 = .ok (.iload_n 2, 1) := by decide +kernel
theorem d_Ne_enables_1 : decode prog_3_method_4_code 1 = .ok (.ifCond .lt 32, 3) := by decide +kernel
theorem d_Ne_enables_4 : decode prog_3_method_4_code 4 = .ok (.iload_n 2, 1) := by decide +kernel
theorem d_Ne_enables_5 : decode prog_3_method_4_code 5 = .ok (.aload_n 0, 1) := by decide +kernel
theorem d_Ne_enables_6 : decode prog_3_method_4_code 6 = .ok (.getfield 18, 3) := by decide +kernel
theorem d_Ne_enables_9 : decode prog_3_method_4_code 9 = .ok (.if_icmp .ge 24, 3) := by decide +kernel
theorem d_Ne_enables_12 : decode prog_3_method_4_code 12 = .ok (.iload_n 1, 1) := by decide +kernel
theorem d_Ne_enables_13 : decode prog_3_method_4_code 13 = .ok (.aload_n 0, 1) := by decide +kernel
theorem d_Ne_enables_14 : decode prog_3_method_4_code 14 = .ok (.getfield 9, 3) := by decide +kernel
theorem d_Ne_enables_17 : decode prog_3_method_4_code 17 = .ok (.iload_n 2, 1) := by decide +kernel
theorem d_Ne_enables_18 : decode prog_3_method_4_code 18 = .ok (.iaload, 1) := by decide +kernel
theorem d_Ne_enables_19 : decode prog_3_method_4_code 19 = .ok (.iand, 1) := by decide +kernel
theorem d_Ne_enables_20 : decode prog_3_method_4_code 20 = .ok (.aload_n 0, 1) := by decide +kernel
theorem d_Ne_enables_21 : decode prog_3_method_4_code 21 = .ok (.getfield 9, 3) := by decide +kernel
theorem d_Ne_enables_24 : decode prog_3_method_4_code 24 = .ok (.iload_n 2, 1) := by decide +kernel
theorem d_Ne_enables_25 : decode prog_3_method_4_code 25 = .ok (.iaload, 1) := by decide +kernel
theorem d_Ne_enables_26 : decode prog_3_method_4_code 26 = .ok (.if_icmp .ne 7, 3) := by decide +kernel
theorem d_Ne_enables_29 : decode prog_3_method_4_code 29 = .ok (.iconst 1, 1) := by decide +kernel
theorem d_Ne_enables_30 : decode prog_3_method_4_code 30 = .ok (.goto 4, 3) := by decide +kernel
theorem d_Ne_enables_33 : decode prog_3_method_4_code 33 = .ok (.iconst 0, 1) := by decide +kernel
theorem d_Ne_enables_34 : decode prog_3_method_4_code 34 = .ok (.ireturn, 1) := by decide +kernel
theorem d_Ne_fire_0 : decode prog_3_method_5_code 0 = .ok (.iload_n 1, 1) := by decide +kernel
theorem d_Ne_fire_1 : decode prog_3_method_5_code 1 = .ok (.aload_n 0, 1) := by decide +kernel
theorem d_Ne_fire_2 : decode prog_3_method_5_code 2 = .ok (.getfield 9, 3) := by decide +kernel
theorem d_Ne_fire_5 : decode prog_3_method_5_code 5 = .ok (.iload_n 2, 1) := by decide +kernel
theorem d_Ne_fire_6 : decode prog_3_method_5_code 6 = .ok (.iaload, 1) := by decide +kernel
theorem d_Ne_fire_7 : decode prog_3_method_5_code 7 = .ok (.iconst (-1), 1) := by decide +kernel
theorem d_Ne_fire_8 : decode prog_3_method_5_code 8 = .ok (.ixor, 1) := by decide +kernel
theorem d_Ne_fire_9 : decode prog_3_method_5_code 9 = .ok (.iand, 1) := by decide +kernel
theorem d_Ne_fire_10 : decode prog_3_method_5_code 10 = .ok (.aload_n 0, 1) := by decide +kernel
theorem d_Ne_fire_11 : decode prog_3_method_5_code 11 = .ok (.getfield 15, 3) := by decide +kernel
theorem d_Ne_fire_14 : decode prog_3_method_5_code 14 = .ok (.iload_n 2, 1) := by decide +kernel
theorem d_Ne_fire_15 : decode prog_3_method_5_code 15 = .ok (.iaload, 1) := by decide +kernel
theorem d_Ne_fire_16 : decode prog_3_method_5_code 16 = .ok (.ior, 1) := by decide +kernel
theorem d_Ne_fire_17 : decode prog_3_method_5_code 17 = .ok (.ireturn, 1) := by decide +kernel
theorem d_Ne_wipe_0 : decode prog_3_method_2_code 0 = .ok (.aload_n 0, 1) := by decide +kernel
theorem d_Ne_wipe_1 : decode prog_3_method_2_code 1 = .ok (.iconst 0, 1) := by decide +kernel
theorem d_Ne_wipe_2 : decode prog_3_method_2_code 2 = .ok (.putfield 18, 3) := by decide +kernel
theorem d_Ne_wipe_5 : decode prog_3_method_2_code 5 = .ok (.aload_n 0, 1) := by decide +kernel
theorem d_Ne_wipe_6 : decode prog_3_method_2_code 6 = .ok (.iconst 0, 1) := by decide +kernel
theorem d_Ne_wipe_7 : decode prog_3_method_2_code 7 = .ok (.putfield 22, 3) := by decide +kernel
theorem d_Ne_wipe_10 : decode prog_3_method_2_code 10 = .ok (.return_, 1) := by decide +kernel
theorem d_Po_init_0 : decode prog_4_method_1_code 0 = .ok (.aload_n 0, 1) := by decide +kernel
theorem d_Po_init_1 : decode prog_4_method_1_code 1 = .ok (.invokespecial 3, 3) := by decide +kernel
theorem d_Po_init_4 : decode prog_4_method_1_code 4 = .ok (.aload_n 0, 1) := by decide +kernel
theorem d_Po_init_5 : decode prog_4_method_1_code 5 = .ok (.sipush 201, 3) := by decide +kernel
theorem d_Po_init_8 : decode prog_4_method_1_code 8 = .ok (.newarray .int, 2) := by decide +kernel
theorem d_Po_init_10 : decode prog_4_method_1_code 10 = .ok (.putfield 9, 3) := by decide +kernel
theorem d_Po_init_13 : decode prog_4_method_1_code 13 = .ok (.aload_n 0, 1) := by decide +kernel
theorem d_Po_init_14 : decode prog_4_method_1_code 14 = .ok (.sipush 201, 3) := by decide +kernel
theorem d_Po_init_17 : decode prog_4_method_1_code 17 = .ok (.newarray .long, 2) := by decide +kernel
theorem d_Po_init_19 : decode prog_4_method_1_code 19 = .ok (.putfield 15, 3) := by decide +kernel
theorem d_Po_init_22 : decode prog_4_method_1_code 22 = .ok (.aload_n 0, 1) := by decide +kernel
theorem d_Po_init_23 : decode prog_4_method_1_code 23 = .ok (.sipush 201, 3) := by decide +kernel
theorem d_Po_init_26 : decode prog_4_method_1_code 26 = .ok (.newarray .long, 2) := by decide +kernel
theorem d_Po_init_28 : decode prog_4_method_1_code 28 = .ok (.putfield 19, 3) := by decide +kernel
theorem d_Po_init_31 : decode prog_4_method_1_code 31 = .ok (.aload_n 0, 1) := by decide +kernel
theorem d_Po_init_32 : decode prog_4_method_1_code 32 = .ok (.aload_n 1, 1) := by decide +kernel
theorem d_Po_init_33 : decode prog_4_method_1_code 33 = .ok (.putfield 22, 3) := by decide +kernel
theorem d_Po_init_36 : decode prog_4_method_1_code 36 = .ok (.return_, 1) := by decide +kernel
theorem d_Po_add_0 : decode prog_4_method_4_code 0 = .ok (.aload_n 0, 1) := by decide +kernel
theorem d_Po_add_1 : decode prog_4_method_4_code 1 = .ok (.invokevirtual 30, 3) := by decide +kernel
theorem d_Po_add_4 : decode prog_4_method_4_code 4 = .ok (.ifCond .ne 44, 3) := by decide +kernel
theorem d_Po_add_7 : decode prog_4_method_4_code 7 = .ok (.aload_n 0, 1) := by decide +kernel
theorem d_Po_add_8 : decode prog_4_method_4_code 8 = .ok (.getfield 9, 3) := by decide +kernel
theorem d_Po_add_11 : decode prog_4_method_4_code 11 = .ok (.aload_n 0, 1) := by decide +kernel
theorem d_Po_add_12 : decode prog_4_method_4_code 12 = .ok (.getfield 26, 3) := by decide +kernel
theorem d_Po_add_15 : decode prog_4_method_4_code 15 = .ok (.iload_n 1, 1) := by decide +kernel
theorem d_Po_add_16 : decode prog_4_method_4_code 16 = .ok (.iastore, 1) := by decide +kernel
theorem d_Po_add_17 : decode prog_4_method_4_code 17 = .ok (.aload_n 0, 1) := by decide +kernel
theorem d_Po_add_18 : decode prog_4_method_4_code 18 = .ok (.getfield 15, 3) := by decide +kernel
theorem d_Po_add_21 : decode prog_4_method_4_code 21 = .ok (.aload_n 0, 1) := by decide +kernel
theorem d_Po_add_22 : decode prog_4_method_4_code 22 = .ok (.getfield 26, 3) := by decide +kernel
theorem d_Po_add_25 : decode prog_4_method_4_code 25 = .ok (.lload_n 2, 1) := by decide +kernel
theorem d_Po_add_26 : decode prog_4_method_4_code 26 = .ok (.lastore, 1) := by decide +kernel
theorem d_Po_add_27 : decode prog_4_method_4_code 27 = .ok (.aload_n 0, 1) := by decide +kernel
theorem d_Po_add_28 : decode prog_4_method_4_code 28 = .ok (.getfield 19, 3) := by decide +kernel
theorem d_Po_add_31 : decode prog_4_method_4_code 31 = .ok (.aload_n 0, 1) := by decide +kernel
theorem d_Po_add_32 : decode prog_4_method_4_code 32 = .ok (.getfield 26, 3) := by decide +kernel
theorem d_Po_add_35 : decode prog_4_method_4_code 35 = .ok (.lload 4, 2) := by decide +kernel
theorem d_Po_add_37 : decode prog_4_method_4_code 37 = .ok (.lastore, 1) := by decide +kernel
theorem d_Po_add_38 : decode prog_4_method_4_code 38 = .ok (.aload_n 0, 1) := by decide +kernel
theorem d_Po_add_39 : decode prog_4_method_4_code 39 = .ok (.dup, 1) := by decide +kernel
theorem d_Po_add_40 : decode prog_4_method_4_code 40 = .ok (.getfield 26, 3) := by decide +kernel
theorem d_Po_add_43 : decode prog_4_method_4_code 43 = .ok (.iconst 1, 1) := by decide +kernel
theorem d_Po_add_44 : decode prog_4_method_4_code 44 = .ok (.iadd, 1) := by decide +kernel
theorem d_Po_add_45 : decode prog_4_method_4_code 45 = .ok (.putfield 26, 3) := by decide +kernel
theorem d_Po_add_48 : decode prog_4_method_4_code 48 = .ok (.return_, 1) := by decide +kernel
theorem d_Po_comesBefore_0 : decode prog_4_method_7_code 0 = .ok (.aload_n 0, 1) := by decide +kernel
theorem d_Po_comesBefore_1 : decode prog_4_method_7_code 1 = .ok (.getfield 19, 3) := by decide +kernel
theorem d_Po_comesBefore_4 : decode prog_4_method_7_code 4 = .ok (.iload_n 1, 1) := by decide +kernel
