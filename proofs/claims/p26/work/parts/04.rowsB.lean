theorem dX4_init_0 : decode cX4_init 0 = .ok (.aload_n 0, 1) := by decide +kernel
theorem dX4_init_1 : decode cX4_init 1 = .ok (.invokespecial 3, 3) := by decide +kernel
theorem dX4_init_4 : decode cX4_init 4 = .ok (.aload_n 0, 1) := by decide +kernel
theorem dX4_init_5 : decode cX4_init 5 = .ok (.iconst 5, 1) := by decide +kernel
theorem dX4_init_6 : decode cX4_init 6 = .ok (.newarray .int, 2) := by decide +kernel
theorem dX4_init_8 : decode cX4_init 8 = .ok (.putfield 9, 3) := by decide +kernel
theorem dX4_init_11 : decode cX4_init 11 = .ok (.aload_n 0, 1) := by decide +kernel
theorem dX4_init_12 : decode cX4_init 12 = .ok (.iconst 5, 1) := by decide +kernel
theorem dX4_init_13 : decode cX4_init 13 = .ok (.newarray .int, 2) := by decide +kernel
theorem dX4_init_15 : decode cX4_init 15 = .ok (.putfield 13, 3) := by decide +kernel
theorem dX4_init_18 : decode cX4_init 18 = .ok (.aload_n 0, 1) := by decide +kernel
theorem dX4_init_19 : decode cX4_init 19 = .ok (.new 16, 3) := by decide +kernel
theorem dX4_init_22 : decode cX4_init 22 = .ok (.dup, 1) := by decide +kernel
theorem dX4_init_23 : decode cX4_init 23 = .ok (.invokespecial 18, 3) := by decide +kernel
theorem dX4_init_26 : decode cX4_init 26 = .ok (.putfield 19, 3) := by decide +kernel
theorem dX4_init_29 : decode cX4_init 29 = .ok (.aload_n 0, 1) := by decide +kernel
theorem dX4_init_30 : decode cX4_init 30 = .ok (.bipush 20, 2) := by decide +kernel
theorem dX4_init_32 : decode cX4_init 32 = .ok (.anewarray 23, 3) := by decide +kernel
theorem dX4_init_35 : decode cX4_init 35 = .ok (.putfield 25, 3) := by decide +kernel
theorem dX4_init_38 : decode cX4_init 38 = .ok (.aload_n 0, 1) := by decide +kernel
theorem dX4_init_39 : decode cX4_init 39 = .ok (.bipush 60, 2) := by decide +kernel
theorem dX4_init_41 : decode cX4_init 41 = .ok (.anewarray 29, 3) := by decide +kernel
theorem dX4_init_44 : decode cX4_init 44 = .ok (.putfield 31, 3) := by decide +kernel
theorem dX4_init_47 : decode cX4_init 47 = .ok (.aload_n 0, 1) := by decide +kernel
theorem dX4_init_48 : decode cX4_init 48 = .ok (.new 35, 3) := by decide +kernel
theorem dX4_init_51 : decode cX4_init 51 = .ok (.dup, 1) := by decide +kernel
theorem dX4_init_52 : decode cX4_init 52 = .ok (.invokespecial 37, 3) := by decide +kernel
theorem dX4_init_55 : decode cX4_init 55 = .ok (.putfield 38, 3) := by decide +kernel
theorem dX4_init_58 : decode cX4_init 58 = .ok (.aload_n 0, 1) := by decide +kernel
theorem dX4_init_59 : decode cX4_init 59 = .ok (.getfield 9, 3) := by decide +kernel
theorem dX4_init_62 : decode cX4_init 62 = .ok (.iconst 1, 1) := by decide +kernel
theorem dX4_init_63 : decode cX4_init 63 = .ok (.invokestatic 42, 3) := by decide +kernel
theorem dX4_init_66 : decode cX4_init 66 = .ok (.aload_n 0, 1) := by decide +kernel
theorem dX4_init_67 : decode cX4_init 67 = .ok (.getfield 13, 3) := by decide +kernel
theorem dX4_init_70 : decode cX4_init 70 = .ok (.bipush 10, 2) := by decide +kernel
theorem dX4_init_72 : decode cX4_init 72 = .ok (.invokestatic 42, 3) := by decide +kernel
theorem dX4_init_75 : decode cX4_init 75 = .ok (.return_, 1) := by decide +kernel
theorem dX4_tariff_0 : decode cX4_tariff 0 = .ok (.iload_n 1, 1) := by decide +kernel
theorem dX4_tariff_1 : decode cX4_tariff 1 = .ok (.invokestatic 48, 3) := by decide +kernel
theorem dX4_tariff_4 : decode cX4_tariff 4 = .ok (.iload_n 2, 1) := by decide +kernel
theorem dX4_tariff_5 : decode cX4_tariff 5 = .ok (.iconst 1, 1) := by decide +kernel
theorem dX4_tariff_6 : decode cX4_tariff 6 = .ok (.bipush 10, 2) := by decide +kernel
theorem dX4_tariff_8 : decode cX4_tariff 8 = .ok (.invokestatic 52, 3) := by decide +kernel
theorem dX4_tariff_11 : decode cX4_tariff 11 = .ok (.ifCond .eq 14, 3) := by decide +kernel
theorem dX4_tariff_14 : decode cX4_tariff 14 = .ok (.iload_n 3, 1) := by decide +kernel
theorem dX4_tariff_15 : decode cX4_tariff 15 = .ok (.iconst 0, 1) := by decide +kernel
theorem dX4_tariff_16 : decode cX4_tariff 16 = .ok (.sipush 1000, 3) := by decide +kernel
theorem dX4_tariff_19 : decode cX4_tariff 19 = .ok (.invokestatic 52, 3) := by decide +kernel
theorem dX4_tariff_22 : decode cX4_tariff 22 = .ok (.ifCond .ne 13, 3) := by decide +kernel
theorem dX4_tariff_25 : decode cX4_tariff 25 = .ok (.new 56, 3) := by decide +kernel
theorem dX4_tariff_28 : decode cX4_tariff 28 = .ok (.dup, 1) := by decide +kernel
theorem dX4_tariff_29 : decode cX4_tariff 29 = .ok (.ldc 58, 2) := by decide +kernel
theorem dX4_tariff_31 : decode cX4_tariff 31 = .ok (.invokespecial 60, 3) := by decide +kernel
theorem dX4_tariff_34 : decode cX4_tariff 34 = .ok (.athrow, 1) := by decide +kernel
theorem dX4_tariff_35 : decode cX4_tariff 35 = .ok (.aload_n 0, 1) := by decide +kernel
theorem dX4_tariff_36 : decode cX4_tariff 36 = .ok (.getfield 13, 3) := by decide +kernel
theorem dX4_tariff_39 : decode cX4_tariff 39 = .ok (.iload_n 1, 1) := by decide +kernel
theorem dX4_tariff_40 : decode cX4_tariff 40 = .ok (.iaload, 1) := by decide +kernel
theorem dX4_tariff_41 : decode cX4_tariff 41 = .ok (.istore 4, 2) := by decide +kernel
theorem dX4_tariff_43 : decode cX4_tariff 43 = .ok (.aload_n 0, 1) := by decide +kernel
theorem dX4_tariff_44 : decode cX4_tariff 44 = .ok (.getfield 9, 3) := by decide +kernel
theorem dX4_tariff_47 : decode cX4_tariff 47 = .ok (.iload_n 1, 1) := by decide +kernel
theorem dX4_tariff_48 : decode cX4_tariff 48 = .ok (.iload_n 2, 1) := by decide +kernel
theorem dX4_tariff_49 : decode cX4_tariff 49 = .ok (.iastore, 1) := by decide +kernel
theorem dX4_tariff_50 : decode cX4_tariff 50 = .ok (.aload_n 0, 1) := by decide +kernel
theorem dX4_tariff_51 : decode cX4_tariff 51 = .ok (.getfield 13, 3) := by decide +kernel
theorem dX4_tariff_54 : decode cX4_tariff 54 = .ok (.iload_n 1, 1) := by decide +kernel
theorem dX4_tariff_55 : decode cX4_tariff 55 = .ok (.iload_n 3, 1) := by decide +kernel
theorem dX4_tariff_56 : decode cX4_tariff 56 = .ok (.iastore, 1) := by decide +kernel
theorem dX4_tariff_57 : decode cX4_tariff 57 = .ok (.iload 4, 2) := by decide +kernel
theorem dX4_tariff_59 : decode cX4_tariff 59 = .ok (.ireturn, 1) := by decide +kernel
theorem dX4_link_0 : decode cX4_link 0 = .ok (.iload_n 1, 1) := by decide +kernel
theorem dX4_link_1 : decode cX4_link 1 = .ok (.invokestatic 48, 3) := by decide +kernel
theorem dX4_link_4 : decode cX4_link 4 = .ok (.iload_n 2, 1) := by decide +kernel
theorem dX4_link_5 : decode cX4_link 5 = .ok (.invokestatic 48, 3) := by decide +kernel
theorem dX4_link_8 : decode cX4_link 8 = .ok (.iload_n 1, 1) := by decide +kernel
theorem dX4_link_9 : decode cX4_link 9 = .ok (.iload_n 2, 1) := by decide +kernel
theorem dX4_link_10 : decode cX4_link 10 = .ok (.if_icmp .eq 24, 3) := by decide +kernel
theorem dX4_link_13 : decode cX4_link 13 = .ok (.iload_n 3, 1) := by decide +kernel
theorem dX4_link_14 : decode cX4_link 14 = .ok (.iconst 0, 1) := by decide +kernel
theorem dX4_link_15 : decode cX4_link 15 = .ok (.bipush 100, 2) := by decide +kernel
theorem dX4_link_17 : decode cX4_link 17 = .ok (.invokestatic 52, 3) := by decide +kernel
theorem dX4_link_20 : decode cX4_link 20 = .ok (.ifCond .eq 14, 3) := by decide +kernel
theorem dX4_link_23 : decode cX4_link 23 = .ok (.iload 4, 2) := by decide +kernel
theorem dX4_link_25 : decode cX4_link 25 = .ok (.iconst 0, 1) := by decide +kernel
theorem dX4_link_26 : decode cX4_link 26 = .ok (.ldc 63, 2) := by decide +kernel
theorem dX4_link_28 : decode cX4_link 28 = .ok (.invokestatic 52, 3) := by decide +kernel
theorem dX4_link_31 : decode cX4_link 31 = .ok (.ifCond .ne 13, 3) := by decide +kernel
theorem dX4_link_34 : decode cX4_link 34 = .ok (.new 56, 3) := by decide +kernel
theorem dX4_link_37 : decode cX4_link 37 = .ok (.dup, 1) := by decide +kernel
theorem dX4_link_38 : decode cX4_link 38 = .ok (.ldc 64, 2) := by decide +kernel
theorem dX4_link_40 : decode cX4_link 40 = .ok (.invokespecial 60, 3) := by decide +kernel
theorem dX4_link_43 : decode cX4_link 43 = .ok (.athrow, 1) := by decide +kernel
theorem dX4_link_44 : decode cX4_link 44 = .ok (.aload_n 0, 1) := by decide +kernel
theorem dX4_link_45 : decode cX4_link 45 = .ok (.getfield 19, 3) := by decide +kernel
theorem dX4_link_48 : decode cX4_link 48 = .ok (.iload_n 1, 1) := by decide +kernel
theorem dX4_link_49 : decode cX4_link 49 = .ok (.iload_n 2, 1) := by decide +kernel
theorem dX4_link_50 : decode cX4_link 50 = .ok (.invokevirtual 66, 3) := by decide +kernel
theorem dX4_link_53 : decode cX4_link 53 = .ok (.iconst (-1), 1) := by decide +kernel
theorem dX4_link_54 : decode cX4_link 54 = .ok (.if_icmp .eq 7, 3) := by decide +kernel
theorem dX4_link_57 : decode cX4_link 57 = .ok (.iconst 1, 1) := by decide +kernel
theorem dX4_link_58 : decode cX4_link 58 = .ok (.goto 4, 3) := by decide +kernel
theorem dX4_link_61 : decode cX4_link 61 = .ok (.iconst 0, 1) := by decide +kernel
theorem dX4_link_62 : decode cX4_link 62 = .ok (.istore 5, 2) := by decide +kernel
theorem dX4_link_64 : decode cX4_link 64 = .ok (.aload_n 0, 1) := by decide +kernel
theorem dX4_link_65 : decode cX4_link 65 = .ok (.getfield 19, 3) := by decide +kernel
theorem dX4_link_68 : decode cX4_link 68 = .ok (.iload_n 1, 1) := by decide +kernel
theorem dX4_link_69 : decode cX4_link 69 = .ok (.iload_n 2, 1) := by decide +kernel
theorem dX4_link_70 : decode cX4_link 70 = .ok (.iload_n 3, 1) := by decide +kernel
theorem dX4_link_71 : decode cX4_link 71 = .ok (.iload 4, 2) := by decide +kernel
theorem dX4_link_73 : decode cX4_link 73 = .ok (.invokevirtual 70, 3) := by decide +kernel
theorem dX4_link_76 : decode cX4_link 76 = .ok (.iload 5, 2) := by decide +kernel
theorem dX4_link_78 : decode cX4_link 78 = .ok (.ireturn, 1) := by decide +kernel
theorem dX4_unlink_0 : decode cX4_unlink 0 = .ok (.iload_n 1, 1) := by decide +kernel
theorem dX4_unlink_1 : decode cX4_unlink 1 = .ok (.invokestatic 48, 3) := by decide +kernel
theorem dX4_unlink_4 : decode cX4_unlink 4 = .ok (.iload_n 2, 1) := by decide +kernel
theorem dX4_unlink_5 : decode cX4_unlink 5 = .ok (.invokestatic 48, 3) := by decide +kernel
theorem dX4_unlink_8 : decode cX4_unlink 8 = .ok (.aload_n 0, 1) := by decide +kernel
theorem dX4_unlink_9 : decode cX4_unlink 9 = .ok (.getfield 19, 3) := by decide +kernel
theorem dX4_unlink_12 : decode cX4_unlink 12 = .ok (.iload_n 1, 1) := by decide +kernel
theorem dX4_unlink_13 : decode cX4_unlink 13 = .ok (.iload_n 2, 1) := by decide +kernel
theorem dX4_unlink_14 : decode cX4_unlink 14 = .ok (.invokevirtual 66, 3) := by decide +kernel
theorem dX4_unlink_17 : decode cX4_unlink 17 = .ok (.istore_n 3, 1) := by decide +kernel
theorem dX4_unlink_18 : decode cX4_unlink 18 = .ok (.iload_n 3, 1) := by decide +kernel
theorem dX4_unlink_19 : decode cX4_unlink 19 = .ok (.iconst (-1), 1) := by decide +kernel
theorem dX4_unlink_20 : decode cX4_unlink 20 = .ok (.if_icmp .ne 13, 3) := by decide +kernel
theorem dX4_unlink_23 : decode cX4_unlink 23 = .ok (.new 74, 3) := by decide +kernel
theorem dX4_unlink_26 : decode cX4_unlink 26 = .ok (.dup, 1) := by decide +kernel
theorem dX4_unlink_27 : decode cX4_unlink 27 = .ok (.ldc 76, 2) := by decide +kernel
theorem dX4_unlink_29 : decode cX4_unlink 29 = .ok (.invokespecial 78, 3) := by decide +kernel
theorem dX4_unlink_32 : decode cX4_unlink 32 = .ok (.athrow, 1) := by decide +kernel
theorem dX4_unlink_33 : decode cX4_unlink 33 = .ok (.aload_n 0, 1) := by decide +kernel
theorem dX4_unlink_34 : decode cX4_unlink 34 = .ok (.getfield 19, 3) := by decide +kernel
theorem dX4_unlink_37 : decode cX4_unlink 37 = .ok (.iload_n 1, 1) := by decide +kernel
theorem dX4_unlink_38 : decode cX4_unlink 38 = .ok (.iload_n 2, 1) := by decide +kernel
theorem dX4_unlink_39 : decode cX4_unlink 39 = .ok (.iconst (-1), 1) := by decide +kernel
theorem dX4_unlink_40 : decode cX4_unlink 40 = .ok (.iconst 0, 1) := by decide +kernel
theorem dX4_unlink_41 : decode cX4_unlink 41 = .ok (.invokevirtual 70, 3) := by decide +kernel
theorem dX4_unlink_44 : decode cX4_unlink 44 = .ok (.iload_n 3, 1) := by decide +kernel
theorem dX4_unlink_45 : decode cX4_unlink 45 = .ok (.ireturn, 1) := by decide +kernel
theorem dX4_number_0 : decode cX4_number 0 = .ok (.iload_n 1, 1) := by decide +kernel
theorem dX4_number_1 : decode cX4_number 1 = .ok (.invokestatic 48, 3) := by decide +kernel
theorem dX4_number_4 : decode cX4_number 4 = .ok (.iload_n 2, 1) := by decide +kernel
theorem dX4_number_5 : decode cX4_number 5 = .ok (.iload_n 3, 1) := by decide +kernel
theorem dX4_number_6 : decode cX4_number 6 = .ok (.invokestatic 79, 3) := by decide +kernel
theorem dX4_number_9 : decode cX4_number 9 = .ok (.aload_n 0, 1) := by decide +kernel
theorem dX4_number_10 : decode cX4_number 10 = .ok (.getfield 83, 3) := by decide +kernel
theorem dX4_number_13 : decode cX4_number 13 = .ok (.istore 4, 2) := by decide +kernel
theorem dX4_number_15 : decode cX4_number 15 = .ok (.iload 4, 2) := by decide +kernel
theorem dX4_number_17 : decode cX4_number 17 = .ok (.ifCond .lt 10, 3) := by decide +kernel
theorem dX4_number_20 : decode cX4_number 20 = .ok (.iload 4, 2) := by decide +kernel
theorem dX4_number_22 : decode cX4_number 22 = .ok (.bipush 20, 2) := by decide +kernel
theorem dX4_number_24 : decode cX4_number 24 = .ok (.if_icmp .lt 13, 3) := by decide +kernel
theorem dX4_number_27 : decode cX4_number 27 = .ok (.new 74, 3) := by decide +kernel
theorem dX4_number_30 : decode cX4_number 30 = .ok (.dup, 1) := by decide +kernel
theorem dX4_number_31 : decode cX4_number 31 = .ok (.ldc 87, 2) := by decide +kernel
theorem dX4_number_33 : decode cX4_number 33 = .ok (.invokespecial 78, 3) := by decide +kernel
theorem dX4_number_36 : decode cX4_number 36 = .ok (.athrow, 1) := by decide +kernel
theorem dX4_number_37 : decode cX4_number 37 = .ok (.aload_n 0, 1) := by decide +kernel
theorem dX4_number_38 : decode cX4_number 38 = .ok (.getfield 25, 3) := by decide +kernel
theorem dX4_number_41 : decode cX4_number 41 = .ok (.iload 4, 2) := by decide +kernel
theorem dX4_number_43 : decode cX4_number 43 = .ok (.new 23, 3) := by decide +kernel
theorem dX4_number_46 : decode cX4_number 46 = .ok (.dup, 1) := by decide +kernel
theorem dX4_number_47 : decode cX4_number 47 = .ok (.iload_n 1, 1) := by decide +kernel
theorem dX4_number_48 : decode cX4_number 48 = .ok (.iload_n 2, 1) := by decide +kernel
theorem dX4_number_49 : decode cX4_number 49 = .ok (.iload_n 3, 1) := by decide +kernel
theorem dX4_number_50 : decode cX4_number 50 = .ok (.invokespecial 89, 3) := by decide +kernel
theorem dX4_number_53 : decode cX4_number 53 = .ok (.aastore, 1) := by decide +kernel
theorem dX4_number_54 : decode cX4_number 54 = .ok (.aload_n 0, 1) := by decide +kernel
theorem dX4_number_55 : decode cX4_number 55 = .ok (.dup, 1) := by decide +kernel
theorem dX4_number_56 : decode cX4_number 56 = .ok (.getfield 83, 3) := by decide +kernel
theorem dX4_number_59 : decode cX4_number 59 = .ok (.iconst 1, 1) := by decide +kernel
theorem dX4_number_60 : decode cX4_number 60 = .ok (.iadd, 1) := by decide +kernel
theorem dX4_number_61 : decode cX4_number 61 = .ok (.putfield 83, 3) := by decide +kernel
theorem dX4_number_64 : decode cX4_number 64 = .ok (.iload 4, 2) := by decide +kernel
theorem dX4_number_66 : decode cX4_number 66 = .ok (.ireturn, 1) := by decide +kernel
theorem dX4_carryOver_0 : decode cX4_carryOver 0 = .ok (.aload_n 0, 1) := by decide +kernel
theorem dX4_carryOver_1 : decode cX4_carryOver 1 = .ok (.iload_n 1, 1) := by decide +kernel
theorem dX4_carryOver_2 : decode cX4_carryOver 2 = .ok (.invokevirtual 92, 3) := by decide +kernel
theorem dX4_carryOver_5 : decode cX4_carryOver 5 = .ok (.astore_n 3, 1) := by decide +kernel
theorem dX4_carryOver_6 : decode cX4_carryOver 6 = .ok (.iload_n 2, 1) := by decide +kernel
theorem dX4_carryOver_7 : decode cX4_carryOver 7 = .ok (.invokestatic 48, 3) := by decide +kernel
theorem dX4_carryOver_10 : decode cX4_carryOver 10 = .ok (.aload_n 3, 1) := by decide +kernel
theorem dX4_carryOver_11 : decode cX4_carryOver 11 = .ok (.iconst 0, 1) := by decide +kernel
theorem dX4_carryOver_12 : decode cX4_carryOver 12 = .ok (.invokevirtual 96, 3) := by decide +kernel
theorem dX4_carryOver_15 : decode cX4_carryOver 15 = .ok (.iload_n 2, 1) := by decide +kernel
theorem dX4_carryOver_16 : decode cX4_carryOver 16 = .ok (.if_icmp .ne 13, 3) := by decide +kernel
theorem dX4_carryOver_19 : decode cX4_carryOver 19 = .ok (.new 56, 3) := by decide +kernel
theorem dX4_carryOver_22 : decode cX4_carryOver 22 = .ok (.dup, 1) := by decide +kernel
theorem dX4_carryOver_23 : decode cX4_carryOver 23 = .ok (.ldc 100, 2) := by decide +kernel
theorem dX4_carryOver_25 : decode cX4_carryOver 25 = .ok (.invokespecial 60, 3) := by decide +kernel
theorem dX4_carryOver_28 : decode cX4_carryOver 28 = .ok (.athrow, 1) := by decide +kernel
theorem dX4_carryOver_29 : decode cX4_carryOver 29 = .ok (.aload_n 3, 1) := by decide +kernel
theorem dX4_carryOver_30 : decode cX4_carryOver 30 = .ok (.iload_n 2, 1) := by decide +kernel
theorem dX4_carryOver_31 : decode cX4_carryOver 31 = .ok (.invokevirtual 102, 3) := by decide +kernel
theorem dX4_carryOver_34 : decode cX4_carryOver 34 = .ok (.ifCond .ne 13, 3) := by decide +kernel
theorem dX4_carryOver_37 : decode cX4_carryOver 37 = .ok (.new 74, 3) := by decide +kernel
theorem dX4_carryOver_40 : decode cX4_carryOver 40 = .ok (.dup, 1) := by decide +kernel
theorem dX4_carryOver_41 : decode cX4_carryOver 41 = .ok (.ldc 106, 2) := by decide +kernel
theorem dX4_carryOver_43 : decode cX4_carryOver 43 = .ok (.invokespecial 78, 3) := by decide +kernel
theorem dX4_carryOver_46 : decode cX4_carryOver 46 = .ok (.athrow, 1) := by decide +kernel
theorem dX4_carryOver_47 : decode cX4_carryOver 47 = .ok (.aload_n 3, 1) := by decide +kernel
theorem dX4_carryOver_48 : decode cX4_carryOver 48 = .ok (.getfield 108, 3) := by decide +kernel
theorem dX4_carryOver_51 : decode cX4_carryOver 51 = .ok (.ireturn, 1) := by decide +kernel
theorem dX4_home_0 : decode cX4_home 0 = .ok (.aload_n 0, 1) := by decide +kernel
theorem dX4_home_1 : decode cX4_home 1 = .ok (.iload_n 1, 1) := by decide +kernel
theorem dX4_home_2 : decode cX4_home 2 = .ok (.invokevirtual 92, 3) := by decide +kernel
theorem dX4_home_5 : decode cX4_home 5 = .ok (.iload_n 2, 1) := by decide +kernel
theorem dX4_home_6 : decode cX4_home 6 = .ok (.invokevirtual 96, 3) := by decide +kernel
theorem dX4_home_9 : decode cX4_home 9 = .ok (.istore_n 3, 1) := by decide +kernel
theorem dX4_home_10 : decode cX4_home 10 = .ok (.iload_n 3, 1) := by decide +kernel
theorem dX4_home_11 : decode cX4_home 11 = .ok (.iconst (-1), 1) := by decide +kernel
theorem dX4_home_12 : decode cX4_home 12 = .ok (.if_icmp .ne 13, 3) := by decide +kernel
theorem dX4_home_15 : decode cX4_home 15 = .ok (.new 111, 3) := by decide +kernel
theorem dX4_home_18 : decode cX4_home 18 = .ok (.dup, 1) := by decide +kernel
theorem dX4_home_19 : decode cX4_home 19 = .ok (.ldc 113, 2) := by decide +kernel
theorem dX4_home_21 : decode cX4_home 21 = .ok (.invokespecial 115, 3) := by decide +kernel
theorem dX4_home_24 : decode cX4_home 24 = .ok (.athrow, 1) := by decide +kernel
theorem dX4_home_25 : decode cX4_home 25 = .ok (.iload_n 3, 1) := by decide +kernel
theorem dX4_home_26 : decode cX4_home 26 = .ok (.ireturn, 1) := by decide +kernel
theorem dX4_topUp_0 : decode cX4_topUp 0 = .ok (.aload_n 0, 1) := by decide +kernel
theorem dX4_topUp_1 : decode cX4_topUp 1 = .ok (.iload_n 1, 1) := by decide +kernel
theorem dX4_topUp_2 : decode cX4_topUp 2 = .ok (.invokevirtual 92, 3) := by decide +kernel
theorem dX4_topUp_5 : decode cX4_topUp 5 = .ok (.astore 4, 2) := by decide +kernel
theorem dX4_topUp_7 : decode cX4_topUp 7 = .ok (.iload_n 2, 1) := by decide +kernel
theorem dX4_topUp_8 : decode cX4_topUp 8 = .ok (.iload_n 3, 1) := by decide +kernel
theorem dX4_topUp_9 : decode cX4_topUp 9 = .ok (.invokestatic 79, 3) := by decide +kernel
theorem dX4_topUp_12 : decode cX4_topUp 12 = .ok (.aload 4, 2) := by decide +kernel
theorem dX4_topUp_14 : decode cX4_topUp 14 = .ok (.getfield 116, 3) := by decide +kernel
theorem dX4_topUp_17 : decode cX4_topUp 17 = .ok (.iload_n 2, 1) := by decide +kernel
theorem dX4_topUp_18 : decode cX4_topUp 18 = .ok (.iadd, 1) := by decide +kernel
theorem dX4_topUp_19 : decode cX4_topUp 19 = .ok (.istore 5, 2) := by decide +kernel
theorem dX4_topUp_21 : decode cX4_topUp 21 = .ok (.aload 4, 2) := by decide +kernel
theorem dX4_topUp_23 : decode cX4_topUp 23 = .ok (.getfield 119, 3) := by decide +kernel
theorem dX4_topUp_26 : decode cX4_topUp 26 = .ok (.iload_n 3, 1) := by decide +kernel
theorem dX4_topUp_27 : decode cX4_topUp 27 = .ok (.iadd, 1) := by decide +kernel
theorem dX4_topUp_28 : decode cX4_topUp 28 = .ok (.istore 6, 2) := by decide +kernel
theorem dX4_topUp_30 : decode cX4_topUp 30 = .ok (.iload 5, 2) := by decide +kernel
theorem dX4_topUp_32 : decode cX4_topUp 32 = .ok (.ldc 122, 2) := by decide +kernel
theorem dX4_topUp_34 : decode cX4_topUp 34 = .ok (.if_icmp .gt 10, 3) := by decide +kernel
theorem dX4_topUp_37 : decode cX4_topUp 37 = .ok (.iload 6, 2) := by decide +kernel
theorem dX4_topUp_39 : decode cX4_topUp 39 = .ok (.ldc 63, 2) := by decide +kernel
theorem dX4_topUp_41 : decode cX4_topUp 41 = .ok (.if_icmp .le 13, 3) := by decide +kernel
theorem dX4_topUp_44 : decode cX4_topUp 44 = .ok (.new 74, 3) := by decide +kernel
theorem dX4_topUp_47 : decode cX4_topUp 47 = .ok (.dup, 1) := by decide +kernel
theorem dX4_topUp_48 : decode cX4_topUp 48 = .ok (.ldc 123, 2) := by decide +kernel
theorem dX4_topUp_50 : decode cX4_topUp 50 = .ok (.invokespecial 78, 3) := by decide +kernel
theorem dX4_topUp_53 : decode cX4_topUp 53 = .ok (.athrow, 1) := by decide +kernel
theorem dX4_topUp_54 : decode cX4_topUp 54 = .ok (.aload 4, 2) := by decide +kernel
theorem dX4_topUp_56 : decode cX4_topUp 56 = .ok (.iload 5, 2) := by decide +kernel
theorem dX4_topUp_58 : decode cX4_topUp 58 = .ok (.putfield 116, 3) := by decide +kernel
theorem dX4_topUp_61 : decode cX4_topUp 61 = .ok (.aload 4, 2) := by decide +kernel
theorem dX4_topUp_63 : decode cX4_topUp 63 = .ok (.iload 6, 2) := by decide +kernel
theorem dX4_topUp_65 : decode cX4_topUp 65 = .ok (.putfield 119, 3) := by decide +kernel
theorem dX4_topUp_68 : decode cX4_topUp 68 = .ok (.iload 5, 2) := by decide +kernel
theorem dX4_topUp_70 : decode cX4_topUp 70 = .ok (.ireturn, 1) := by decide +kernel
theorem dX4_balance_0 : decode cX4_balance 0 = .ok (.aload_n 0, 1) := by decide +kernel
theorem dX4_balance_1 : decode cX4_balance 1 = .ok (.iload_n 1, 1) := by decide +kernel
theorem dX4_balance_2 : decode cX4_balance 2 = .ok (.invokevirtual 92, 3) := by decide +kernel
theorem dX4_balance_5 : decode cX4_balance 5 = .ok (.getfield 116, 3) := by decide +kernel
theorem dX4_balance_8 : decode cX4_balance 8 = .ok (.ireturn, 1) := by decide +kernel
theorem dX4_bundle_0 : decode cX4_bundle 0 = .ok (.aload_n 0, 1) := by decide +kernel
theorem dX4_bundle_1 : decode cX4_bundle 1 = .ok (.iload_n 1, 1) := by decide +kernel
theorem dX4_bundle_2 : decode cX4_bundle 2 = .ok (.invokevirtual 92, 3) := by decide +kernel
theorem dX4_bundle_5 : decode cX4_bundle 5 = .ok (.getfield 119, 3) := by decide +kernel
theorem dX4_bundle_8 : decode cX4_bundle 8 = .ok (.ireturn, 1) := by decide +kernel
theorem dX4_call_0 : decode cX4_call 0 = .ok (.aload_n 0, 1) := by decide +kernel
theorem dX4_call_1 : decode cX4_call 1 = .ok (.iload_n 1, 1) := by decide +kernel
theorem dX4_call_2 : decode cX4_call 2 = .ok (.invokevirtual 92, 3) := by decide +kernel
theorem dX4_call_5 : decode cX4_call 5 = .ok (.astore_n 3, 1) := by decide +kernel
theorem dX4_call_6 : decode cX4_call 6 = .ok (.aload_n 0, 1) := by decide +kernel
theorem dX4_call_7 : decode cX4_call 7 = .ok (.iload_n 2, 1) := by decide +kernel
theorem dX4_call_8 : decode cX4_call 8 = .ok (.invokevirtual 92, 3) := by decide +kernel
theorem dX4_call_11 : decode cX4_call 11 = .ok (.astore 4, 2) := by decide +kernel
theorem dX4_call_13 : decode cX4_call 13 = .ok (.iload_n 1, 1) := by decide +kernel
theorem dX4_call_14 : decode cX4_call 14 = .ok (.iload_n 2, 1) := by decide +kernel
theorem dX4_call_15 : decode cX4_call 15 = .ok (.if_icmp .ne 13, 3) := by decide +kernel
theorem dX4_call_18 : decode cX4_call 18 = .ok (.new 56, 3) := by decide +kernel
theorem dX4_call_21 : decode cX4_call 21 = .ok (.dup, 1) := by decide +kernel
theorem dX4_call_22 : decode cX4_call 22 = .ok (.ldc 125, 2) := by decide +kernel
theorem dX4_call_24 : decode cX4_call 24 = .ok (.invokespecial 60, 3) := by decide +kernel
theorem dX4_call_27 : decode cX4_call 27 = .ok (.athrow, 1) := by decide +kernel
theorem dX4_call_28 : decode cX4_call 28 = .ok (.aload_n 0, 1) := by decide +kernel
theorem dX4_call_29 : decode cX4_call 29 = .ok (.aload_n 3, 1) := by decide +kernel
theorem dX4_call_30 : decode cX4_call 30 = .ok (.invokevirtual 127, 3) := by decide +kernel
theorem dX4_call_33 : decode cX4_call 33 = .ok (.ifCond .ne 12, 3) := by decide +kernel
theorem dX4_call_36 : decode cX4_call 36 = .ok (.aload_n 0, 1) := by decide +kernel
theorem dX4_call_37 : decode cX4_call 37 = .ok (.aload 4, 2) := by decide +kernel
theorem dX4_call_39 : decode cX4_call 39 = .ok (.invokevirtual 127, 3) := by decide +kernel
theorem dX4_call_42 : decode cX4_call 42 = .ok (.ifCond .eq 13, 3) := by decide +kernel
theorem dX4_call_45 : decode cX4_call 45 = .ok (.new 74, 3) := by decide +kernel
theorem dX4_call_48 : decode cX4_call 48 = .ok (.dup, 1) := by decide +kernel
theorem dX4_call_49 : decode cX4_call 49 = .ok (.ldc 131, 2) := by decide +kernel
theorem dX4_call_51 : decode cX4_call 51 = .ok (.invokespecial 78, 3) := by decide +kernel
theorem dX4_call_54 : decode cX4_call 54 = .ok (.athrow, 1) := by decide +kernel
theorem dX4_call_55 : decode cX4_call 55 = .ok (.aload_n 0, 1) := by decide +kernel
theorem dX4_call_56 : decode cX4_call 56 = .ok (.getfield 133, 3) := by decide +kernel
theorem dX4_call_59 : decode cX4_call 59 = .ok (.istore 5, 2) := by decide +kernel
theorem dX4_call_61 : decode cX4_call 61 = .ok (.iload 5, 2) := by decide +kernel
theorem dX4_call_63 : decode cX4_call 63 = .ok (.ifCond .lt 10, 3) := by decide +kernel
theorem dX4_call_66 : decode cX4_call 66 = .ok (.iload 5, 2) := by decide +kernel
theorem dX4_call_68 : decode cX4_call 68 = .ok (.bipush 60, 2) := by decide +kernel
theorem dX4_call_70 : decode cX4_call 70 = .ok (.if_icmp .lt 13, 3) := by decide +kernel
theorem dX4_call_73 : decode cX4_call 73 = .ok (.new 74, 3) := by decide +kernel
theorem dX4_call_76 : decode cX4_call 76 = .ok (.dup, 1) := by decide +kernel
theorem dX4_call_77 : decode cX4_call 77 = .ok (.ldc 136, 2) := by decide +kernel
theorem dX4_call_79 : decode cX4_call 79 = .ok (.invokespecial 78, 3) := by decide +kernel
theorem dX4_call_82 : decode cX4_call 82 = .ok (.athrow, 1) := by decide +kernel
theorem dX4_call_83 : decode cX4_call 83 = .ok (.aload_n 0, 1) := by decide +kernel
theorem dX4_call_84 : decode cX4_call 84 = .ok (.getfield 19, 3) := by decide +kernel
theorem dX4_call_87 : decode cX4_call 87 = .ok (.aload_n 3, 1) := by decide +kernel
theorem dX4_call_88 : decode cX4_call 88 = .ok (.iconst 0, 1) := by decide +kernel
theorem dX4_call_89 : decode cX4_call 89 = .ok (.invokevirtual 96, 3) := by decide +kernel
theorem dX4_call_92 : decode cX4_call 92 = .ok (.aload 4, 2) := by decide +kernel
theorem dX4_call_94 : decode cX4_call 94 = .ok (.iconst 0, 1) := by decide +kernel
theorem dX4_call_95 : decode cX4_call 95 = .ok (.invokevirtual 96, 3) := by decide +kernel
theorem dX4_call_98 : decode cX4_call 98 = .ok (.aload_n 0, 1) := by decide +kernel
theorem dX4_call_99 : decode cX4_call 99 = .ok (.getfield 38, 3) := by decide +kernel
theorem dX4_call_102 : decode cX4_call 102 = .ok (.invokevirtual 138, 3) := by decide +kernel
theorem dX4_call_105 : decode cX4_call 105 = .ok (.ifCond .ne 13, 3) := by decide +kernel
theorem dX4_call_108 : decode cX4_call 108 = .ok (.new 74, 3) := by decide +kernel
theorem dX4_call_111 : decode cX4_call 111 = .ok (.dup, 1) := by decide +kernel
theorem dX4_call_112 : decode cX4_call 112 = .ok (.ldc 142, 2) := by decide +kernel
theorem dX4_call_114 : decode cX4_call 114 = .ok (.invokespecial 78, 3) := by decide +kernel
theorem dX4_call_117 : decode cX4_call 117 = .ok (.athrow, 1) := by decide +kernel
theorem dX4_call_118 : decode cX4_call 118 = .ok (.aload_n 0, 1) := by decide +kernel
theorem dX4_call_119 : decode cX4_call 119 = .ok (.getfield 31, 3) := by decide +kernel
theorem dX4_call_122 : decode cX4_call 122 = .ok (.iload 5, 2) := by decide +kernel
theorem dX4_call_124 : decode cX4_call 124 = .ok (.aload_n 0, 1) := by decide +kernel
theorem dX4_call_125 : decode cX4_call 125 = .ok (.aload_n 3, 1) := by decide +kernel
theorem dX4_call_126 : decode cX4_call 126 = .ok (.aload 4, 2) := by decide +kernel
theorem dX4_call_128 : decode cX4_call 128 = .ok (.aload_n 0, 1) := by decide +kernel
theorem dX4_call_129 : decode cX4_call 129 = .ok (.getfield 38, 3) := by decide +kernel
theorem dX4_call_132 : decode cX4_call 132 = .ok (.invokevirtual 144, 3) := by decide +kernel
theorem dX4_call_135 : decode cX4_call 135 = .ok (.aastore, 1) := by decide +kernel
theorem dX4_call_136 : decode cX4_call 136 = .ok (.aload_n 0, 1) := by decide +kernel
theorem dX4_call_137 : decode cX4_call 137 = .ok (.dup, 1) := by decide +kernel
theorem dX4_call_138 : decode cX4_call 138 = .ok (.getfield 133, 3) := by decide +kernel
theorem dX4_call_141 : decode cX4_call 141 = .ok (.iconst 1, 1) := by decide +kernel
theorem dX4_call_142 : decode cX4_call 142 = .ok (.iadd, 1) := by decide +kernel
theorem dX4_call_143 : decode cX4_call 143 = .ok (.putfield 133, 3) := by decide +kernel
theorem dX4_call_146 : decode cX4_call 146 = .ok (.iload 5, 2) := by decide +kernel
theorem dX4_call_148 : decode cX4_call 148 = .ok (.ireturn, 1) := by decide +kernel
theorem dX4_hangUp_0 : decode cX4_hangUp 0 = .ok (.aload_n 0, 1) := by decide +kernel
theorem dX4_hangUp_1 : decode cX4_hangUp 1 = .ok (.iload_n 1, 1) := by decide +kernel
theorem dX4_hangUp_2 : decode cX4_hangUp 2 = .ok (.invokevirtual 148, 3) := by decide +kernel
theorem dX4_hangUp_5 : decode cX4_hangUp 5 = .ok (.astore_n 2, 1) := by decide +kernel
theorem dX4_hangUp_6 : decode cX4_hangUp 6 = .ok (.aload_n 2, 1) := by decide +kernel
theorem dX4_hangUp_7 : decode cX4_hangUp 7 = .ok (.getfield 152, 3) := by decide +kernel
theorem dX4_hangUp_10 : decode cX4_hangUp 10 = .ok (.ifCond .eq 13, 3) := by decide +kernel
theorem dX4_hangUp_13 : decode cX4_hangUp 13 = .ok (.new 74, 3) := by decide +kernel
theorem dX4_hangUp_16 : decode cX4_hangUp 16 = .ok (.dup, 1) := by decide +kernel
theorem dX4_hangUp_17 : decode cX4_hangUp 17 = .ok (.ldc 155, 2) := by decide +kernel
theorem dX4_hangUp_19 : decode cX4_hangUp 19 = .ok (.invokespecial 78, 3) := by decide +kernel
theorem dX4_hangUp_22 : decode cX4_hangUp 22 = .ok (.athrow, 1) := by decide +kernel
theorem dX4_hangUp_23 : decode cX4_hangUp 23 = .ok (.aload_n 2, 1) := by decide +kernel
theorem dX4_hangUp_24 : decode cX4_hangUp 24 = .ok (.iconst 1, 1) := by decide +kernel
theorem dX4_hangUp_25 : decode cX4_hangUp 25 = .ok (.putfield 152, 3) := by decide +kernel
theorem dX4_hangUp_28 : decode cX4_hangUp 28 = .ok (.aload_n 2, 1) := by decide +kernel
theorem dX4_hangUp_29 : decode cX4_hangUp 29 = .ok (.getfield 157, 3) := by decide +kernel
theorem dX4_hangUp_32 : decode cX4_hangUp 32 = .ok (.ireturn, 1) := by decide +kernel
theorem dX4_pass_0 : decode cX4_pass 0 = .ok (.iload_n 1, 1) := by decide +kernel
theorem dX4_pass_1 : decode cX4_pass 1 = .ok (.iconst 1, 1) := by decide +kernel
theorem dX4_pass_2 : decode cX4_pass 2 = .ok (.sipush 200, 3) := by decide +kernel
theorem dX4_pass_5 : decode cX4_pass 5 = .ok (.invokestatic 52, 3) := by decide +kernel
theorem dX4_pass_8 : decode cX4_pass 8 = .ok (.ifCond .ne 13, 3) := by decide +kernel
theorem dX4_pass_11 : decode cX4_pass 11 = .ok (.new 56, 3) := by decide +kernel
theorem dX4_pass_14 : decode cX4_pass 14 = .ok (.dup, 1) := by decide +kernel
theorem dX4_pass_15 : decode cX4_pass 15 = .ok (.ldc 160, 2) := by decide +kernel
theorem dX4_pass_17 : decode cX4_pass 17 = .ok (.invokespecial 60, 3) := by decide +kernel
theorem dX4_pass_20 : decode cX4_pass 20 = .ok (.athrow, 1) := by decide +kernel
theorem dX4_pass_21 : decode cX4_pass 21 = .ok (.iconst 0, 1) := by decide +kernel
theorem dX4_pass_22 : decode cX4_pass 22 = .ok (.istore_n 2, 1) := by decide +kernel
theorem dX4_pass_23 : decode cX4_pass 23 = .ok (.iconst 0, 1) := by decide +kernel
theorem dX4_pass_24 : decode cX4_pass 24 = .ok (.istore_n 3, 1) := by decide +kernel
theorem dX4_pass_25 : decode cX4_pass 25 = .ok (.iload_n 3, 1) := by decide +kernel
theorem dX4_pass_26 : decode cX4_pass 26 = .ok (.iload_n 1, 1) := by decide +kernel
theorem dX4_pass_27 : decode cX4_pass 27 = .ok (.if_icmp .ge 74, 3) := by decide +kernel
theorem dX4_pass_30 : decode cX4_pass 30 = .ok (.aload_n 0, 1) := by decide +kernel
theorem dX4_pass_31 : decode cX4_pass 31 = .ok (.getfield 31, 3) := by decide +kernel
theorem dX4_pass_34 : decode cX4_pass 34 = .ok (.astore 4, 2) := by decide +kernel
theorem dX4_pass_36 : decode cX4_pass 36 = .ok (.aload 4, 2) := by decide +kernel
theorem dX4_pass_38 : decode cX4_pass 38 = .ok (.arraylength, 1) := by decide +kernel
theorem dX4_pass_39 : decode cX4_pass 39 = .ok (.istore 5, 2) := by decide +kernel
theorem dX4_pass_41 : decode cX4_pass 41 = .ok (.iconst 0, 1) := by decide +kernel
theorem dX4_pass_42 : decode cX4_pass 42 = .ok (.istore 6, 2) := by decide +kernel
theorem dX4_pass_44 : decode cX4_pass 44 = .ok (.iload 6, 2) := by decide +kernel
theorem dX4_pass_46 : decode cX4_pass 46 = .ok (.iload 5, 2) := by decide +kernel
theorem dX4_pass_48 : decode cX4_pass 48 = .ok (.if_icmp .ge 47, 3) := by decide +kernel
theorem dX4_pass_51 : decode cX4_pass 51 = .ok (.aload 4, 2) := by decide +kernel
theorem dX4_pass_53 : decode cX4_pass 53 = .ok (.iload 6, 2) := by decide +kernel
theorem dX4_pass_55 : decode cX4_pass 55 = .ok (.aaload, 1) := by decide +kernel
theorem dX4_pass_56 : decode cX4_pass 56 = .ok (.astore 7, 2) := by decide +kernel
theorem dX4_pass_58 : decode cX4_pass 58 = .ok (.aload 7, 2) := by decide +kernel
theorem dX4_pass_60 : decode cX4_pass 60 = .ok (.ifnull 29, 3) := by decide +kernel
theorem dX4_pass_63 : decode cX4_pass 63 = .ok (.aload 7, 2) := by decide +kernel
theorem dX4_pass_65 : decode cX4_pass 65 = .ok (.getfield 152, 3) := by decide +kernel
theorem dX4_pass_68 : decode cX4_pass 68 = .ok (.ifCond .ne 21, 3) := by decide +kernel
theorem dX4_pass_71 : decode cX4_pass 71 = .ok (.aload_n 0, 1) := by decide +kernel
theorem dX4_pass_72 : decode cX4_pass 72 = .ok (.aload 7, 2) := by decide +kernel
theorem dX4_pass_74 : decode cX4_pass 74 = .ok (.invokevirtual 162, 3) := by decide +kernel
theorem dX4_pass_77 : decode cX4_pass 77 = .ok (.ifCond .ne 12, 3) := by decide +kernel
theorem dX4_pass_80 : decode cX4_pass 80 = .ok (.aload 7, 2) := by decide +kernel
theorem dX4_pass_82 : decode cX4_pass 82 = .ok (.iconst 2, 1) := by decide +kernel
theorem dX4_pass_83 : decode cX4_pass 83 = .ok (.putfield 152, 3) := by decide +kernel
theorem dX4_pass_86 : decode cX4_pass 86 = .ok (.iinc 2 1, 3) := by decide +kernel
theorem dX4_pass_89 : decode cX4_pass 89 = .ok (.iinc 6 1, 3) := by decide +kernel
theorem dX4_pass_92 : decode cX4_pass 92 = .ok (.goto (-48), 3) := by decide +kernel
theorem dX4_pass_95 : decode cX4_pass 95 = .ok (.iinc 3 1, 3) := by decide +kernel
theorem dX4_pass_98 : decode cX4_pass 98 = .ok (.goto (-73), 3) := by decide +kernel
theorem dX4_pass_101 : decode cX4_pass 101 = .ok (.iload_n 2, 1) := by decide +kernel
theorem dX4_pass_102 : decode cX4_pass 102 = .ok (.ireturn, 1) := by decide +kernel
theorem dX4_state_0 : decode cX4_state 0 = .ok (.aload_n 0, 1) := by decide +kernel
theorem dX4_state_1 : decode cX4_state 1 = .ok (.iload_n 1, 1) := by decide +kernel
theorem dX4_state_2 : decode cX4_state 2 = .ok (.invokevirtual 148, 3) := by decide +kernel
theorem dX4_state_5 : decode cX4_state 5 = .ok (.getfield 152, 3) := by decide +kernel
theorem dX4_state_8 : decode cX4_state 8 = .ok (.ireturn, 1) := by decide +kernel
theorem dX4_minutes_0 : decode cX4_minutes 0 = .ok (.aload_n 0, 1) := by decide +kernel
theorem dX4_minutes_1 : decode cX4_minutes 1 = .ok (.iload_n 1, 1) := by decide +kernel
theorem dX4_minutes_2 : decode cX4_minutes 2 = .ok (.invokevirtual 148, 3) := by decide +kernel
theorem dX4_minutes_5 : decode cX4_minutes 5 = .ok (.getfield 157, 3) := by decide +kernel
theorem dX4_minutes_8 : decode cX4_minutes 8 = .ok (.ireturn, 1) := by decide +kernel
theorem dX4_moved_0 : decode cX4_moved 0 = .ok (.aload_n 0, 1) := by decide +kernel
theorem dX4_moved_1 : decode cX4_moved 1 = .ok (.iload_n 1, 1) := by decide +kernel
theorem dX4_moved_2 : decode cX4_moved 2 = .ok (.invokevirtual 148, 3) := by decide +kernel
theorem dX4_moved_5 : decode cX4_moved 5 = .ok (.getfield 166, 3) := by decide +kernel
theorem dX4_moved_8 : decode cX4_moved 8 = .ok (.ireturn, 1) := by decide +kernel
theorem dX4_way_0 : decode cX4_way 0 = .ok (.aload_n 0, 1) := by decide +kernel
theorem dX4_way_1 : decode cX4_way 1 = .ok (.iload_n 1, 1) := by decide +kernel
theorem dX4_way_2 : decode cX4_way 2 = .ok (.invokevirtual 148, 3) := by decide +kernel
theorem dX4_way_5 : decode cX4_way 5 = .ok (.getfield 169, 3) := by decide +kernel
theorem dX4_way_8 : decode cX4_way 8 = .ok (.iload_n 2, 1) := by decide +kernel
theorem dX4_way_9 : decode cX4_way 9 = .ok (.invokevirtual 172, 3) := by decide +kernel
theorem dX4_way_12 : decode cX4_way 12 = .ok (.istore_n 3, 1) := by decide +kernel
theorem dX4_way_13 : decode cX4_way 13 = .ok (.iload_n 3, 1) := by decide +kernel
theorem dX4_way_14 : decode cX4_way 14 = .ok (.iconst (-1), 1) := by decide +kernel
theorem dX4_way_15 : decode cX4_way 15 = .ok (.if_icmp .ne 13, 3) := by decide +kernel
theorem dX4_way_18 : decode cX4_way 18 = .ok (.new 111, 3) := by decide +kernel
theorem dX4_way_21 : decode cX4_way 21 = .ok (.dup, 1) := by decide +kernel
theorem dX4_way_22 : decode cX4_way 22 = .ok (.ldc 175, 2) := by decide +kernel
theorem dX4_way_24 : decode cX4_way 24 = .ok (.invokespecial 115, 3) := by decide +kernel
theorem dX4_way_27 : decode cX4_way 27 = .ok (.athrow, 1) := by decide +kernel
theorem dX4_way_28 : decode cX4_way 28 = .ok (.iload_n 3, 1) := by decide +kernel
theorem dX4_way_29 : decode cX4_way 29 = .ok (.ireturn, 1) := by decide +kernel
theorem dX4_cost_0 : decode cX4_cost 0 = .ok (.iload_n 1, 1) := by decide +kernel
theorem dX4_cost_1 : decode cX4_cost 1 = .ok (.invokestatic 48, 3) := by decide +kernel
theorem dX4_cost_4 : decode cX4_cost 4 = .ok (.iload_n 2, 1) := by decide +kernel
theorem dX4_cost_5 : decode cX4_cost 5 = .ok (.invokestatic 48, 3) := by decide +kernel
theorem dX4_cost_8 : decode cX4_cost 8 = .ok (.aload_n 0, 1) := by decide +kernel
theorem dX4_cost_9 : decode cX4_cost 9 = .ok (.getfield 19, 3) := by decide +kernel
theorem dX4_cost_12 : decode cX4_cost 12 = .ok (.iload_n 1, 1) := by decide +kernel
theorem dX4_cost_13 : decode cX4_cost 13 = .ok (.iload_n 2, 1) := by decide +kernel
theorem dX4_cost_14 : decode cX4_cost 14 = .ok (.aload_n 0, 1) := by decide +kernel
theorem dX4_cost_15 : decode cX4_cost 15 = .ok (.getfield 38, 3) := by decide +kernel
theorem dX4_cost_18 : decode cX4_cost 18 = .ok (.invokevirtual 138, 3) := by decide +kernel
theorem dX4_cost_21 : decode cX4_cost 21 = .ok (.ifCond .eq 17, 3) := by decide +kernel
theorem dX4_cost_24 : decode cX4_cost 24 = .ok (.aload_n 0, 1) := by decide +kernel
theorem dX4_cost_25 : decode cX4_cost 25 = .ok (.getfield 19, 3) := by decide +kernel
theorem dX4_cost_28 : decode cX4_cost 28 = .ok (.aload_n 0, 1) := by decide +kernel
theorem dX4_cost_29 : decode cX4_cost 29 = .ok (.getfield 38, 3) := by decide +kernel
theorem dX4_cost_32 : decode cX4_cost 32 = .ok (.invokevirtual 177, 3) := by decide +kernel
theorem dX4_cost_35 : decode cX4_cost 35 = .ok (.goto 4, 3) := by decide +kernel
theorem dX4_cost_38 : decode cX4_cost 38 = .ok (.iconst (-1), 1) := by decide +kernel
theorem dX4_cost_39 : decode cX4_cost 39 = .ok (.ireturn, 1) := by decide +kernel
theorem dX4_best_0 : decode cX4_best 0 = .ok (.iload_n 1, 1) := by decide +kernel
theorem dX4_best_1 : decode cX4_best 1 = .ok (.invokestatic 48, 3) := by decide +kernel
theorem dX4_best_4 : decode cX4_best 4 = .ok (.iload_n 2, 1) := by decide +kernel
theorem dX4_best_5 : decode cX4_best 5 = .ok (.invokestatic 48, 3) := by decide +kernel
theorem dX4_best_8 : decode cX4_best 8 = .ok (.aload_n 0, 1) := by decide +kernel
theorem dX4_best_9 : decode cX4_best 9 = .ok (.getfield 19, 3) := by decide +kernel
theorem dX4_best_12 : decode cX4_best 12 = .ok (.iload_n 1, 1) := by decide +kernel
theorem dX4_best_13 : decode cX4_best 13 = .ok (.iload_n 2, 1) := by decide +kernel
theorem dX4_best_14 : decode cX4_best 14 = .ok (.aload_n 0, 1) := by decide +kernel
theorem dX4_best_15 : decode cX4_best 15 = .ok (.getfield 38, 3) := by decide +kernel
theorem dX4_best_18 : decode cX4_best 18 = .ok (.invokevirtual 138, 3) := by decide +kernel
theorem dX4_best_21 : decode cX4_best 21 = .ok (.ifCond .eq 14, 3) := by decide +kernel
theorem dX4_best_24 : decode cX4_best 24 = .ok (.aload_n 0, 1) := by decide +kernel
theorem dX4_best_25 : decode cX4_best 25 = .ok (.getfield 38, 3) := by decide +kernel
theorem dX4_best_28 : decode cX4_best 28 = .ok (.iload_n 3, 1) := by decide +kernel
theorem dX4_best_29 : decode cX4_best 29 = .ok (.invokevirtual 172, 3) := by decide +kernel
theorem dX4_best_32 : decode cX4_best 32 = .ok (.goto 4, 3) := by decide +kernel
theorem dX4_best_35 : decode cX4_best 35 = .ok (.iconst (-1), 1) := by decide +kernel
theorem dX4_best_36 : decode cX4_best 36 = .ok (.istore 4, 2) := by decide +kernel
theorem dX4_best_38 : decode cX4_best 38 = .ok (.iload 4, 2) := by decide +kernel
theorem dX4_best_40 : decode cX4_best 40 = .ok (.iconst (-1), 1) := by decide +kernel
theorem dX4_best_41 : decode cX4_best 41 = .ok (.if_icmp .ne 13, 3) := by decide +kernel
theorem dX4_best_44 : decode cX4_best 44 = .ok (.new 111, 3) := by decide +kernel
theorem dX4_best_47 : decode cX4_best 47 = .ok (.dup, 1) := by decide +kernel
theorem dX4_best_48 : decode cX4_best 48 = .ok (.ldc 181, 2) := by decide +kernel
theorem dX4_best_50 : decode cX4_best 50 = .ok (.invokespecial 115, 3) := by decide +kernel
theorem dX4_best_53 : decode cX4_best 53 = .ok (.athrow, 1) := by decide +kernel
theorem dX4_best_54 : decode cX4_best 54 = .ok (.iload 4, 2) := by decide +kernel
theorem dX4_best_56 : decode cX4_best 56 = .ok (.ireturn, 1) := by decide +kernel
theorem dX4_isBarred_0 : decode cX4_isBarred 0 = .ok (.iload_n 1, 1) := by decide +kernel
theorem dX4_isBarred_1 : decode cX4_isBarred 1 = .ok (.invokestatic 48, 3) := by decide +kernel
theorem dX4_isBarred_4 : decode cX4_isBarred 4 = .ok (.iload_n 2, 1) := by decide +kernel
theorem dX4_isBarred_5 : decode cX4_isBarred 5 = .ok (.invokestatic 48, 3) := by decide +kernel
theorem dX4_isBarred_8 : decode cX4_isBarred 8 = .ok (.aload_n 0, 1) := by decide +kernel
theorem dX4_isBarred_9 : decode cX4_isBarred 9 = .ok (.getfield 19, 3) := by decide +kernel
theorem dX4_isBarred_12 : decode cX4_isBarred 12 = .ok (.iload_n 1, 1) := by decide +kernel
theorem dX4_isBarred_13 : decode cX4_isBarred 13 = .ok (.iload_n 2, 1) := by decide +kernel
theorem dX4_isBarred_14 : decode cX4_isBarred 14 = .ok (.invokevirtual 183, 3) := by decide +kernel
theorem dX4_isBarred_17 : decode cX4_isBarred 17 = .ok (.ifCond .ne 7, 3) := by decide +kernel
theorem dX4_isBarred_20 : decode cX4_isBarred 20 = .ok (.iconst 1, 1) := by decide +kernel
theorem dX4_isBarred_21 : decode cX4_isBarred 21 = .ok (.goto 4, 3) := by decide +kernel
theorem dX4_isBarred_24 : decode cX4_isBarred 24 = .ok (.iconst 0, 1) := by decide +kernel
theorem dX4_isBarred_25 : decode cX4_isBarred 25 = .ok (.ireturn, 1) := by decide +kernel
theorem dX4_debt_0 : decode cX4_debt 0 = .ok (.iload_n 1, 1) := by decide +kernel
theorem dX4_debt_1 : decode cX4_debt 1 = .ok (.invokestatic 48, 3) := by decide +kernel
theorem dX4_debt_4 : decode cX4_debt 4 = .ok (.iload_n 2, 1) := by decide +kernel
theorem dX4_debt_5 : decode cX4_debt 5 = .ok (.invokestatic 48, 3) := by decide +kernel
theorem dX4_debt_8 : decode cX4_debt 8 = .ok (.aload_n 0, 1) := by decide +kernel
theorem dX4_debt_9 : decode cX4_debt 9 = .ok (.getfield 19, 3) := by decide +kernel
theorem dX4_debt_12 : decode cX4_debt 12 = .ok (.iload_n 1, 1) := by decide +kernel
theorem dX4_debt_13 : decode cX4_debt 13 = .ok (.iload_n 2, 1) := by decide +kernel
theorem dX4_debt_14 : decode cX4_debt 14 = .ok (.invokevirtual 187, 3) := by decide +kernel
theorem dX4_debt_17 : decode cX4_debt 17 = .ok (.lreturn, 1) := by decide +kernel
theorem dX4_charged_0 : decode cX4_charged 0 = .ok (.iload_n 1, 1) := by decide +kernel
theorem dX4_charged_1 : decode cX4_charged 1 = .ok (.invokestatic 48, 3) := by decide +kernel
theorem dX4_charged_4 : decode cX4_charged 4 = .ok (.iload_n 2, 1) := by decide +kernel
theorem dX4_charged_5 : decode cX4_charged 5 = .ok (.invokestatic 48, 3) := by decide +kernel
theorem dX4_charged_8 : decode cX4_charged 8 = .ok (.iload_n 1, 1) := by decide +kernel
theorem dX4_charged_9 : decode cX4_charged 9 = .ok (.iload_n 2, 1) := by decide +kernel
theorem dX4_charged_10 : decode cX4_charged 10 = .ok (.invokestatic 191, 3) := by decide +kernel
theorem dX4_charged_13 : decode cX4_charged 13 = .ok (.istore_n 3, 1) := by decide +kernel
theorem dX4_charged_14 : decode cX4_charged 14 = .ok (.lconst 0, 1) := by decide +kernel
theorem dX4_charged_15 : decode cX4_charged 15 = .ok (.lstore 4, 2) := by decide +kernel
theorem dX4_charged_17 : decode cX4_charged 17 = .ok (.aload_n 0, 1) := by decide +kernel
theorem dX4_charged_18 : decode cX4_charged 18 = .ok (.getfield 31, 3) := by decide +kernel
theorem dX4_charged_21 : decode cX4_charged 21 = .ok (.astore 6, 2) := by decide +kernel
theorem dX4_charged_23 : decode cX4_charged 23 = .ok (.aload 6, 2) := by decide +kernel
theorem dX4_charged_25 : decode cX4_charged 25 = .ok (.arraylength, 1) := by decide +kernel
theorem dX4_charged_26 : decode cX4_charged 26 = .ok (.istore 7, 2) := by decide +kernel
theorem dX4_charged_28 : decode cX4_charged 28 = .ok (.iconst 0, 1) := by decide +kernel
theorem dX4_charged_29 : decode cX4_charged 29 = .ok (.istore 8, 2) := by decide +kernel
theorem dX4_charged_31 : decode cX4_charged 31 = .ok (.iload 8, 2) := by decide +kernel
theorem dX4_charged_33 : decode cX4_charged 33 = .ok (.iload 7, 2) := by decide +kernel
theorem dX4_charged_35 : decode cX4_charged 35 = .ok (.if_icmp .ge 32, 3) := by decide +kernel
theorem dX4_charged_38 : decode cX4_charged 38 = .ok (.aload 6, 2) := by decide +kernel
theorem dX4_charged_40 : decode cX4_charged 40 = .ok (.iload 8, 2) := by decide +kernel
theorem dX4_charged_42 : decode cX4_charged 42 = .ok (.aaload, 1) := by decide +kernel
theorem dX4_charged_43 : decode cX4_charged 43 = .ok (.astore 9, 2) := by decide +kernel
theorem dX4_charged_45 : decode cX4_charged 45 = .ok (.aload 9, 2) := by decide +kernel
theorem dX4_charged_47 : decode cX4_charged 47 = .ok (.ifnull 14, 3) := by decide +kernel
theorem dX4_charged_50 : decode cX4_charged 50 = .ok (.lload 4, 2) := by decide +kernel
theorem dX4_charged_52 : decode cX4_charged 52 = .ok (.aload 9, 2) := by decide +kernel
theorem dX4_charged_54 : decode cX4_charged 54 = .ok (.iload_n 3, 1) := by decide +kernel
theorem dX4_charged_55 : decode cX4_charged 55 = .ok (.invokevirtual 194, 3) := by decide +kernel
theorem dX4_charged_58 : decode cX4_charged 58 = .ok (.ladd, 1) := by decide +kernel
theorem dX4_charged_59 : decode cX4_charged 59 = .ok (.lstore 4, 2) := by decide +kernel
theorem dX4_charged_61 : decode cX4_charged 61 = .ok (.iinc 8 1, 3) := by decide +kernel
theorem dX4_charged_64 : decode cX4_charged 64 = .ok (.goto (-33), 3) := by decide +kernel
theorem dX4_charged_67 : decode cX4_charged 67 = .ok (.lload 4, 2) := by decide +kernel
theorem dX4_charged_69 : decode cX4_charged 69 = .ok (.lreturn, 1) := by decide +kernel
theorem dX4_position_0 : decode cX4_position 0 = .ok (.iload_n 1, 1) := by decide +kernel
theorem dX4_position_1 : decode cX4_position 1 = .ok (.invokestatic 48, 3) := by decide +kernel
theorem dX4_position_4 : decode cX4_position 4 = .ok (.lconst 0, 1) := by decide +kernel
theorem dX4_position_5 : decode cX4_position 5 = .ok (.lstore_n 2, 1) := by decide +kernel
theorem dX4_position_6 : decode cX4_position 6 = .ok (.iconst 0, 1) := by decide +kernel
theorem dX4_position_7 : decode cX4_position 7 = .ok (.istore 4, 2) := by decide +kernel
theorem dX4_position_9 : decode cX4_position 9 = .ok (.iload 4, 2) := by decide +kernel
theorem dX4_position_11 : decode cX4_position 11 = .ok (.iconst 5, 1) := by decide +kernel
theorem dX4_position_12 : decode cX4_position 12 = .ok (.if_icmp .ge 22, 3) := by decide +kernel
theorem dX4_position_15 : decode cX4_position 15 = .ok (.lload_n 2, 1) := by decide +kernel
theorem dX4_position_16 : decode cX4_position 16 = .ok (.aload_n 0, 1) := by decide +kernel
theorem dX4_position_17 : decode cX4_position 17 = .ok (.getfield 19, 3) := by decide +kernel
theorem dX4_position_20 : decode cX4_position 20 = .ok (.iload 4, 2) := by decide +kernel
theorem dX4_position_22 : decode cX4_position 22 = .ok (.iload_n 1, 1) := by decide +kernel
theorem dX4_position_23 : decode cX4_position 23 = .ok (.invokevirtual 187, 3) := by decide +kernel
theorem dX4_position_26 : decode cX4_position 26 = .ok (.ladd, 1) := by decide +kernel
theorem dX4_position_27 : decode cX4_position 27 = .ok (.lstore_n 2, 1) := by decide +kernel
theorem dX4_position_28 : decode cX4_position 28 = .ok (.iinc 4 1, 3) := by decide +kernel
theorem dX4_position_31 : decode cX4_position 31 = .ok (.goto (-22), 3) := by decide +kernel
theorem dX4_position_34 : decode cX4_position 34 = .ok (.lload_n 2, 1) := by decide +kernel
theorem dX4_position_35 : decode cX4_position 35 = .ok (.lreturn, 1) := by decide +kernel
theorem dX4_settle_0 : decode cX4_settle 0 = .ok (.iload_n 1, 1) := by decide +kernel
theorem dX4_settle_1 : decode cX4_settle 1 = .ok (.invokestatic 48, 3) := by decide +kernel
theorem dX4_settle_4 : decode cX4_settle 4 = .ok (.iload_n 2, 1) := by decide +kernel
theorem dX4_settle_5 : decode cX4_settle 5 = .ok (.invokestatic 48, 3) := by decide +kernel
theorem dX4_settle_8 : decode cX4_settle 8 = .ok (.aload_n 0, 1) := by decide +kernel
theorem dX4_settle_9 : decode cX4_settle 9 = .ok (.getfield 19, 3) := by decide +kernel
theorem dX4_settle_12 : decode cX4_settle 12 = .ok (.iload_n 1, 1) := by decide +kernel
theorem dX4_settle_13 : decode cX4_settle 13 = .ok (.iload_n 2, 1) := by decide +kernel
theorem dX4_settle_14 : decode cX4_settle 14 = .ok (.invokevirtual 187, 3) := by decide +kernel
theorem dX4_settle_17 : decode cX4_settle 17 = .ok (.lstore_n 3, 1) := by decide +kernel
theorem dX4_settle_18 : decode cX4_settle 18 = .ok (.lload_n 3, 1) := by decide +kernel
theorem dX4_settle_19 : decode cX4_settle 19 = .ok (.lconst 0, 1) := by decide +kernel
theorem dX4_settle_20 : decode cX4_settle 20 = .ok (.lcmp, 1) := by decide +kernel
theorem dX4_settle_21 : decode cX4_settle 21 = .ok (.ifCond .gt 13, 3) := by decide +kernel
theorem dX4_settle_24 : decode cX4_settle 24 = .ok (.new 74, 3) := by decide +kernel
theorem dX4_settle_27 : decode cX4_settle 27 = .ok (.dup, 1) := by decide +kernel
theorem dX4_settle_28 : decode cX4_settle 28 = .ok (.ldc 198, 2) := by decide +kernel
theorem dX4_settle_30 : decode cX4_settle 30 = .ok (.invokespecial 78, 3) := by decide +kernel
theorem dX4_settle_33 : decode cX4_settle 33 = .ok (.athrow, 1) := by decide +kernel
theorem dX4_settle_34 : decode cX4_settle 34 = .ok (.aload_n 0, 1) := by decide +kernel
theorem dX4_settle_35 : decode cX4_settle 35 = .ok (.getfield 19, 3) := by decide +kernel
theorem dX4_settle_38 : decode cX4_settle 38 = .ok (.iload_n 1, 1) := by decide +kernel
theorem dX4_settle_39 : decode cX4_settle 39 = .ok (.iload_n 2, 1) := by decide +kernel
theorem dX4_settle_40 : decode cX4_settle 40 = .ok (.lload_n 3, 1) := by decide +kernel
theorem dX4_settle_41 : decode cX4_settle 41 = .ok (.lneg, 1) := by decide +kernel
theorem dX4_settle_42 : decode cX4_settle 42 = .ok (.invokevirtual 200, 3) := by decide +kernel
theorem dX4_settle_45 : decode cX4_settle 45 = .ok (.lload_n 3, 1) := by decide +kernel
theorem dX4_settle_46 : decode cX4_settle 46 = .ok (.lreturn, 1) := by decide +kernel
theorem dX4_isWithin_0 : decode cX4_isWithin 0 = .ok (.iload_n 0, 1) := by decide +kernel
theorem dX4_isWithin_1 : decode cX4_isWithin 1 = .ok (.iload_n 1, 1) := by decide +kernel
theorem dX4_isWithin_2 : decode cX4_isWithin 2 = .ok (.if_icmp .lt 12, 3) := by decide +kernel
theorem dX4_isWithin_5 : decode cX4_isWithin 5 = .ok (.iload_n 0, 1) := by decide +kernel
theorem dX4_isWithin_6 : decode cX4_isWithin 6 = .ok (.iload_n 2, 1) := by decide +kernel
theorem dX4_isWithin_7 : decode cX4_isWithin 7 = .ok (.if_icmp .gt 7, 3) := by decide +kernel
theorem dX4_isWithin_10 : decode cX4_isWithin 10 = .ok (.iconst 1, 1) := by decide +kernel
theorem dX4_isWithin_11 : decode cX4_isWithin 11 = .ok (.goto 4, 3) := by decide +kernel
theorem dX4_isWithin_14 : decode cX4_isWithin 14 = .ok (.iconst 0, 1) := by decide +kernel
theorem dX4_isWithin_15 : decode cX4_isWithin 15 = .ok (.ireturn, 1) := by decide +kernel
theorem dX4_isCarrier_0 : decode cX4_isCarrier 0 = .ok (.iload_n 0, 1) := by decide +kernel
theorem dX4_isCarrier_1 : decode cX4_isCarrier 1 = .ok (.ifCond .lt 12, 3) := by decide +kernel
theorem dX4_isCarrier_4 : decode cX4_isCarrier 4 = .ok (.iload_n 0, 1) := by decide +kernel
theorem dX4_isCarrier_5 : decode cX4_isCarrier 5 = .ok (.iconst 5, 1) := by decide +kernel
theorem dX4_isCarrier_6 : decode cX4_isCarrier 6 = .ok (.if_icmp .ge 7, 3) := by decide +kernel
theorem dX4_isCarrier_9 : decode cX4_isCarrier 9 = .ok (.iconst 1, 1) := by decide +kernel
theorem dX4_isCarrier_10 : decode cX4_isCarrier 10 = .ok (.goto 4, 3) := by decide +kernel
theorem dX4_isCarrier_13 : decode cX4_isCarrier 13 = .ok (.iconst 0, 1) := by decide +kernel
theorem dX4_isCarrier_14 : decode cX4_isCarrier 14 = .ok (.ireturn, 1) := by decide +kernel
theorem dX4_pairOf_0 : decode cX4_pairOf 0 = .ok (.iload_n 0, 1) := by decide +kernel
theorem dX4_pairOf_1 : decode cX4_pairOf 1 = .ok (.ifCond .lt 21, 3) := by decide +kernel
theorem dX4_pairOf_4 : decode cX4_pairOf 4 = .ok (.iload_n 0, 1) := by decide +kernel
theorem dX4_pairOf_5 : decode cX4_pairOf 5 = .ok (.iconst 5, 1) := by decide +kernel
theorem dX4_pairOf_6 : decode cX4_pairOf 6 = .ok (.if_icmp .ge 16, 3) := by decide +kernel
theorem dX4_pairOf_9 : decode cX4_pairOf 9 = .ok (.iload_n 1, 1) := by decide +kernel
theorem dX4_pairOf_10 : decode cX4_pairOf 10 = .ok (.ifCond .lt 12, 3) := by decide +kernel
theorem dX4_pairOf_13 : decode cX4_pairOf 13 = .ok (.iload_n 1, 1) := by decide +kernel
theorem dX4_pairOf_14 : decode cX4_pairOf 14 = .ok (.iconst 5, 1) := by decide +kernel
theorem dX4_pairOf_15 : decode cX4_pairOf 15 = .ok (.if_icmp .ge 7, 3) := by decide +kernel
theorem dX4_pairOf_18 : decode cX4_pairOf 18 = .ok (.iconst 1, 1) := by decide +kernel
theorem dX4_pairOf_19 : decode cX4_pairOf 19 = .ok (.goto 4, 3) := by decide +kernel
theorem dX4_pairOf_22 : decode cX4_pairOf 22 = .ok (.iconst 0, 1) := by decide +kernel
theorem dX4_pairOf_23 : decode cX4_pairOf 23 = .ok (.istore_n 2, 1) := by decide +kernel
theorem dX4_pairOf_24 : decode cX4_pairOf 24 = .ok (.iload_n 2, 1) := by decide +kernel
theorem dX4_pairOf_25 : decode cX4_pairOf 25 = .ok (.ifCond .eq 11, 3) := by decide +kernel
theorem dX4_pairOf_28 : decode cX4_pairOf 28 = .ok (.iload_n 0, 1) := by decide +kernel
theorem dX4_pairOf_29 : decode cX4_pairOf 29 = .ok (.iconst 5, 1) := by decide +kernel
theorem dX4_pairOf_30 : decode cX4_pairOf 30 = .ok (.imul, 1) := by decide +kernel
theorem dX4_pairOf_31 : decode cX4_pairOf 31 = .ok (.iload_n 1, 1) := by decide +kernel
theorem dX4_pairOf_32 : decode cX4_pairOf 32 = .ok (.iadd, 1) := by decide +kernel
theorem dX4_pairOf_33 : decode cX4_pairOf 33 = .ok (.goto 4, 3) := by decide +kernel
theorem dX4_pairOf_36 : decode cX4_pairOf 36 = .ok (.iconst (-1), 1) := by decide +kernel
theorem dX4_pairOf_37 : decode cX4_pairOf 37 = .ok (.ireturn, 1) := by decide +kernel
theorem dX4_demandCarrier_0 : decode cX4_demandCarrier 0 = .ok (.iload_n 0, 1) := by decide +kernel
theorem dX4_demandCarrier_1 : decode cX4_demandCarrier 1 = .ok (.invokestatic 204, 3) := by decide +kernel
theorem dX4_demandCarrier_4 : decode cX4_demandCarrier 4 = .ok (.ifCond .ne 13, 3) := by decide +kernel
theorem dX4_demandCarrier_7 : decode cX4_demandCarrier 7 = .ok (.new 111, 3) := by decide +kernel
theorem dX4_demandCarrier_10 : decode cX4_demandCarrier 10 = .ok (.dup, 1) := by decide +kernel
theorem dX4_demandCarrier_11 : decode cX4_demandCarrier 11 = .ok (.ldc 207, 2) := by decide +kernel
theorem dX4_demandCarrier_13 : decode cX4_demandCarrier 13 = .ok (.invokespecial 115, 3) := by decide +kernel
theorem dX4_demandCarrier_16 : decode cX4_demandCarrier 16 = .ok (.athrow, 1) := by decide +kernel
theorem dX4_demandCarrier_17 : decode cX4_demandCarrier 17 = .ok (.return_, 1) := by decide +kernel
theorem dX4_demandCredit_0 : decode cX4_demandCredit 0 = .ok (.iload_n 0, 1) := by decide +kernel
theorem dX4_demandCredit_1 : decode cX4_demandCredit 1 = .ok (.iconst 0, 1) := by decide +kernel
theorem dX4_demandCredit_2 : decode cX4_demandCredit 2 = .ok (.sipush 10000, 3) := by decide +kernel
theorem dX4_demandCredit_5 : decode cX4_demandCredit 5 = .ok (.invokestatic 52, 3) := by decide +kernel
theorem dX4_demandCredit_8 : decode cX4_demandCredit 8 = .ok (.ifCond .eq 14, 3) := by decide +kernel
theorem dX4_demandCredit_11 : decode cX4_demandCredit 11 = .ok (.iload_n 1, 1) := by decide +kernel
theorem dX4_demandCredit_12 : decode cX4_demandCredit 12 = .ok (.iconst 0, 1) := by decide +kernel
theorem dX4_demandCredit_13 : decode cX4_demandCredit 13 = .ok (.sipush 1000, 3) := by decide +kernel
theorem dX4_demandCredit_16 : decode cX4_demandCredit 16 = .ok (.invokestatic 52, 3) := by decide +kernel
theorem dX4_demandCredit_19 : decode cX4_demandCredit 19 = .ok (.ifCond .ne 13, 3) := by decide +kernel
theorem dX4_demandCredit_22 : decode cX4_demandCredit 22 = .ok (.new 56, 3) := by decide +kernel
theorem dX4_demandCredit_25 : decode cX4_demandCredit 25 = .ok (.dup, 1) := by decide +kernel
theorem dX4_demandCredit_26 : decode cX4_demandCredit 26 = .ok (.ldc 209, 2) := by decide +kernel
theorem dX4_demandCredit_28 : decode cX4_demandCredit 28 = .ok (.invokespecial 60, 3) := by decide +kernel
theorem dX4_demandCredit_31 : decode cX4_demandCredit 31 = .ok (.athrow, 1) := by decide +kernel
theorem dX4_demandCredit_32 : decode cX4_demandCredit 32 = .ok (.return_, 1) := by decide +kernel
theorem dX4_subscriberOf_0 : decode cX4_subscriberOf 0 = .ok (.iload_n 1, 1) := by decide +kernel
theorem dX4_subscriberOf_1 : decode cX4_subscriberOf 1 = .ok (.ifCond .lt 18, 3) := by decide +kernel
theorem dX4_subscriberOf_4 : decode cX4_subscriberOf 4 = .ok (.iload_n 1, 1) := by decide +kernel
theorem dX4_subscriberOf_5 : decode cX4_subscriberOf 5 = .ok (.bipush 20, 2) := by decide +kernel
theorem dX4_subscriberOf_7 : decode cX4_subscriberOf 7 = .ok (.if_icmp .ge 12, 3) := by decide +kernel
theorem dX4_subscriberOf_10 : decode cX4_subscriberOf 10 = .ok (.aload_n 0, 1) := by decide +kernel
theorem dX4_subscriberOf_11 : decode cX4_subscriberOf 11 = .ok (.getfield 25, 3) := by decide +kernel
theorem dX4_subscriberOf_14 : decode cX4_subscriberOf 14 = .ok (.iload_n 1, 1) := by decide +kernel
theorem dX4_subscriberOf_15 : decode cX4_subscriberOf 15 = .ok (.aaload, 1) := by decide +kernel
theorem dX4_subscriberOf_16 : decode cX4_subscriberOf 16 = .ok (.goto 4, 3) := by decide +kernel
theorem dX4_subscriberOf_19 : decode cX4_subscriberOf 19 = .ok (.aconst_null, 1) := by decide +kernel
theorem dX4_subscriberOf_20 : decode cX4_subscriberOf 20 = .ok (.astore_n 2, 1) := by decide +kernel
theorem dX4_subscriberOf_21 : decode cX4_subscriberOf 21 = .ok (.aload_n 2, 1) := by decide +kernel
theorem dX4_subscriberOf_22 : decode cX4_subscriberOf 22 = .ok (.ifnonnull 13, 3) := by decide +kernel
theorem dX4_subscriberOf_25 : decode cX4_subscriberOf 25 = .ok (.new 111, 3) := by decide +kernel
theorem dX4_subscriberOf_28 : decode cX4_subscriberOf 28 = .ok (.dup, 1) := by decide +kernel
theorem dX4_subscriberOf_29 : decode cX4_subscriberOf 29 = .ok (.ldc 211, 2) := by decide +kernel
theorem dX4_subscriberOf_31 : decode cX4_subscriberOf 31 = .ok (.invokespecial 115, 3) := by decide +kernel
theorem dX4_subscriberOf_34 : decode cX4_subscriberOf 34 = .ok (.athrow, 1) := by decide +kernel
theorem dX4_subscriberOf_35 : decode cX4_subscriberOf 35 = .ok (.aload_n 2, 1) := by decide +kernel
theorem dX4_subscriberOf_36 : decode cX4_subscriberOf 36 = .ok (.areturn, 1) := by decide +kernel
theorem dX4_talkOf_0 : decode cX4_talkOf 0 = .ok (.iload_n 1, 1) := by decide +kernel
theorem dX4_talkOf_1 : decode cX4_talkOf 1 = .ok (.ifCond .lt 18, 3) := by decide +kernel
theorem dX4_talkOf_4 : decode cX4_talkOf 4 = .ok (.iload_n 1, 1) := by decide +kernel
theorem dX4_talkOf_5 : decode cX4_talkOf 5 = .ok (.bipush 60, 2) := by decide +kernel
theorem dX4_talkOf_7 : decode cX4_talkOf 7 = .ok (.if_icmp .ge 12, 3) := by decide +kernel
theorem dX4_talkOf_10 : decode cX4_talkOf 10 = .ok (.aload_n 0, 1) := by decide +kernel
theorem dX4_talkOf_11 : decode cX4_talkOf 11 = .ok (.getfield 31, 3) := by decide +kernel
theorem dX4_talkOf_14 : decode cX4_talkOf 14 = .ok (.iload_n 1, 1) := by decide +kernel
theorem dX4_talkOf_15 : decode cX4_talkOf 15 = .ok (.aaload, 1) := by decide +kernel
theorem dX4_talkOf_16 : decode cX4_talkOf 16 = .ok (.goto 4, 3) := by decide +kernel
theorem dX4_talkOf_19 : decode cX4_talkOf 19 = .ok (.aconst_null, 1) := by decide +kernel
theorem dX4_talkOf_20 : decode cX4_talkOf 20 = .ok (.astore_n 2, 1) := by decide +kernel
theorem dX4_talkOf_21 : decode cX4_talkOf 21 = .ok (.aload_n 2, 1) := by decide +kernel
theorem dX4_talkOf_22 : decode cX4_talkOf 22 = .ok (.ifnonnull 13, 3) := by decide +kernel
theorem dX4_talkOf_25 : decode cX4_talkOf 25 = .ok (.new 111, 3) := by decide +kernel
theorem dX4_talkOf_28 : decode cX4_talkOf 28 = .ok (.dup, 1) := by decide +kernel
theorem dX4_talkOf_29 : decode cX4_talkOf 29 = .ok (.ldc 213, 2) := by decide +kernel
theorem dX4_talkOf_31 : decode cX4_talkOf 31 = .ok (.invokespecial 115, 3) := by decide +kernel
theorem dX4_talkOf_34 : decode cX4_talkOf 34 = .ok (.athrow, 1) := by decide +kernel
theorem dX4_talkOf_35 : decode cX4_talkOf 35 = .ok (.aload_n 2, 1) := by decide +kernel
theorem dX4_talkOf_36 : decode cX4_talkOf 36 = .ok (.areturn, 1) := by decide +kernel
theorem dX4_isTalking_0 : decode cX4_isTalking 0 = .ok (.aload_n 0, 1) := by decide +kernel
theorem dX4_isTalking_1 : decode cX4_isTalking 1 = .ok (.getfield 31, 3) := by decide +kernel
theorem dX4_isTalking_4 : decode cX4_isTalking 4 = .ok (.astore_n 2, 1) := by decide +kernel
theorem dX4_isTalking_5 : decode cX4_isTalking 5 = .ok (.aload_n 2, 1) := by decide +kernel
theorem dX4_isTalking_6 : decode cX4_isTalking 6 = .ok (.arraylength, 1) := by decide +kernel
theorem dX4_isTalking_7 : decode cX4_isTalking 7 = .ok (.istore_n 3, 1) := by decide +kernel
theorem dX4_isTalking_8 : decode cX4_isTalking 8 = .ok (.iconst 0, 1) := by decide +kernel
theorem dX4_isTalking_9 : decode cX4_isTalking 9 = .ok (.istore 4, 2) := by decide +kernel
theorem dX4_isTalking_11 : decode cX4_isTalking 11 = .ok (.iload 4, 2) := by decide +kernel
theorem dX4_isTalking_13 : decode cX4_isTalking 13 = .ok (.iload_n 3, 1) := by decide +kernel
theorem dX4_isTalking_14 : decode cX4_isTalking 14 = .ok (.if_icmp .ge 48, 3) := by decide +kernel
theorem dX4_isTalking_17 : decode cX4_isTalking 17 = .ok (.aload_n 2, 1) := by decide +kernel
theorem dX4_isTalking_18 : decode cX4_isTalking 18 = .ok (.iload 4, 2) := by decide +kernel
theorem dX4_isTalking_20 : decode cX4_isTalking 20 = .ok (.aaload, 1) := by decide +kernel
theorem dX4_isTalking_21 : decode cX4_isTalking 21 = .ok (.astore 5, 2) := by decide +kernel
theorem dX4_isTalking_23 : decode cX4_isTalking 23 = .ok (.aload 5, 2) := by decide +kernel
theorem dX4_isTalking_25 : decode cX4_isTalking 25 = .ok (.ifnull 31, 3) := by decide +kernel
theorem dX4_isTalking_28 : decode cX4_isTalking 28 = .ok (.aload 5, 2) := by decide +kernel
theorem dX4_isTalking_30 : decode cX4_isTalking 30 = .ok (.getfield 152, 3) := by decide +kernel
theorem dX4_isTalking_33 : decode cX4_isTalking 33 = .ok (.ifCond .ne 23, 3) := by decide +kernel
theorem dX4_isTalking_36 : decode cX4_isTalking 36 = .ok (.aload 5, 2) := by decide +kernel
theorem dX4_isTalking_38 : decode cX4_isTalking 38 = .ok (.getfield 215, 3) := by decide +kernel
theorem dX4_isTalking_41 : decode cX4_isTalking 41 = .ok (.aload_n 1, 1) := by decide +kernel
theorem dX4_isTalking_42 : decode cX4_isTalking 42 = .ok (.if_acmp .eq 12, 3) := by decide +kernel
theorem dX4_isTalking_45 : decode cX4_isTalking 45 = .ok (.aload 5, 2) := by decide +kernel
theorem dX4_isTalking_47 : decode cX4_isTalking 47 = .ok (.getfield 219, 3) := by decide +kernel
theorem dX4_isTalking_50 : decode cX4_isTalking 50 = .ok (.aload_n 1, 1) := by decide +kernel
theorem dX4_isTalking_51 : decode cX4_isTalking 51 = .ok (.if_acmp .ne 5, 3) := by decide +kernel
theorem dX4_isTalking_54 : decode cX4_isTalking 54 = .ok (.iconst 1, 1) := by decide +kernel
theorem dX4_isTalking_55 : decode cX4_isTalking 55 = .ok (.ireturn, 1) := by decide +kernel
theorem dX4_isTalking_56 : decode cX4_isTalking 56 = .ok (.iinc 4 1, 3) := by decide +kernel
theorem dX4_isTalking_59 : decode cX4_isTalking 59 = .ok (.goto (-48), 3) := by decide +kernel
theorem dX4_isTalking_62 : decode cX4_isTalking 62 = .ok (.iconst 0, 1) := by decide +kernel
theorem dX4_isTalking_63 : decode cX4_isTalking 63 = .ok (.ireturn, 1) := by decide +kernel
theorem dX4_newTalk_0 : decode cX4_newTalk 0 = .ok (.aload_n 1, 1) := by decide +kernel
theorem dX4_newTalk_1 : decode cX4_newTalk 1 = .ok (.iconst 0, 1) := by decide +kernel
theorem dX4_newTalk_2 : decode cX4_newTalk 2 = .ok (.invokevirtual 96, 3) := by decide +kernel
theorem dX4_newTalk_5 : decode cX4_newTalk 5 = .ok (.istore 4, 2) := by decide +kernel
theorem dX4_newTalk_7 : decode cX4_newTalk 7 = .ok (.iload 4, 2) := by decide +kernel
theorem dX4_newTalk_9 : decode cX4_newTalk 9 = .ok (.invokestatic 204, 3) := by decide +kernel
theorem dX4_newTalk_12 : decode cX4_newTalk 12 = .ok (.ifCond .eq 13, 3) := by decide +kernel
theorem dX4_newTalk_15 : decode cX4_newTalk 15 = .ok (.aload_n 0, 1) := by decide +kernel
theorem dX4_newTalk_16 : decode cX4_newTalk 16 = .ok (.getfield 9, 3) := by decide +kernel
theorem dX4_newTalk_19 : decode cX4_newTalk 19 = .ok (.iload 4, 2) := by decide +kernel
theorem dX4_newTalk_21 : decode cX4_newTalk 21 = .ok (.iaload, 1) := by decide +kernel
theorem dX4_newTalk_22 : decode cX4_newTalk 22 = .ok (.goto 4, 3) := by decide +kernel
theorem dX4_newTalk_25 : decode cX4_newTalk 25 = .ok (.iconst 1, 1) := by decide +kernel
theorem dX4_newTalk_26 : decode cX4_newTalk 26 = .ok (.istore 5, 2) := by decide +kernel
theorem dX4_newTalk_28 : decode cX4_newTalk 28 = .ok (.iload 4, 2) := by decide +kernel
theorem dX4_newTalk_30 : decode cX4_newTalk 30 = .ok (.invokestatic 204, 3) := by decide +kernel
theorem dX4_newTalk_33 : decode cX4_newTalk 33 = .ok (.ifCond .eq 13, 3) := by decide +kernel
theorem dX4_newTalk_36 : decode cX4_newTalk 36 = .ok (.aload_n 0, 1) := by decide +kernel
theorem dX4_newTalk_37 : decode cX4_newTalk 37 = .ok (.getfield 13, 3) := by decide +kernel
theorem dX4_newTalk_40 : decode cX4_newTalk 40 = .ok (.iload 4, 2) := by decide +kernel
theorem dX4_newTalk_42 : decode cX4_newTalk 42 = .ok (.iaload, 1) := by decide +kernel
theorem dX4_newTalk_43 : decode cX4_newTalk 43 = .ok (.goto 5, 3) := by decide +kernel
theorem dX4_newTalk_46 : decode cX4_newTalk 46 = .ok (.bipush 10, 2) := by decide +kernel
theorem dX4_newTalk_48 : decode cX4_newTalk 48 = .ok (.istore 6, 2) := by decide +kernel
theorem dX4_newTalk_50 : decode cX4_newTalk 50 = .ok (.new 29, 3) := by decide +kernel
theorem dX4_newTalk_53 : decode cX4_newTalk 53 = .ok (.dup, 1) := by decide +kernel
theorem dX4_newTalk_54 : decode cX4_newTalk 54 = .ok (.aload_n 1, 1) := by decide +kernel
theorem dX4_newTalk_55 : decode cX4_newTalk 55 = .ok (.aload_n 2, 1) := by decide +kernel
theorem dX4_newTalk_56 : decode cX4_newTalk 56 = .ok (.iload 5, 2) := by decide +kernel
theorem dX4_newTalk_58 : decode cX4_newTalk 58 = .ok (.iload 6, 2) := by decide +kernel
theorem dX4_newTalk_60 : decode cX4_newTalk 60 = .ok (.invokespecial 222, 3) := by decide +kernel
theorem dX4_newTalk_63 : decode cX4_newTalk 63 = .ok (.astore 7, 2) := by decide +kernel
theorem dX4_newTalk_65 : decode cX4_newTalk 65 = .ok (.aload 7, 2) := by decide +kernel
theorem dX4_newTalk_67 : decode cX4_newTalk 67 = .ok (.getfield 169, 3) := by decide +kernel
theorem dX4_newTalk_70 : decode cX4_newTalk 70 = .ok (.aload_n 3, 1) := by decide +kernel
theorem dX4_newTalk_71 : decode cX4_newTalk 71 = .ok (.invokevirtual 225, 3) := by decide +kernel
theorem dX4_newTalk_74 : decode cX4_newTalk 74 = .ok (.aload 7, 2) := by decide +kernel
theorem dX4_newTalk_76 : decode cX4_newTalk 76 = .ok (.areturn, 1) := by decide +kernel
theorem dX4_runOneMinute_0 : decode cX4_runOneMinute 0 = .ok (.aload_n 1, 1) := by decide +kernel
theorem dX4_runOneMinute_1 : decode cX4_runOneMinute 1 = .ok (.getfield 169, 3) := by decide +kernel
theorem dX4_runOneMinute_4 : decode cX4_runOneMinute 4 = .ok (.astore_n 2, 1) := by decide +kernel
theorem dX4_runOneMinute_5 : decode cX4_runOneMinute 5 = .ok (.aload_n 0, 1) := by decide +kernel
theorem dX4_runOneMinute_6 : decode cX4_runOneMinute 6 = .ok (.getfield 19, 3) := by decide +kernel
theorem dX4_runOneMinute_9 : decode cX4_runOneMinute 9 = .ok (.aload_n 2, 1) := by decide +kernel
theorem dX4_runOneMinute_10 : decode cX4_runOneMinute 10 = .ok (.invokevirtual 229, 3) := by decide +kernel
theorem dX4_runOneMinute_13 : decode cX4_runOneMinute 13 = .ok (.ifCond .ne 41, 3) := by decide +kernel
theorem dX4_runOneMinute_16 : decode cX4_runOneMinute 16 = .ok (.aload_n 0, 1) := by decide +kernel
theorem dX4_runOneMinute_17 : decode cX4_runOneMinute 17 = .ok (.getfield 19, 3) := by decide +kernel
theorem dX4_runOneMinute_20 : decode cX4_runOneMinute 20 = .ok (.aload_n 2, 1) := by decide +kernel
theorem dX4_runOneMinute_21 : decode cX4_runOneMinute 21 = .ok (.iconst 0, 1) := by decide +kernel
theorem dX4_runOneMinute_22 : decode cX4_runOneMinute 22 = .ok (.invokevirtual 172, 3) := by decide +kernel
theorem dX4_runOneMinute_25 : decode cX4_runOneMinute 25 = .ok (.aload_n 2, 1) := by decide +kernel
theorem dX4_runOneMinute_26 : decode cX4_runOneMinute 26 = .ok (.aload_n 2, 1) := by decide +kernel
theorem dX4_runOneMinute_27 : decode cX4_runOneMinute 27 = .ok (.getfield 233, 3) := by decide +kernel
theorem dX4_runOneMinute_30 : decode cX4_runOneMinute 30 = .ok (.iconst 1, 1) := by decide +kernel
theorem dX4_runOneMinute_31 : decode cX4_runOneMinute 31 = .ok (.isub, 1) := by decide +kernel
theorem dX4_runOneMinute_32 : decode cX4_runOneMinute 32 = .ok (.invokevirtual 172, 3) := by decide +kernel
theorem dX4_runOneMinute_35 : decode cX4_runOneMinute 35 = .ok (.aload_n 2, 1) := by decide +kernel
theorem dX4_runOneMinute_36 : decode cX4_runOneMinute 36 = .ok (.invokevirtual 138, 3) := by decide +kernel
theorem dX4_runOneMinute_39 : decode cX4_runOneMinute 39 = .ok (.ifCond .ne 5, 3) := by decide +kernel
theorem dX4_runOneMinute_42 : decode cX4_runOneMinute 42 = .ok (.iconst 0, 1) := by decide +kernel
theorem dX4_runOneMinute_43 : decode cX4_runOneMinute 43 = .ok (.ireturn, 1) := by decide +kernel
theorem dX4_runOneMinute_44 : decode cX4_runOneMinute 44 = .ok (.aload_n 1, 1) := by decide +kernel
theorem dX4_runOneMinute_45 : decode cX4_runOneMinute 45 = .ok (.dup, 1) := by decide +kernel
theorem dX4_runOneMinute_46 : decode cX4_runOneMinute 46 = .ok (.getfield 166, 3) := by decide +kernel
theorem dX4_runOneMinute_49 : decode cX4_runOneMinute 49 = .ok (.iconst 1, 1) := by decide +kernel
theorem dX4_runOneMinute_50 : decode cX4_runOneMinute 50 = .ok (.iadd, 1) := by decide +kernel
theorem dX4_runOneMinute_51 : decode cX4_runOneMinute 51 = .ok (.putfield 166, 3) := by decide +kernel
theorem dX4_runOneMinute_54 : decode cX4_runOneMinute 54 = .ok (.aload_n 1, 1) := by decide +kernel
theorem dX4_runOneMinute_55 : decode cX4_runOneMinute 55 = .ok (.invokevirtual 236, 3) := by decide +kernel
theorem dX4_runOneMinute_58 : decode cX4_runOneMinute 58 = .ok (.ifCond .eq 23, 3) := by decide +kernel
theorem dX4_runOneMinute_61 : decode cX4_runOneMinute 61 = .ok (.aload_n 1, 1) := by decide +kernel
theorem dX4_runOneMinute_62 : decode cX4_runOneMinute 62 = .ok (.getfield 215, 3) := by decide +kernel
theorem dX4_runOneMinute_65 : decode cX4_runOneMinute 65 = .ok (.aload_n 1, 1) := by decide +kernel
theorem dX4_runOneMinute_66 : decode cX4_runOneMinute 66 = .ok (.getfield 240, 3) := by decide +kernel
theorem dX4_runOneMinute_69 : decode cX4_runOneMinute 69 = .ok (.aload_n 1, 1) := by decide +kernel
theorem dX4_runOneMinute_70 : decode cX4_runOneMinute 70 = .ok (.getfield 243, 3) := by decide +kernel
theorem dX4_runOneMinute_73 : decode cX4_runOneMinute 73 = .ok (.invokevirtual 246, 3) := by decide +kernel
theorem dX4_runOneMinute_76 : decode cX4_runOneMinute 76 = .ok (.ifCond .ne 5, 3) := by decide +kernel
theorem dX4_runOneMinute_79 : decode cX4_runOneMinute 79 = .ok (.iconst 0, 1) := by decide +kernel
theorem dX4_runOneMinute_80 : decode cX4_runOneMinute 80 = .ok (.ireturn, 1) := by decide +kernel
theorem dX4_runOneMinute_81 : decode cX4_runOneMinute 81 = .ok (.aload_n 0, 1) := by decide +kernel
theorem dX4_runOneMinute_82 : decode cX4_runOneMinute 82 = .ok (.getfield 19, 3) := by decide +kernel
theorem dX4_runOneMinute_85 : decode cX4_runOneMinute 85 = .ok (.aload_n 1, 1) := by decide +kernel
theorem dX4_runOneMinute_86 : decode cX4_runOneMinute 86 = .ok (.invokevirtual 249, 3) := by decide +kernel
theorem dX4_runOneMinute_89 : decode cX4_runOneMinute 89 = .ok (.aload_n 1, 1) := by decide +kernel
theorem dX4_runOneMinute_90 : decode cX4_runOneMinute 90 = .ok (.dup, 1) := by decide +kernel
theorem dX4_runOneMinute_91 : decode cX4_runOneMinute 91 = .ok (.getfield 157, 3) := by decide +kernel
theorem dX4_runOneMinute_94 : decode cX4_runOneMinute 94 = .ok (.iconst 1, 1) := by decide +kernel
theorem dX4_runOneMinute_95 : decode cX4_runOneMinute 95 = .ok (.iadd, 1) := by decide +kernel
theorem dX4_runOneMinute_96 : decode cX4_runOneMinute 96 = .ok (.putfield 157, 3) := by decide +kernel
theorem dX4_runOneMinute_99 : decode cX4_runOneMinute 99 = .ok (.iconst 1, 1) := by decide +kernel
theorem dX4_runOneMinute_100 : decode cX4_runOneMinute 100 = .ok (.ireturn, 1) := by decide +kernel
