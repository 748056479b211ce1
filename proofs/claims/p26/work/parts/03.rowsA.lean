theorem dX0_init_0 : decode cX0_init 0 = .ok (.aload_n 0, 1) := by decide +kernel
theorem dX0_init_1 : decode cX0_init 1 = .ok (.invokespecial 3, 3) := by decide +kernel
theorem dX0_init_4 : decode cX0_init 4 = .ok (.aload_n 0, 1) := by decide +kernel
theorem dX0_init_5 : decode cX0_init 5 = .ok (.bipush 25, 2) := by decide +kernel
theorem dX0_init_7 : decode cX0_init 7 = .ok (.newarray .int, 2) := by decide +kernel
theorem dX0_init_9 : decode cX0_init 9 = .ok (.putfield 9, 3) := by decide +kernel
theorem dX0_init_12 : decode cX0_init 12 = .ok (.aload_n 0, 1) := by decide +kernel
theorem dX0_init_13 : decode cX0_init 13 = .ok (.bipush 25, 2) := by decide +kernel
theorem dX0_init_15 : decode cX0_init 15 = .ok (.newarray .int, 2) := by decide +kernel
theorem dX0_init_17 : decode cX0_init 17 = .ok (.putfield 15, 3) := by decide +kernel
theorem dX0_init_20 : decode cX0_init 20 = .ok (.aload_n 0, 1) := by decide +kernel
theorem dX0_init_21 : decode cX0_init 21 = .ok (.bipush 25, 2) := by decide +kernel
theorem dX0_init_23 : decode cX0_init 23 = .ok (.newarray .long, 2) := by decide +kernel
theorem dX0_init_25 : decode cX0_init 25 = .ok (.putfield 18, 3) := by decide +kernel
theorem dX0_init_28 : decode cX0_init 28 = .ok (.aload_n 0, 1) := by decide +kernel
theorem dX0_init_29 : decode cX0_init 29 = .ok (.iconst 5, 1) := by decide +kernel
theorem dX0_init_30 : decode cX0_init 30 = .ok (.newarray .int, 2) := by decide +kernel
theorem dX0_init_32 : decode cX0_init 32 = .ok (.putfield 22, 3) := by decide +kernel
theorem dX0_init_35 : decode cX0_init 35 = .ok (.aload_n 0, 1) := by decide +kernel
theorem dX0_init_36 : decode cX0_init 36 = .ok (.getfield 9, 3) := by decide +kernel
theorem dX0_init_39 : decode cX0_init 39 = .ok (.iconst (-1), 1) := by decide +kernel
theorem dX0_init_40 : decode cX0_init 40 = .ok (.invokestatic 25, 3) := by decide +kernel
theorem dX0_init_43 : decode cX0_init 43 = .ok (.return_, 1) := by decide +kernel
theorem dX0_rateOf_0 : decode cX0_rateOf 0 = .ok (.iload_n 1, 1) := by decide +kernel
theorem dX0_rateOf_1 : decode cX0_rateOf 1 = .ok (.iload_n 2, 1) := by decide +kernel
theorem dX0_rateOf_2 : decode cX0_rateOf 2 = .ok (.invokestatic 31, 3) := by decide +kernel
theorem dX0_rateOf_5 : decode cX0_rateOf 5 = .ok (.istore_n 3, 1) := by decide +kernel
theorem dX0_rateOf_6 : decode cX0_rateOf 6 = .ok (.iload_n 3, 1) := by decide +kernel
theorem dX0_rateOf_7 : decode cX0_rateOf 7 = .ok (.ifCond .lt 18, 3) := by decide +kernel
theorem dX0_rateOf_10 : decode cX0_rateOf 10 = .ok (.iload_n 3, 1) := by decide +kernel
theorem dX0_rateOf_11 : decode cX0_rateOf 11 = .ok (.bipush 25, 2) := by decide +kernel
theorem dX0_rateOf_13 : decode cX0_rateOf 13 = .ok (.if_icmp .ge 12, 3) := by decide +kernel
theorem dX0_rateOf_16 : decode cX0_rateOf 16 = .ok (.aload_n 0, 1) := by decide +kernel
theorem dX0_rateOf_17 : decode cX0_rateOf 17 = .ok (.getfield 9, 3) := by decide +kernel
theorem dX0_rateOf_20 : decode cX0_rateOf 20 = .ok (.iload_n 3, 1) := by decide +kernel
theorem dX0_rateOf_21 : decode cX0_rateOf 21 = .ok (.iaload, 1) := by decide +kernel
theorem dX0_rateOf_22 : decode cX0_rateOf 22 = .ok (.goto 4, 3) := by decide +kernel
theorem dX0_rateOf_25 : decode cX0_rateOf 25 = .ok (.iconst (-1), 1) := by decide +kernel
theorem dX0_rateOf_26 : decode cX0_rateOf 26 = .ok (.ireturn, 1) := by decide +kernel
theorem dX0_setLink_0 : decode cX0_setLink 0 = .ok (.iload_n 1, 1) := by decide +kernel
theorem dX0_setLink_1 : decode cX0_setLink 1 = .ok (.iload_n 2, 1) := by decide +kernel
theorem dX0_setLink_2 : decode cX0_setLink 2 = .ok (.invokestatic 31, 3) := by decide +kernel
theorem dX0_setLink_5 : decode cX0_setLink 5 = .ok (.istore 5, 2) := by decide +kernel
theorem dX0_setLink_7 : decode cX0_setLink 7 = .ok (.iload 5, 2) := by decide +kernel
theorem dX0_setLink_9 : decode cX0_setLink 9 = .ok (.ifCond .lt 27, 3) := by decide +kernel
theorem dX0_setLink_12 : decode cX0_setLink 12 = .ok (.iload 5, 2) := by decide +kernel
theorem dX0_setLink_14 : decode cX0_setLink 14 = .ok (.bipush 25, 2) := by decide +kernel
theorem dX0_setLink_16 : decode cX0_setLink 16 = .ok (.if_icmp .ge 20, 3) := by decide +kernel
theorem dX0_setLink_19 : decode cX0_setLink 19 = .ok (.aload_n 0, 1) := by decide +kernel
theorem dX0_setLink_20 : decode cX0_setLink 20 = .ok (.getfield 9, 3) := by decide +kernel
theorem dX0_setLink_23 : decode cX0_setLink 23 = .ok (.iload 5, 2) := by decide +kernel
theorem dX0_setLink_25 : decode cX0_setLink 25 = .ok (.iload_n 3, 1) := by decide +kernel
theorem dX0_setLink_26 : decode cX0_setLink 26 = .ok (.iastore, 1) := by decide +kernel
theorem dX0_setLink_27 : decode cX0_setLink 27 = .ok (.aload_n 0, 1) := by decide +kernel
theorem dX0_setLink_28 : decode cX0_setLink 28 = .ok (.getfield 15, 3) := by decide +kernel
theorem dX0_setLink_31 : decode cX0_setLink 31 = .ok (.iload 5, 2) := by decide +kernel
theorem dX0_setLink_33 : decode cX0_setLink 33 = .ok (.iload 4, 2) := by decide +kernel
theorem dX0_setLink_35 : decode cX0_setLink 35 = .ok (.iastore, 1) := by decide +kernel
theorem dX0_setLink_36 : decode cX0_setLink 36 = .ok (.return_, 1) := by decide +kernel
theorem dX0_debtOf_0 : decode cX0_debtOf 0 = .ok (.iload_n 1, 1) := by decide +kernel
theorem dX0_debtOf_1 : decode cX0_debtOf 1 = .ok (.iload_n 2, 1) := by decide +kernel
theorem dX0_debtOf_2 : decode cX0_debtOf 2 = .ok (.invokestatic 31, 3) := by decide +kernel
theorem dX0_debtOf_5 : decode cX0_debtOf 5 = .ok (.istore_n 3, 1) := by decide +kernel
theorem dX0_debtOf_6 : decode cX0_debtOf 6 = .ok (.iload_n 3, 1) := by decide +kernel
theorem dX0_debtOf_7 : decode cX0_debtOf 7 = .ok (.ifCond .lt 18, 3) := by decide +kernel
theorem dX0_debtOf_10 : decode cX0_debtOf 10 = .ok (.iload_n 3, 1) := by decide +kernel
theorem dX0_debtOf_11 : decode cX0_debtOf 11 = .ok (.bipush 25, 2) := by decide +kernel
theorem dX0_debtOf_13 : decode cX0_debtOf 13 = .ok (.if_icmp .ge 12, 3) := by decide +kernel
theorem dX0_debtOf_16 : decode cX0_debtOf 16 = .ok (.aload_n 0, 1) := by decide +kernel
theorem dX0_debtOf_17 : decode cX0_debtOf 17 = .ok (.getfield 18, 3) := by decide +kernel
theorem dX0_debtOf_20 : decode cX0_debtOf 20 = .ok (.iload_n 3, 1) := by decide +kernel
theorem dX0_debtOf_21 : decode cX0_debtOf 21 = .ok (.laload, 1) := by decide +kernel
theorem dX0_debtOf_22 : decode cX0_debtOf 22 = .ok (.goto 4, 3) := by decide +kernel
theorem dX0_debtOf_25 : decode cX0_debtOf 25 = .ok (.lconst 0, 1) := by decide +kernel
theorem dX0_debtOf_26 : decode cX0_debtOf 26 = .ok (.lreturn, 1) := by decide +kernel
theorem dX0_addDebt_0 : decode cX0_addDebt 0 = .ok (.iload_n 1, 1) := by decide +kernel
theorem dX0_addDebt_1 : decode cX0_addDebt 1 = .ok (.iload_n 2, 1) := by decide +kernel
theorem dX0_addDebt_2 : decode cX0_addDebt 2 = .ok (.invokestatic 31, 3) := by decide +kernel
theorem dX0_addDebt_5 : decode cX0_addDebt 5 = .ok (.istore 5, 2) := by decide +kernel
theorem dX0_addDebt_7 : decode cX0_addDebt 7 = .ok (.iload_n 2, 1) := by decide +kernel
theorem dX0_addDebt_8 : decode cX0_addDebt 8 = .ok (.iload_n 1, 1) := by decide +kernel
theorem dX0_addDebt_9 : decode cX0_addDebt 9 = .ok (.invokestatic 31, 3) := by decide +kernel
theorem dX0_addDebt_12 : decode cX0_addDebt 12 = .ok (.istore 6, 2) := by decide +kernel
theorem dX0_addDebt_14 : decode cX0_addDebt 14 = .ok (.iload 5, 2) := by decide +kernel
theorem dX0_addDebt_16 : decode cX0_addDebt 16 = .ok (.ifCond .lt 44, 3) := by decide +kernel
theorem dX0_addDebt_19 : decode cX0_addDebt 19 = .ok (.iload 5, 2) := by decide +kernel
theorem dX0_addDebt_21 : decode cX0_addDebt 21 = .ok (.bipush 25, 2) := by decide +kernel
theorem dX0_addDebt_23 : decode cX0_addDebt 23 = .ok (.if_icmp .ge 37, 3) := by decide +kernel
theorem dX0_addDebt_26 : decode cX0_addDebt 26 = .ok (.iload 6, 2) := by decide +kernel
theorem dX0_addDebt_28 : decode cX0_addDebt 28 = .ok (.ifCond .lt 32, 3) := by decide +kernel
theorem dX0_addDebt_31 : decode cX0_addDebt 31 = .ok (.iload 6, 2) := by decide +kernel
theorem dX0_addDebt_33 : decode cX0_addDebt 33 = .ok (.bipush 25, 2) := by decide +kernel
theorem dX0_addDebt_35 : decode cX0_addDebt 35 = .ok (.if_icmp .ge 25, 3) := by decide +kernel
theorem dX0_addDebt_38 : decode cX0_addDebt 38 = .ok (.aload_n 0, 1) := by decide +kernel
theorem dX0_addDebt_39 : decode cX0_addDebt 39 = .ok (.getfield 18, 3) := by decide +kernel
theorem dX0_addDebt_42 : decode cX0_addDebt 42 = .ok (.iload 5, 2) := by decide +kernel
theorem dX0_addDebt_44 : decode cX0_addDebt 44 = .ok (.dup2, 1) := by decide +kernel
theorem dX0_addDebt_45 : decode cX0_addDebt 45 = .ok (.laload, 1) := by decide +kernel
theorem dX0_addDebt_46 : decode cX0_addDebt 46 = .ok (.lload_n 3, 1) := by decide +kernel
theorem dX0_addDebt_47 : decode cX0_addDebt 47 = .ok (.ladd, 1) := by decide +kernel
theorem dX0_addDebt_48 : decode cX0_addDebt 48 = .ok (.lastore, 1) := by decide +kernel
theorem dX0_addDebt_49 : decode cX0_addDebt 49 = .ok (.aload_n 0, 1) := by decide +kernel
theorem dX0_addDebt_50 : decode cX0_addDebt 50 = .ok (.getfield 18, 3) := by decide +kernel
theorem dX0_addDebt_53 : decode cX0_addDebt 53 = .ok (.iload 6, 2) := by decide +kernel
theorem dX0_addDebt_55 : decode cX0_addDebt 55 = .ok (.dup2, 1) := by decide +kernel
theorem dX0_addDebt_56 : decode cX0_addDebt 56 = .ok (.laload, 1) := by decide +kernel
theorem dX0_addDebt_57 : decode cX0_addDebt 57 = .ok (.lload_n 3, 1) := by decide +kernel
theorem dX0_addDebt_58 : decode cX0_addDebt 58 = .ok (.lsub, 1) := by decide +kernel
theorem dX0_addDebt_59 : decode cX0_addDebt 59 = .ok (.lastore, 1) := by decide +kernel
theorem dX0_addDebt_60 : decode cX0_addDebt 60 = .ok (.return_, 1) := by decide +kernel
theorem dX0_isOpen_0 : decode cX0_isOpen 0 = .ok (.iload_n 1, 1) := by decide +kernel
theorem dX0_isOpen_1 : decode cX0_isOpen 1 = .ok (.iload_n 2, 1) := by decide +kernel
theorem dX0_isOpen_2 : decode cX0_isOpen 2 = .ok (.invokestatic 31, 3) := by decide +kernel
theorem dX0_isOpen_5 : decode cX0_isOpen 5 = .ok (.istore_n 3, 1) := by decide +kernel
theorem dX0_isOpen_6 : decode cX0_isOpen 6 = .ok (.iload_n 3, 1) := by decide +kernel
theorem dX0_isOpen_7 : decode cX0_isOpen 7 = .ok (.ifCond .lt 48, 3) := by decide +kernel
theorem dX0_isOpen_10 : decode cX0_isOpen 10 = .ok (.iload_n 3, 1) := by decide +kernel
theorem dX0_isOpen_11 : decode cX0_isOpen 11 = .ok (.bipush 25, 2) := by decide +kernel
theorem dX0_isOpen_13 : decode cX0_isOpen 13 = .ok (.if_icmp .ge 42, 3) := by decide +kernel
theorem dX0_isOpen_16 : decode cX0_isOpen 16 = .ok (.aload_n 0, 1) := by decide +kernel
theorem dX0_isOpen_17 : decode cX0_isOpen 17 = .ok (.getfield 9, 3) := by decide +kernel
theorem dX0_isOpen_20 : decode cX0_isOpen 20 = .ok (.iload_n 3, 1) := by decide +kernel
theorem dX0_isOpen_21 : decode cX0_isOpen 21 = .ok (.iaload, 1) := by decide +kernel
theorem dX0_isOpen_22 : decode cX0_isOpen 22 = .ok (.iconst (-1), 1) := by decide +kernel
theorem dX0_isOpen_23 : decode cX0_isOpen 23 = .ok (.if_icmp .eq 32, 3) := by decide +kernel
theorem dX0_isOpen_26 : decode cX0_isOpen 26 = .ok (.aload_n 0, 1) := by decide +kernel
theorem dX0_isOpen_27 : decode cX0_isOpen 27 = .ok (.getfield 18, 3) := by decide +kernel
theorem dX0_isOpen_30 : decode cX0_isOpen 30 = .ok (.iload_n 3, 1) := by decide +kernel
theorem dX0_isOpen_31 : decode cX0_isOpen 31 = .ok (.laload, 1) := by decide +kernel
theorem dX0_isOpen_32 : decode cX0_isOpen 32 = .ok (.aload_n 0, 1) := by decide +kernel
theorem dX0_isOpen_33 : decode cX0_isOpen 33 = .ok (.getfield 9, 3) := by decide +kernel
theorem dX0_isOpen_36 : decode cX0_isOpen 36 = .ok (.iload_n 3, 1) := by decide +kernel
theorem dX0_isOpen_37 : decode cX0_isOpen 37 = .ok (.iaload, 1) := by decide +kernel
theorem dX0_isOpen_38 : decode cX0_isOpen 38 = .ok (.i2l, 1) := by decide +kernel
theorem dX0_isOpen_39 : decode cX0_isOpen 39 = .ok (.ladd, 1) := by decide +kernel
theorem dX0_isOpen_40 : decode cX0_isOpen 40 = .ok (.aload_n 0, 1) := by decide +kernel
theorem dX0_isOpen_41 : decode cX0_isOpen 41 = .ok (.getfield 15, 3) := by decide +kernel
theorem dX0_isOpen_44 : decode cX0_isOpen 44 = .ok (.iload_n 3, 1) := by decide +kernel
theorem dX0_isOpen_45 : decode cX0_isOpen 45 = .ok (.iaload, 1) := by decide +kernel
theorem dX0_isOpen_46 : decode cX0_isOpen 46 = .ok (.i2l, 1) := by decide +kernel
theorem dX0_isOpen_47 : decode cX0_isOpen 47 = .ok (.lcmp, 1) := by decide +kernel
theorem dX0_isOpen_48 : decode cX0_isOpen 48 = .ok (.ifCond .gt 7, 3) := by decide +kernel
theorem dX0_isOpen_51 : decode cX0_isOpen 51 = .ok (.iconst 1, 1) := by decide +kernel
theorem dX0_isOpen_52 : decode cX0_isOpen 52 = .ok (.goto 4, 3) := by decide +kernel
theorem dX0_isOpen_55 : decode cX0_isOpen 55 = .ok (.iconst 0, 1) := by decide +kernel
theorem dX0_isOpen_56 : decode cX0_isOpen 56 = .ok (.ireturn, 1) := by decide +kernel
theorem dX0_isOpenAlong_0 : decode cX0_isOpenAlong 0 = .ok (.iconst 1, 1) := by decide +kernel
theorem dX0_isOpenAlong_1 : decode cX0_isOpenAlong 1 = .ok (.istore_n 2, 1) := by decide +kernel
theorem dX0_isOpenAlong_2 : decode cX0_isOpenAlong 2 = .ok (.iload_n 2, 1) := by decide +kernel
theorem dX0_isOpenAlong_3 : decode cX0_isOpenAlong 3 = .ok (.aload_n 1, 1) := by decide +kernel
theorem dX0_isOpenAlong_4 : decode cX0_isOpenAlong 4 = .ok (.getfield 35, 3) := by decide +kernel
theorem dX0_isOpenAlong_7 : decode cX0_isOpenAlong 7 = .ok (.if_icmp .ge 30, 3) := by decide +kernel
theorem dX0_isOpenAlong_10 : decode cX0_isOpenAlong 10 = .ok (.aload_n 0, 1) := by decide +kernel
theorem dX0_isOpenAlong_11 : decode cX0_isOpenAlong 11 = .ok (.aload_n 1, 1) := by decide +kernel
theorem dX0_isOpenAlong_12 : decode cX0_isOpenAlong 12 = .ok (.iload_n 2, 1) := by decide +kernel
theorem dX0_isOpenAlong_13 : decode cX0_isOpenAlong 13 = .ok (.iconst 1, 1) := by decide +kernel
theorem dX0_isOpenAlong_14 : decode cX0_isOpenAlong 14 = .ok (.isub, 1) := by decide +kernel
theorem dX0_isOpenAlong_15 : decode cX0_isOpenAlong 15 = .ok (.invokevirtual 41, 3) := by decide +kernel
theorem dX0_isOpenAlong_18 : decode cX0_isOpenAlong 18 = .ok (.aload_n 1, 1) := by decide +kernel
theorem dX0_isOpenAlong_19 : decode cX0_isOpenAlong 19 = .ok (.iload_n 2, 1) := by decide +kernel
theorem dX0_isOpenAlong_20 : decode cX0_isOpenAlong 20 = .ok (.invokevirtual 41, 3) := by decide +kernel
theorem dX0_isOpenAlong_23 : decode cX0_isOpenAlong 23 = .ok (.invokevirtual 45, 3) := by decide +kernel
theorem dX0_isOpenAlong_26 : decode cX0_isOpenAlong 26 = .ok (.ifCond .ne 5, 3) := by decide +kernel
theorem dX0_isOpenAlong_29 : decode cX0_isOpenAlong 29 = .ok (.iconst 0, 1) := by decide +kernel
theorem dX0_isOpenAlong_30 : decode cX0_isOpenAlong 30 = .ok (.ireturn, 1) := by decide +kernel
theorem dX0_isOpenAlong_31 : decode cX0_isOpenAlong 31 = .ok (.iinc 2 1, 3) := by decide +kernel
theorem dX0_isOpenAlong_34 : decode cX0_isOpenAlong 34 = .ok (.goto (-32), 3) := by decide +kernel
theorem dX0_isOpenAlong_37 : decode cX0_isOpenAlong 37 = .ok (.iconst 1, 1) := by decide +kernel
theorem dX0_isOpenAlong_38 : decode cX0_isOpenAlong 38 = .ok (.ireturn, 1) := by decide +kernel
theorem dX0_costOf_0 : decode cX0_costOf 0 = .ok (.iconst 0, 1) := by decide +kernel
theorem dX0_costOf_1 : decode cX0_costOf 1 = .ok (.istore_n 2, 1) := by decide +kernel
theorem dX0_costOf_2 : decode cX0_costOf 2 = .ok (.iconst 1, 1) := by decide +kernel
theorem dX0_costOf_3 : decode cX0_costOf 3 = .ok (.istore_n 3, 1) := by decide +kernel
theorem dX0_costOf_4 : decode cX0_costOf 4 = .ok (.iload_n 3, 1) := by decide +kernel
theorem dX0_costOf_5 : decode cX0_costOf 5 = .ok (.aload_n 1, 1) := by decide +kernel
theorem dX0_costOf_6 : decode cX0_costOf 6 = .ok (.getfield 35, 3) := by decide +kernel
theorem dX0_costOf_9 : decode cX0_costOf 9 = .ok (.if_icmp .ge 28, 3) := by decide +kernel
theorem dX0_costOf_12 : decode cX0_costOf 12 = .ok (.iload_n 2, 1) := by decide +kernel
theorem dX0_costOf_13 : decode cX0_costOf 13 = .ok (.aload_n 0, 1) := by decide +kernel
theorem dX0_costOf_14 : decode cX0_costOf 14 = .ok (.aload_n 1, 1) := by decide +kernel
theorem dX0_costOf_15 : decode cX0_costOf 15 = .ok (.iload_n 3, 1) := by decide +kernel
theorem dX0_costOf_16 : decode cX0_costOf 16 = .ok (.iconst 1, 1) := by decide +kernel
theorem dX0_costOf_17 : decode cX0_costOf 17 = .ok (.isub, 1) := by decide +kernel
theorem dX0_costOf_18 : decode cX0_costOf 18 = .ok (.invokevirtual 41, 3) := by decide +kernel
theorem dX0_costOf_21 : decode cX0_costOf 21 = .ok (.aload_n 1, 1) := by decide +kernel
theorem dX0_costOf_22 : decode cX0_costOf 22 = .ok (.iload_n 3, 1) := by decide +kernel
theorem dX0_costOf_23 : decode cX0_costOf 23 = .ok (.invokevirtual 41, 3) := by decide +kernel
theorem dX0_costOf_26 : decode cX0_costOf 26 = .ok (.invokevirtual 49, 3) := by decide +kernel
theorem dX0_costOf_29 : decode cX0_costOf 29 = .ok (.iadd, 1) := by decide +kernel
theorem dX0_costOf_30 : decode cX0_costOf 30 = .ok (.istore_n 2, 1) := by decide +kernel
theorem dX0_costOf_31 : decode cX0_costOf 31 = .ok (.iinc 3 1, 3) := by decide +kernel
theorem dX0_costOf_34 : decode cX0_costOf 34 = .ok (.goto (-30), 3) := by decide +kernel
theorem dX0_costOf_37 : decode cX0_costOf 37 = .ok (.iload_n 2, 1) := by decide +kernel
theorem dX0_costOf_38 : decode cX0_costOf 38 = .ok (.ireturn, 1) := by decide +kernel
theorem dX0_charge_0 : decode cX0_charge 0 = .ok (.iconst 1, 1) := by decide +kernel
theorem dX0_charge_1 : decode cX0_charge 1 = .ok (.istore_n 2, 1) := by decide +kernel
theorem dX0_charge_2 : decode cX0_charge 2 = .ok (.iload_n 2, 1) := by decide +kernel
theorem dX0_charge_3 : decode cX0_charge 3 = .ok (.aload_n 1, 1) := by decide +kernel
theorem dX0_charge_4 : decode cX0_charge 4 = .ok (.getfield 52, 3) := by decide +kernel
theorem dX0_charge_7 : decode cX0_charge 7 = .ok (.getfield 35, 3) := by decide +kernel
theorem dX0_charge_10 : decode cX0_charge 10 = .ok (.if_icmp .ge 61, 3) := by decide +kernel
theorem dX0_charge_13 : decode cX0_charge 13 = .ok (.aload_n 1, 1) := by decide +kernel
theorem dX0_charge_14 : decode cX0_charge 14 = .ok (.getfield 52, 3) := by decide +kernel
theorem dX0_charge_17 : decode cX0_charge 17 = .ok (.iload_n 2, 1) := by decide +kernel
theorem dX0_charge_18 : decode cX0_charge 18 = .ok (.iconst 1, 1) := by decide +kernel
theorem dX0_charge_19 : decode cX0_charge 19 = .ok (.isub, 1) := by decide +kernel
theorem dX0_charge_20 : decode cX0_charge 20 = .ok (.invokevirtual 41, 3) := by decide +kernel
theorem dX0_charge_23 : decode cX0_charge 23 = .ok (.istore_n 3, 1) := by decide +kernel
theorem dX0_charge_24 : decode cX0_charge 24 = .ok (.aload_n 1, 1) := by decide +kernel
theorem dX0_charge_25 : decode cX0_charge 25 = .ok (.getfield 52, 3) := by decide +kernel
theorem dX0_charge_28 : decode cX0_charge 28 = .ok (.iload_n 2, 1) := by decide +kernel
theorem dX0_charge_29 : decode cX0_charge 29 = .ok (.invokevirtual 41, 3) := by decide +kernel
theorem dX0_charge_32 : decode cX0_charge 32 = .ok (.istore 4, 2) := by decide +kernel
theorem dX0_charge_34 : decode cX0_charge 34 = .ok (.aload_n 0, 1) := by decide +kernel
theorem dX0_charge_35 : decode cX0_charge 35 = .ok (.iload_n 3, 1) := by decide +kernel
theorem dX0_charge_36 : decode cX0_charge 36 = .ok (.iload 4, 2) := by decide +kernel
theorem dX0_charge_38 : decode cX0_charge 38 = .ok (.invokevirtual 49, 3) := by decide +kernel
theorem dX0_charge_41 : decode cX0_charge 41 = .ok (.istore 5, 2) := by decide +kernel
theorem dX0_charge_43 : decode cX0_charge 43 = .ok (.aload_n 0, 1) := by decide +kernel
theorem dX0_charge_44 : decode cX0_charge 44 = .ok (.iload_n 3, 1) := by decide +kernel
theorem dX0_charge_45 : decode cX0_charge 45 = .ok (.iload 4, 2) := by decide +kernel
theorem dX0_charge_47 : decode cX0_charge 47 = .ok (.iload 5, 2) := by decide +kernel
theorem dX0_charge_49 : decode cX0_charge 49 = .ok (.i2l, 1) := by decide +kernel
theorem dX0_charge_50 : decode cX0_charge 50 = .ok (.invokevirtual 58, 3) := by decide +kernel
theorem dX0_charge_53 : decode cX0_charge 53 = .ok (.aload_n 1, 1) := by decide +kernel
theorem dX0_charge_54 : decode cX0_charge 54 = .ok (.iload_n 3, 1) := by decide +kernel
theorem dX0_charge_55 : decode cX0_charge 55 = .ok (.iload 4, 2) := by decide +kernel
theorem dX0_charge_57 : decode cX0_charge 57 = .ok (.invokestatic 31, 3) := by decide +kernel
theorem dX0_charge_60 : decode cX0_charge 60 = .ok (.iload 5, 2) := by decide +kernel
theorem dX0_charge_62 : decode cX0_charge 62 = .ok (.invokevirtual 62, 3) := by decide +kernel
theorem dX0_charge_65 : decode cX0_charge 65 = .ok (.iinc 2 1, 3) := by decide +kernel
theorem dX0_charge_68 : decode cX0_charge 68 = .ok (.goto (-66), 3) := by decide +kernel
theorem dX0_charge_71 : decode cX0_charge 71 = .ok (.return_, 1) := by decide +kernel
theorem dX0_findBest_0 : decode cX0_findBest 0 = .ok (.iload_n 1, 1) := by decide +kernel
theorem dX0_findBest_1 : decode cX0_findBest 1 = .ok (.invokestatic 66, 3) := by decide +kernel
theorem dX0_findBest_4 : decode cX0_findBest 4 = .ok (.ifCond .eq 10, 3) := by decide +kernel
theorem dX0_findBest_7 : decode cX0_findBest 7 = .ok (.iload_n 2, 1) := by decide +kernel
theorem dX0_findBest_8 : decode cX0_findBest 8 = .ok (.invokestatic 66, 3) := by decide +kernel
theorem dX0_findBest_11 : decode cX0_findBest 11 = .ok (.ifCond .ne 5, 3) := by decide +kernel
theorem dX0_findBest_14 : decode cX0_findBest 14 = .ok (.iconst 0, 1) := by decide +kernel
theorem dX0_findBest_15 : decode cX0_findBest 15 = .ok (.ireturn, 1) := by decide +kernel
theorem dX0_findBest_16 : decode cX0_findBest 16 = .ok (.aload_n 0, 1) := by decide +kernel
theorem dX0_findBest_17 : decode cX0_findBest 17 = .ok (.iload_n 2, 1) := by decide +kernel
theorem dX0_findBest_18 : decode cX0_findBest 18 = .ok (.invokevirtual 70, 3) := by decide +kernel
theorem dX0_findBest_21 : decode cX0_findBest 21 = .ok (.aload_n 0, 1) := by decide +kernel
theorem dX0_findBest_22 : decode cX0_findBest 22 = .ok (.getfield 22, 3) := by decide +kernel
theorem dX0_findBest_25 : decode cX0_findBest 25 = .ok (.iload_n 1, 1) := by decide +kernel
theorem dX0_findBest_26 : decode cX0_findBest 26 = .ok (.iaload, 1) := by decide +kernel
theorem dX0_findBest_27 : decode cX0_findBest 27 = .ok (.ldc 74, 2) := by decide +kernel
theorem dX0_findBest_29 : decode cX0_findBest 29 = .ok (.if_icmp .lt 5, 3) := by decide +kernel
theorem dX0_findBest_32 : decode cX0_findBest 32 = .ok (.iconst 0, 1) := by decide +kernel
theorem dX0_findBest_33 : decode cX0_findBest 33 = .ok (.ireturn, 1) := by decide +kernel
theorem dX0_findBest_34 : decode cX0_findBest 34 = .ok (.aload_n 3, 1) := by decide +kernel
theorem dX0_findBest_35 : decode cX0_findBest 35 = .ok (.invokevirtual 75, 3) := by decide +kernel
theorem dX0_findBest_38 : decode cX0_findBest 38 = .ok (.aload_n 3, 1) := by decide +kernel
theorem dX0_findBest_39 : decode cX0_findBest 39 = .ok (.iload_n 1, 1) := by decide +kernel
theorem dX0_findBest_40 : decode cX0_findBest 40 = .ok (.invokevirtual 78, 3) := by decide +kernel
theorem dX0_findBest_43 : decode cX0_findBest 43 = .ok (.iload_n 1, 1) := by decide +kernel
theorem dX0_findBest_44 : decode cX0_findBest 44 = .ok (.istore 4, 2) := by decide +kernel
theorem dX0_findBest_46 : decode cX0_findBest 46 = .ok (.iconst 1, 1) := by decide +kernel
theorem dX0_findBest_47 : decode cX0_findBest 47 = .ok (.istore 5, 2) := by decide +kernel
theorem dX0_findBest_49 : decode cX0_findBest 49 = .ok (.iload 5, 2) := by decide +kernel
theorem dX0_findBest_51 : decode cX0_findBest 51 = .ok (.iconst 5, 1) := by decide +kernel
theorem dX0_findBest_52 : decode cX0_findBest 52 = .ok (.if_icmp .ge 29, 3) := by decide +kernel
theorem dX0_findBest_55 : decode cX0_findBest 55 = .ok (.iload 4, 2) := by decide +kernel
theorem dX0_findBest_57 : decode cX0_findBest 57 = .ok (.iload_n 2, 1) := by decide +kernel
theorem dX0_findBest_58 : decode cX0_findBest 58 = .ok (.if_icmp .eq 23, 3) := by decide +kernel
theorem dX0_findBest_61 : decode cX0_findBest 61 = .ok (.aload_n 0, 1) := by decide +kernel
theorem dX0_findBest_62 : decode cX0_findBest 62 = .ok (.iload 4, 2) := by decide +kernel
theorem dX0_findBest_64 : decode cX0_findBest 64 = .ok (.invokevirtual 81, 3) := by decide +kernel
theorem dX0_findBest_67 : decode cX0_findBest 67 = .ok (.istore 4, 2) := by decide +kernel
theorem dX0_findBest_69 : decode cX0_findBest 69 = .ok (.aload_n 3, 1) := by decide +kernel
theorem dX0_findBest_70 : decode cX0_findBest 70 = .ok (.iload 4, 2) := by decide +kernel
theorem dX0_findBest_72 : decode cX0_findBest 72 = .ok (.invokevirtual 78, 3) := by decide +kernel
theorem dX0_findBest_75 : decode cX0_findBest 75 = .ok (.iinc 5 1, 3) := by decide +kernel
theorem dX0_findBest_78 : decode cX0_findBest 78 = .ok (.goto (-29), 3) := by decide +kernel
theorem dX0_findBest_81 : decode cX0_findBest 81 = .ok (.iconst 1, 1) := by decide +kernel
theorem dX0_findBest_82 : decode cX0_findBest 82 = .ok (.ireturn, 1) := by decide +kernel
theorem dX0_weighWaysTo_0 : decode cX0_weighWaysTo 0 = .ok (.aload_n 0, 1) := by decide +kernel
theorem dX0_weighWaysTo_1 : decode cX0_weighWaysTo 1 = .ok (.getfield 22, 3) := by decide +kernel
theorem dX0_weighWaysTo_4 : decode cX0_weighWaysTo 4 = .ok (.ldc 74, 2) := by decide +kernel
theorem dX0_weighWaysTo_6 : decode cX0_weighWaysTo 6 = .ok (.invokestatic 25, 3) := by decide +kernel
theorem dX0_weighWaysTo_9 : decode cX0_weighWaysTo 9 = .ok (.iload_n 1, 1) := by decide +kernel
theorem dX0_weighWaysTo_10 : decode cX0_weighWaysTo 10 = .ok (.invokestatic 66, 3) := by decide +kernel
theorem dX0_weighWaysTo_13 : decode cX0_weighWaysTo 13 = .ok (.ifCond .eq 10, 3) := by decide +kernel
theorem dX0_weighWaysTo_16 : decode cX0_weighWaysTo 16 = .ok (.aload_n 0, 1) := by decide +kernel
theorem dX0_weighWaysTo_17 : decode cX0_weighWaysTo 17 = .ok (.getfield 22, 3) := by decide +kernel
theorem dX0_weighWaysTo_20 : decode cX0_weighWaysTo 20 = .ok (.iload_n 1, 1) := by decide +kernel
theorem dX0_weighWaysTo_21 : decode cX0_weighWaysTo 21 = .ok (.iconst 0, 1) := by decide +kernel
theorem dX0_weighWaysTo_22 : decode cX0_weighWaysTo 22 = .ok (.iastore, 1) := by decide +kernel
theorem dX0_weighWaysTo_23 : decode cX0_weighWaysTo 23 = .ok (.iconst 1, 1) := by decide +kernel
theorem dX0_weighWaysTo_24 : decode cX0_weighWaysTo 24 = .ok (.istore_n 2, 1) := by decide +kernel
theorem dX0_weighWaysTo_25 : decode cX0_weighWaysTo 25 = .ok (.iload_n 2, 1) := by decide +kernel
theorem dX0_weighWaysTo_26 : decode cX0_weighWaysTo 26 = .ok (.iconst 5, 1) := by decide +kernel
theorem dX0_weighWaysTo_27 : decode cX0_weighWaysTo 27 = .ok (.if_icmp .ge 69, 3) := by decide +kernel
theorem dX0_weighWaysTo_30 : decode cX0_weighWaysTo 30 = .ok (.iconst 0, 1) := by decide +kernel
theorem dX0_weighWaysTo_31 : decode cX0_weighWaysTo 31 = .ok (.istore_n 3, 1) := by decide +kernel
theorem dX0_weighWaysTo_32 : decode cX0_weighWaysTo 32 = .ok (.iload_n 3, 1) := by decide +kernel
theorem dX0_weighWaysTo_33 : decode cX0_weighWaysTo 33 = .ok (.iconst 5, 1) := by decide +kernel
theorem dX0_weighWaysTo_34 : decode cX0_weighWaysTo 34 = .ok (.if_icmp .ge 56, 3) := by decide +kernel
theorem dX0_weighWaysTo_37 : decode cX0_weighWaysTo 37 = .ok (.iconst 0, 1) := by decide +kernel
theorem dX0_weighWaysTo_38 : decode cX0_weighWaysTo 38 = .ok (.istore 4, 2) := by decide +kernel
theorem dX0_weighWaysTo_40 : decode cX0_weighWaysTo 40 = .ok (.iload 4, 2) := by decide +kernel
theorem dX0_weighWaysTo_42 : decode cX0_weighWaysTo 42 = .ok (.iconst 5, 1) := by decide +kernel
theorem dX0_weighWaysTo_43 : decode cX0_weighWaysTo 43 = .ok (.if_icmp .ge 41, 3) := by decide +kernel
theorem dX0_weighWaysTo_46 : decode cX0_weighWaysTo 46 = .ok (.aload_n 0, 1) := by decide +kernel
theorem dX0_weighWaysTo_47 : decode cX0_weighWaysTo 47 = .ok (.iload_n 3, 1) := by decide +kernel
theorem dX0_weighWaysTo_48 : decode cX0_weighWaysTo 48 = .ok (.iload 4, 2) := by decide +kernel
theorem dX0_weighWaysTo_50 : decode cX0_weighWaysTo 50 = .ok (.invokevirtual 45, 3) := by decide +kernel
theorem dX0_weighWaysTo_53 : decode cX0_weighWaysTo 53 = .ok (.ifCond .eq 25, 3) := by decide +kernel
theorem dX0_weighWaysTo_56 : decode cX0_weighWaysTo 56 = .ok (.aload_n 0, 1) := by decide +kernel
theorem dX0_weighWaysTo_57 : decode cX0_weighWaysTo 57 = .ok (.getfield 22, 3) := by decide +kernel
theorem dX0_weighWaysTo_60 : decode cX0_weighWaysTo 60 = .ok (.iload_n 3, 1) := by decide +kernel
theorem dX0_weighWaysTo_61 : decode cX0_weighWaysTo 61 = .ok (.aload_n 0, 1) := by decide +kernel
theorem dX0_weighWaysTo_62 : decode cX0_weighWaysTo 62 = .ok (.getfield 22, 3) := by decide +kernel
theorem dX0_weighWaysTo_65 : decode cX0_weighWaysTo 65 = .ok (.iload_n 3, 1) := by decide +kernel
theorem dX0_weighWaysTo_66 : decode cX0_weighWaysTo 66 = .ok (.iaload, 1) := by decide +kernel
theorem dX0_weighWaysTo_67 : decode cX0_weighWaysTo 67 = .ok (.aload_n 0, 1) := by decide +kernel
theorem dX0_weighWaysTo_68 : decode cX0_weighWaysTo 68 = .ok (.iload_n 3, 1) := by decide +kernel
theorem dX0_weighWaysTo_69 : decode cX0_weighWaysTo 69 = .ok (.iload 4, 2) := by decide +kernel
theorem dX0_weighWaysTo_71 : decode cX0_weighWaysTo 71 = .ok (.invokevirtual 84, 3) := by decide +kernel
theorem dX0_weighWaysTo_74 : decode cX0_weighWaysTo 74 = .ok (.invokestatic 87, 3) := by decide +kernel
theorem dX0_weighWaysTo_77 : decode cX0_weighWaysTo 77 = .ok (.iastore, 1) := by decide +kernel
theorem dX0_weighWaysTo_78 : decode cX0_weighWaysTo 78 = .ok (.iinc 4 1, 3) := by decide +kernel
theorem dX0_weighWaysTo_81 : decode cX0_weighWaysTo 81 = .ok (.goto (-41), 3) := by decide +kernel
theorem dX0_weighWaysTo_84 : decode cX0_weighWaysTo 84 = .ok (.iinc 3 1, 3) := by decide +kernel
theorem dX0_weighWaysTo_87 : decode cX0_weighWaysTo 87 = .ok (.goto (-55), 3) := by decide +kernel
theorem dX0_weighWaysTo_90 : decode cX0_weighWaysTo 90 = .ok (.iinc 2 1, 3) := by decide +kernel
theorem dX0_weighWaysTo_93 : decode cX0_weighWaysTo 93 = .ok (.goto (-68), 3) := by decide +kernel
theorem dX0_weighWaysTo_96 : decode cX0_weighWaysTo 96 = .ok (.return_, 1) := by decide +kernel
theorem dX0_nextOnBest_0 : decode cX0_nextOnBest 0 = .ok (.iconst 0, 1) := by decide +kernel
theorem dX0_nextOnBest_1 : decode cX0_nextOnBest 1 = .ok (.istore_n 2, 1) := by decide +kernel
theorem dX0_nextOnBest_2 : decode cX0_nextOnBest 2 = .ok (.iload_n 2, 1) := by decide +kernel
theorem dX0_nextOnBest_3 : decode cX0_nextOnBest 3 = .ok (.iconst 5, 1) := by decide +kernel
theorem dX0_nextOnBest_4 : decode cX0_nextOnBest 4 = .ok (.if_icmp .ge 42, 3) := by decide +kernel
theorem dX0_nextOnBest_7 : decode cX0_nextOnBest 7 = .ok (.aload_n 0, 1) := by decide +kernel
theorem dX0_nextOnBest_8 : decode cX0_nextOnBest 8 = .ok (.iload_n 1, 1) := by decide +kernel
theorem dX0_nextOnBest_9 : decode cX0_nextOnBest 9 = .ok (.iload_n 2, 1) := by decide +kernel
theorem dX0_nextOnBest_10 : decode cX0_nextOnBest 10 = .ok (.invokevirtual 45, 3) := by decide +kernel
theorem dX0_nextOnBest_13 : decode cX0_nextOnBest 13 = .ok (.ifCond .eq 27, 3) := by decide +kernel
theorem dX0_nextOnBest_16 : decode cX0_nextOnBest 16 = .ok (.iload_n 1, 1) := by decide +kernel
theorem dX0_nextOnBest_17 : decode cX0_nextOnBest 17 = .ok (.invokestatic 66, 3) := by decide +kernel
theorem dX0_nextOnBest_20 : decode cX0_nextOnBest 20 = .ok (.ifCond .eq 20, 3) := by decide +kernel
theorem dX0_nextOnBest_23 : decode cX0_nextOnBest 23 = .ok (.aload_n 0, 1) := by decide +kernel
theorem dX0_nextOnBest_24 : decode cX0_nextOnBest 24 = .ok (.iload_n 1, 1) := by decide +kernel
theorem dX0_nextOnBest_25 : decode cX0_nextOnBest 25 = .ok (.iload_n 2, 1) := by decide +kernel
theorem dX0_nextOnBest_26 : decode cX0_nextOnBest 26 = .ok (.invokevirtual 84, 3) := by decide +kernel
theorem dX0_nextOnBest_29 : decode cX0_nextOnBest 29 = .ok (.aload_n 0, 1) := by decide +kernel
theorem dX0_nextOnBest_30 : decode cX0_nextOnBest 30 = .ok (.getfield 22, 3) := by decide +kernel
theorem dX0_nextOnBest_33 : decode cX0_nextOnBest 33 = .ok (.iload_n 1, 1) := by decide +kernel
theorem dX0_nextOnBest_34 : decode cX0_nextOnBest 34 = .ok (.iaload, 1) := by decide +kernel
theorem dX0_nextOnBest_35 : decode cX0_nextOnBest 35 = .ok (.if_icmp .ne 5, 3) := by decide +kernel
theorem dX0_nextOnBest_38 : decode cX0_nextOnBest 38 = .ok (.iload_n 2, 1) := by decide +kernel
theorem dX0_nextOnBest_39 : decode cX0_nextOnBest 39 = .ok (.ireturn, 1) := by decide +kernel
theorem dX0_nextOnBest_40 : decode cX0_nextOnBest 40 = .ok (.iinc 2 1, 3) := by decide +kernel
theorem dX0_nextOnBest_43 : decode cX0_nextOnBest 43 = .ok (.goto (-41), 3) := by decide +kernel
theorem dX0_nextOnBest_46 : decode cX0_nextOnBest 46 = .ok (.iconst (-1), 1) := by decide +kernel
theorem dX0_nextOnBest_47 : decode cX0_nextOnBest 47 = .ok (.ireturn, 1) := by decide +kernel
theorem dX0_weightOver_0 : decode cX0_weightOver 0 = .ok (.iload_n 2, 1) := by decide +kernel
theorem dX0_weightOver_1 : decode cX0_weightOver 1 = .ok (.invokestatic 66, 3) := by decide +kernel
theorem dX0_weightOver_4 : decode cX0_weightOver 4 = .ok (.ifCond .eq 12, 3) := by decide +kernel
theorem dX0_weightOver_7 : decode cX0_weightOver 7 = .ok (.aload_n 0, 1) := by decide +kernel
theorem dX0_weightOver_8 : decode cX0_weightOver 8 = .ok (.getfield 22, 3) := by decide +kernel
theorem dX0_weightOver_11 : decode cX0_weightOver 11 = .ok (.iload_n 2, 1) := by decide +kernel
theorem dX0_weightOver_12 : decode cX0_weightOver 12 = .ok (.iaload, 1) := by decide +kernel
theorem dX0_weightOver_13 : decode cX0_weightOver 13 = .ok (.goto 5, 3) := by decide +kernel
theorem dX0_weightOver_16 : decode cX0_weightOver 16 = .ok (.ldc 74, 2) := by decide +kernel
theorem dX0_weightOver_18 : decode cX0_weightOver 18 = .ok (.istore_n 3, 1) := by decide +kernel
theorem dX0_weightOver_19 : decode cX0_weightOver 19 = .ok (.iload_n 3, 1) := by decide +kernel
theorem dX0_weightOver_20 : decode cX0_weightOver 20 = .ok (.aload_n 0, 1) := by decide +kernel
theorem dX0_weightOver_21 : decode cX0_weightOver 21 = .ok (.iload_n 1, 1) := by decide +kernel
theorem dX0_weightOver_22 : decode cX0_weightOver 22 = .ok (.iload_n 2, 1) := by decide +kernel
theorem dX0_weightOver_23 : decode cX0_weightOver 23 = .ok (.invokevirtual 49, 3) := by decide +kernel
theorem dX0_weightOver_26 : decode cX0_weightOver 26 = .ok (.bipush 8, 2) := by decide +kernel
theorem dX0_weightOver_28 : decode cX0_weightOver 28 = .ok (.imul, 1) := by decide +kernel
theorem dX0_weightOver_29 : decode cX0_weightOver 29 = .ok (.iadd, 1) := by decide +kernel
theorem dX0_weightOver_30 : decode cX0_weightOver 30 = .ok (.iconst 1, 1) := by decide +kernel
theorem dX0_weightOver_31 : decode cX0_weightOver 31 = .ok (.iadd, 1) := by decide +kernel
theorem dX0_weightOver_32 : decode cX0_weightOver 32 = .ok (.ireturn, 1) := by decide +kernel
theorem dX1_init_0 : decode cX1_init 0 = .ok (.aload_n 0, 1) := by decide +kernel
theorem dX1_init_1 : decode cX1_init 1 = .ok (.invokespecial 3, 3) := by decide +kernel
theorem dX1_init_4 : decode cX1_init 4 = .ok (.aload_n 0, 1) := by decide +kernel
theorem dX1_init_5 : decode cX1_init 5 = .ok (.iconst 5, 1) := by decide +kernel
theorem dX1_init_6 : decode cX1_init 6 = .ok (.newarray .int, 2) := by decide +kernel
theorem dX1_init_8 : decode cX1_init 8 = .ok (.putfield 9, 3) := by decide +kernel
theorem dX1_init_11 : decode cX1_init 11 = .ok (.return_, 1) := by decide +kernel
theorem dX1_carrierAt_0 : decode cX1_carrierAt 0 = .ok (.iload_n 1, 1) := by decide +kernel
theorem dX1_carrierAt_1 : decode cX1_carrierAt 1 = .ok (.ifCond .lt 25, 3) := by decide +kernel
theorem dX1_carrierAt_4 : decode cX1_carrierAt 4 = .ok (.iload_n 1, 1) := by decide +kernel
theorem dX1_carrierAt_5 : decode cX1_carrierAt 5 = .ok (.aload_n 0, 1) := by decide +kernel
theorem dX1_carrierAt_6 : decode cX1_carrierAt 6 = .ok (.getfield 15, 3) := by decide +kernel
theorem dX1_carrierAt_9 : decode cX1_carrierAt 9 = .ok (.if_icmp .ge 17, 3) := by decide +kernel
theorem dX1_carrierAt_12 : decode cX1_carrierAt 12 = .ok (.iload_n 1, 1) := by decide +kernel
theorem dX1_carrierAt_13 : decode cX1_carrierAt 13 = .ok (.iconst 5, 1) := by decide +kernel
theorem dX1_carrierAt_14 : decode cX1_carrierAt 14 = .ok (.if_icmp .ge 12, 3) := by decide +kernel
theorem dX1_carrierAt_17 : decode cX1_carrierAt 17 = .ok (.aload_n 0, 1) := by decide +kernel
theorem dX1_carrierAt_18 : decode cX1_carrierAt 18 = .ok (.getfield 9, 3) := by decide +kernel
theorem dX1_carrierAt_21 : decode cX1_carrierAt 21 = .ok (.iload_n 1, 1) := by decide +kernel
theorem dX1_carrierAt_22 : decode cX1_carrierAt 22 = .ok (.iaload, 1) := by decide +kernel
theorem dX1_carrierAt_23 : decode cX1_carrierAt 23 = .ok (.goto 4, 3) := by decide +kernel
theorem dX1_carrierAt_26 : decode cX1_carrierAt 26 = .ok (.iconst (-1), 1) := by decide +kernel
theorem dX1_carrierAt_27 : decode cX1_carrierAt 27 = .ok (.ireturn, 1) := by decide +kernel
theorem dX1_clear_0 : decode cX1_clear 0 = .ok (.aload_n 0, 1) := by decide +kernel
theorem dX1_clear_1 : decode cX1_clear 1 = .ok (.iconst 0, 1) := by decide +kernel
theorem dX1_clear_2 : decode cX1_clear 2 = .ok (.putfield 15, 3) := by decide +kernel
theorem dX1_clear_5 : decode cX1_clear 5 = .ok (.return_, 1) := by decide +kernel
theorem dX1_add_0 : decode cX1_add 0 = .ok (.aload_n 0, 1) := by decide +kernel
theorem dX1_add_1 : decode cX1_add 1 = .ok (.getfield 15, 3) := by decide +kernel
theorem dX1_add_4 : decode cX1_add 4 = .ok (.ifCond .lt 31, 3) := by decide +kernel
theorem dX1_add_7 : decode cX1_add 7 = .ok (.aload_n 0, 1) := by decide +kernel
theorem dX1_add_8 : decode cX1_add 8 = .ok (.getfield 15, 3) := by decide +kernel
theorem dX1_add_11 : decode cX1_add 11 = .ok (.iconst 5, 1) := by decide +kernel
theorem dX1_add_12 : decode cX1_add 12 = .ok (.if_icmp .ge 23, 3) := by decide +kernel
theorem dX1_add_15 : decode cX1_add 15 = .ok (.aload_n 0, 1) := by decide +kernel
theorem dX1_add_16 : decode cX1_add 16 = .ok (.getfield 9, 3) := by decide +kernel
theorem dX1_add_19 : decode cX1_add 19 = .ok (.aload_n 0, 1) := by decide +kernel
theorem dX1_add_20 : decode cX1_add 20 = .ok (.getfield 15, 3) := by decide +kernel
theorem dX1_add_23 : decode cX1_add 23 = .ok (.iload_n 1, 1) := by decide +kernel
theorem dX1_add_24 : decode cX1_add 24 = .ok (.iastore, 1) := by decide +kernel
theorem dX1_add_25 : decode cX1_add 25 = .ok (.aload_n 0, 1) := by decide +kernel
theorem dX1_add_26 : decode cX1_add 26 = .ok (.dup, 1) := by decide +kernel
theorem dX1_add_27 : decode cX1_add 27 = .ok (.getfield 15, 3) := by decide +kernel
theorem dX1_add_30 : decode cX1_add 30 = .ok (.iconst 1, 1) := by decide +kernel
theorem dX1_add_31 : decode cX1_add 31 = .ok (.iadd, 1) := by decide +kernel
theorem dX1_add_32 : decode cX1_add 32 = .ok (.putfield 15, 3) := by decide +kernel
theorem dX1_add_35 : decode cX1_add 35 = .ok (.return_, 1) := by decide +kernel
theorem dX1_become_0 : decode cX1_become 0 = .ok (.aload_n 0, 1) := by decide +kernel
theorem dX1_become_1 : decode cX1_become 1 = .ok (.invokevirtual 19, 3) := by decide +kernel
theorem dX1_become_4 : decode cX1_become 4 = .ok (.iconst 0, 1) := by decide +kernel
theorem dX1_become_5 : decode cX1_become 5 = .ok (.istore_n 2, 1) := by decide +kernel
theorem dX1_become_6 : decode cX1_become 6 = .ok (.iload_n 2, 1) := by decide +kernel
theorem dX1_become_7 : decode cX1_become 7 = .ok (.aload_n 1, 1) := by decide +kernel
theorem dX1_become_8 : decode cX1_become 8 = .ok (.getfield 15, 3) := by decide +kernel
theorem dX1_become_11 : decode cX1_become 11 = .ok (.if_icmp .ge 18, 3) := by decide +kernel
theorem dX1_become_14 : decode cX1_become 14 = .ok (.aload_n 0, 1) := by decide +kernel
theorem dX1_become_15 : decode cX1_become 15 = .ok (.aload_n 1, 1) := by decide +kernel
theorem dX1_become_16 : decode cX1_become 16 = .ok (.iload_n 2, 1) := by decide +kernel
theorem dX1_become_17 : decode cX1_become 17 = .ok (.invokevirtual 22, 3) := by decide +kernel
theorem dX1_become_20 : decode cX1_become 20 = .ok (.invokevirtual 26, 3) := by decide +kernel
theorem dX1_become_23 : decode cX1_become 23 = .ok (.iinc 2 1, 3) := by decide +kernel
theorem dX1_become_26 : decode cX1_become 26 = .ok (.goto (-20), 3) := by decide +kernel
theorem dX1_become_29 : decode cX1_become 29 = .ok (.return_, 1) := by decide +kernel
theorem dX2_init_0 : decode cX2_init 0 = .ok (.aload_n 0, 1) := by decide +kernel
theorem dX2_init_1 : decode cX2_init 1 = .ok (.invokespecial 3, 3) := by decide +kernel
theorem dX2_init_4 : decode cX2_init 4 = .ok (.aload_n 0, 1) := by decide +kernel
theorem dX2_init_5 : decode cX2_init 5 = .ok (.bipush 10, 2) := by decide +kernel
theorem dX2_init_7 : decode cX2_init 7 = .ok (.newarray .int, 2) := by decide +kernel
theorem dX2_init_9 : decode cX2_init 9 = .ok (.putfield 9, 3) := by decide +kernel
theorem dX2_init_12 : decode cX2_init 12 = .ok (.aload_n 0, 1) := by decide +kernel
theorem dX2_init_13 : decode cX2_init 13 = .ok (.getfield 9, 3) := by decide +kernel
theorem dX2_init_16 : decode cX2_init 16 = .ok (.iconst 0, 1) := by decide +kernel
theorem dX2_init_17 : decode cX2_init 17 = .ok (.iload_n 1, 1) := by decide +kernel
theorem dX2_init_18 : decode cX2_init 18 = .ok (.iastore, 1) := by decide +kernel
theorem dX2_init_19 : decode cX2_init 19 = .ok (.aload_n 0, 1) := by decide +kernel
theorem dX2_init_20 : decode cX2_init 20 = .ok (.iconst 1, 1) := by decide +kernel
theorem dX2_init_21 : decode cX2_init 21 = .ok (.putfield 15, 3) := by decide +kernel
theorem dX2_init_24 : decode cX2_init 24 = .ok (.aload_n 0, 1) := by decide +kernel
theorem dX2_init_25 : decode cX2_init 25 = .ok (.iload_n 2, 1) := by decide +kernel
theorem dX2_init_26 : decode cX2_init 26 = .ok (.putfield 19, 3) := by decide +kernel
theorem dX2_init_29 : decode cX2_init 29 = .ok (.aload_n 0, 1) := by decide +kernel
theorem dX2_init_30 : decode cX2_init 30 = .ok (.iload_n 3, 1) := by decide +kernel
theorem dX2_init_31 : decode cX2_init 31 = .ok (.putfield 22, 3) := by decide +kernel
theorem dX2_init_34 : decode cX2_init 34 = .ok (.return_, 1) := by decide +kernel
theorem dX2_homeAt_0 : decode cX2_homeAt 0 = .ok (.iload_n 1, 1) := by decide +kernel
theorem dX2_homeAt_1 : decode cX2_homeAt 1 = .ok (.ifCond .lt 36, 3) := by decide +kernel
theorem dX2_homeAt_4 : decode cX2_homeAt 4 = .ok (.iload_n 1, 1) := by decide +kernel
theorem dX2_homeAt_5 : decode cX2_homeAt 5 = .ok (.aload_n 0, 1) := by decide +kernel
theorem dX2_homeAt_6 : decode cX2_homeAt 6 = .ok (.getfield 15, 3) := by decide +kernel
theorem dX2_homeAt_9 : decode cX2_homeAt 9 = .ok (.if_icmp .ge 28, 3) := by decide +kernel
theorem dX2_homeAt_12 : decode cX2_homeAt 12 = .ok (.aload_n 0, 1) := by decide +kernel
theorem dX2_homeAt_13 : decode cX2_homeAt 13 = .ok (.getfield 15, 3) := by decide +kernel
theorem dX2_homeAt_16 : decode cX2_homeAt 16 = .ok (.bipush 10, 2) := by decide +kernel
theorem dX2_homeAt_18 : decode cX2_homeAt 18 = .ok (.if_icmp .gt 19, 3) := by decide +kernel
theorem dX2_homeAt_21 : decode cX2_homeAt 21 = .ok (.aload_n 0, 1) := by decide +kernel
theorem dX2_homeAt_22 : decode cX2_homeAt 22 = .ok (.getfield 9, 3) := by decide +kernel
theorem dX2_homeAt_25 : decode cX2_homeAt 25 = .ok (.aload_n 0, 1) := by decide +kernel
theorem dX2_homeAt_26 : decode cX2_homeAt 26 = .ok (.getfield 15, 3) := by decide +kernel
theorem dX2_homeAt_29 : decode cX2_homeAt 29 = .ok (.iconst 1, 1) := by decide +kernel
theorem dX2_homeAt_30 : decode cX2_homeAt 30 = .ok (.isub, 1) := by decide +kernel
theorem dX2_homeAt_31 : decode cX2_homeAt 31 = .ok (.iload_n 1, 1) := by decide +kernel
theorem dX2_homeAt_32 : decode cX2_homeAt 32 = .ok (.isub, 1) := by decide +kernel
theorem dX2_homeAt_33 : decode cX2_homeAt 33 = .ok (.iaload, 1) := by decide +kernel
theorem dX2_homeAt_34 : decode cX2_homeAt 34 = .ok (.goto 4, 3) := by decide +kernel
theorem dX2_homeAt_37 : decode cX2_homeAt 37 = .ok (.iconst (-1), 1) := by decide +kernel
theorem dX2_homeAt_38 : decode cX2_homeAt 38 = .ok (.ireturn, 1) := by decide +kernel
theorem dX2_moveTo_0 : decode cX2_moveTo 0 = .ok (.aload_n 0, 1) := by decide +kernel
theorem dX2_moveTo_1 : decode cX2_moveTo 1 = .ok (.getfield 15, 3) := by decide +kernel
theorem dX2_moveTo_4 : decode cX2_moveTo 4 = .ok (.ifCond .lt 12, 3) := by decide +kernel
theorem dX2_moveTo_7 : decode cX2_moveTo 7 = .ok (.aload_n 0, 1) := by decide +kernel
theorem dX2_moveTo_8 : decode cX2_moveTo 8 = .ok (.getfield 15, 3) := by decide +kernel
theorem dX2_moveTo_11 : decode cX2_moveTo 11 = .ok (.bipush 10, 2) := by decide +kernel
theorem dX2_moveTo_13 : decode cX2_moveTo 13 = .ok (.if_icmp .lt 5, 3) := by decide +kernel
theorem dX2_moveTo_16 : decode cX2_moveTo 16 = .ok (.iconst 0, 1) := by decide +kernel
theorem dX2_moveTo_17 : decode cX2_moveTo 17 = .ok (.ireturn, 1) := by decide +kernel
theorem dX2_moveTo_18 : decode cX2_moveTo 18 = .ok (.aload_n 0, 1) := by decide +kernel
theorem dX2_moveTo_19 : decode cX2_moveTo 19 = .ok (.getfield 9, 3) := by decide +kernel
theorem dX2_moveTo_22 : decode cX2_moveTo 22 = .ok (.aload_n 0, 1) := by decide +kernel
theorem dX2_moveTo_23 : decode cX2_moveTo 23 = .ok (.getfield 15, 3) := by decide +kernel
theorem dX2_moveTo_26 : decode cX2_moveTo 26 = .ok (.iload_n 1, 1) := by decide +kernel
theorem dX2_moveTo_27 : decode cX2_moveTo 27 = .ok (.iastore, 1) := by decide +kernel
theorem dX2_moveTo_28 : decode cX2_moveTo 28 = .ok (.aload_n 0, 1) := by decide +kernel
theorem dX2_moveTo_29 : decode cX2_moveTo 29 = .ok (.dup, 1) := by decide +kernel
theorem dX2_moveTo_30 : decode cX2_moveTo 30 = .ok (.getfield 15, 3) := by decide +kernel
theorem dX2_moveTo_33 : decode cX2_moveTo 33 = .ok (.iconst 1, 1) := by decide +kernel
theorem dX2_moveTo_34 : decode cX2_moveTo 34 = .ok (.iadd, 1) := by decide +kernel
theorem dX2_moveTo_35 : decode cX2_moveTo 35 = .ok (.putfield 15, 3) := by decide +kernel
theorem dX2_moveTo_38 : decode cX2_moveTo 38 = .ok (.iconst 1, 1) := by decide +kernel
theorem dX2_moveTo_39 : decode cX2_moveTo 39 = .ok (.ireturn, 1) := by decide +kernel
theorem dX2_pay_0 : decode cX2_pay 0 = .ok (.aload_n 0, 1) := by decide +kernel
theorem dX2_pay_1 : decode cX2_pay 1 = .ok (.getfield 22, 3) := by decide +kernel
theorem dX2_pay_4 : decode cX2_pay 4 = .ok (.iload_n 1, 1) := by decide +kernel
theorem dX2_pay_5 : decode cX2_pay 5 = .ok (.if_icmp .lt 15, 3) := by decide +kernel
theorem dX2_pay_8 : decode cX2_pay 8 = .ok (.aload_n 0, 1) := by decide +kernel
theorem dX2_pay_9 : decode cX2_pay 9 = .ok (.dup, 1) := by decide +kernel
theorem dX2_pay_10 : decode cX2_pay 10 = .ok (.getfield 22, 3) := by decide +kernel
theorem dX2_pay_13 : decode cX2_pay 13 = .ok (.iload_n 1, 1) := by decide +kernel
theorem dX2_pay_14 : decode cX2_pay 14 = .ok (.isub, 1) := by decide +kernel
theorem dX2_pay_15 : decode cX2_pay 15 = .ok (.putfield 22, 3) := by decide +kernel
theorem dX2_pay_18 : decode cX2_pay 18 = .ok (.iconst 1, 1) := by decide +kernel
theorem dX2_pay_19 : decode cX2_pay 19 = .ok (.ireturn, 1) := by decide +kernel
theorem dX2_pay_20 : decode cX2_pay 20 = .ok (.aload_n 0, 1) := by decide +kernel
theorem dX2_pay_21 : decode cX2_pay 21 = .ok (.getfield 19, 3) := by decide +kernel
theorem dX2_pay_24 : decode cX2_pay 24 = .ok (.iload_n 2, 1) := by decide +kernel
theorem dX2_pay_25 : decode cX2_pay 25 = .ok (.if_icmp .lt 15, 3) := by decide +kernel
theorem dX2_pay_28 : decode cX2_pay 28 = .ok (.aload_n 0, 1) := by decide +kernel
theorem dX2_pay_29 : decode cX2_pay 29 = .ok (.dup, 1) := by decide +kernel
theorem dX2_pay_30 : decode cX2_pay 30 = .ok (.getfield 19, 3) := by decide +kernel
theorem dX2_pay_33 : decode cX2_pay 33 = .ok (.iload_n 2, 1) := by decide +kernel
theorem dX2_pay_34 : decode cX2_pay 34 = .ok (.isub, 1) := by decide +kernel
theorem dX2_pay_35 : decode cX2_pay 35 = .ok (.putfield 19, 3) := by decide +kernel
theorem dX2_pay_38 : decode cX2_pay 38 = .ok (.iconst 1, 1) := by decide +kernel
theorem dX2_pay_39 : decode cX2_pay 39 = .ok (.ireturn, 1) := by decide +kernel
theorem dX2_pay_40 : decode cX2_pay 40 = .ok (.iconst 0, 1) := by decide +kernel
theorem dX2_pay_41 : decode cX2_pay 41 = .ok (.ireturn, 1) := by decide +kernel
theorem dX3_init_0 : decode cX3_init 0 = .ok (.aload_n 0, 1) := by decide +kernel
theorem dX3_init_1 : decode cX3_init 1 = .ok (.invokespecial 3, 3) := by decide +kernel
theorem dX3_init_4 : decode cX3_init 4 = .ok (.aload_n 0, 1) := by decide +kernel
theorem dX3_init_5 : decode cX3_init 5 = .ok (.new 9, 3) := by decide +kernel
theorem dX3_init_8 : decode cX3_init 8 = .ok (.dup, 1) := by decide +kernel
theorem dX3_init_9 : decode cX3_init 9 = .ok (.invokespecial 11, 3) := by decide +kernel
theorem dX3_init_12 : decode cX3_init 12 = .ok (.putfield 12, 3) := by decide +kernel
theorem dX3_init_15 : decode cX3_init 15 = .ok (.aload_n 0, 1) := by decide +kernel
theorem dX3_init_16 : decode cX3_init 16 = .ok (.bipush 25, 2) := by decide +kernel
theorem dX3_init_18 : decode cX3_init 18 = .ok (.newarray .long, 2) := by decide +kernel
theorem dX3_init_20 : decode cX3_init 20 = .ok (.putfield 18, 3) := by decide +kernel
theorem dX3_init_23 : decode cX3_init 23 = .ok (.aload_n 0, 1) := by decide +kernel
theorem dX3_init_24 : decode cX3_init 24 = .ok (.iconst 0, 1) := by decide +kernel
theorem dX3_init_25 : decode cX3_init 25 = .ok (.putfield 22, 3) := by decide +kernel
theorem dX3_init_28 : decode cX3_init 28 = .ok (.aload_n 0, 1) := by decide +kernel
theorem dX3_init_29 : decode cX3_init 29 = .ok (.aload_n 1, 1) := by decide +kernel
theorem dX3_init_30 : decode cX3_init 30 = .ok (.putfield 26, 3) := by decide +kernel
theorem dX3_init_33 : decode cX3_init 33 = .ok (.aload_n 0, 1) := by decide +kernel
theorem dX3_init_34 : decode cX3_init 34 = .ok (.aload_n 2, 1) := by decide +kernel
theorem dX3_init_35 : decode cX3_init 35 = .ok (.putfield 30, 3) := by decide +kernel
theorem dX3_init_38 : decode cX3_init 38 = .ok (.aload_n 0, 1) := by decide +kernel
theorem dX3_init_39 : decode cX3_init 39 = .ok (.iload_n 3, 1) := by decide +kernel
theorem dX3_init_40 : decode cX3_init 40 = .ok (.putfield 33, 3) := by decide +kernel
theorem dX3_init_43 : decode cX3_init 43 = .ok (.aload_n 0, 1) := by decide +kernel
theorem dX3_init_44 : decode cX3_init 44 = .ok (.iload 4, 2) := by decide +kernel
theorem dX3_init_46 : decode cX3_init 46 = .ok (.putfield 36, 3) := by decide +kernel
theorem dX3_init_49 : decode cX3_init 49 = .ok (.return_, 1) := by decide +kernel
theorem dX3_isStepDue_0 : decode cX3_isStepDue 0 = .ok (.aload_n 0, 1) := by decide +kernel
theorem dX3_isStepDue_1 : decode cX3_isStepDue 1 = .ok (.getfield 33, 3) := by decide +kernel
theorem dX3_isStepDue_4 : decode cX3_isStepDue 4 = .ok (.ifCond .le 19, 3) := by decide +kernel
theorem dX3_isStepDue_7 : decode cX3_isStepDue 7 = .ok (.aload_n 0, 1) := by decide +kernel
theorem dX3_isStepDue_8 : decode cX3_isStepDue 8 = .ok (.getfield 39, 3) := by decide +kernel
theorem dX3_isStepDue_11 : decode cX3_isStepDue 11 = .ok (.aload_n 0, 1) := by decide +kernel
theorem dX3_isStepDue_12 : decode cX3_isStepDue 12 = .ok (.getfield 33, 3) := by decide +kernel
theorem dX3_isStepDue_15 : decode cX3_isStepDue 15 = .ok (.irem, 1) := by decide +kernel
theorem dX3_isStepDue_16 : decode cX3_isStepDue 16 = .ok (.ifCond .ne 7, 3) := by decide +kernel
theorem dX3_isStepDue_19 : decode cX3_isStepDue 19 = .ok (.iconst 1, 1) := by decide +kernel
theorem dX3_isStepDue_20 : decode cX3_isStepDue 20 = .ok (.goto 4, 3) := by decide +kernel
theorem dX3_isStepDue_23 : decode cX3_isStepDue 23 = .ok (.iconst 0, 1) := by decide +kernel
theorem dX3_isStepDue_24 : decode cX3_isStepDue 24 = .ok (.ireturn, 1) := by decide +kernel
theorem dX3_addCharge_0 : decode cX3_addCharge 0 = .ok (.iload_n 1, 1) := by decide +kernel
theorem dX3_addCharge_1 : decode cX3_addCharge 1 = .ok (.ifCond .lt 20, 3) := by decide +kernel
theorem dX3_addCharge_4 : decode cX3_addCharge 4 = .ok (.iload_n 1, 1) := by decide +kernel
theorem dX3_addCharge_5 : decode cX3_addCharge 5 = .ok (.bipush 25, 2) := by decide +kernel
theorem dX3_addCharge_7 : decode cX3_addCharge 7 = .ok (.if_icmp .ge 14, 3) := by decide +kernel
theorem dX3_addCharge_10 : decode cX3_addCharge 10 = .ok (.aload_n 0, 1) := by decide +kernel
theorem dX3_addCharge_11 : decode cX3_addCharge 11 = .ok (.getfield 18, 3) := by decide +kernel
theorem dX3_addCharge_14 : decode cX3_addCharge 14 = .ok (.iload_n 1, 1) := by decide +kernel
theorem dX3_addCharge_15 : decode cX3_addCharge 15 = .ok (.dup2, 1) := by decide +kernel
theorem dX3_addCharge_16 : decode cX3_addCharge 16 = .ok (.laload, 1) := by decide +kernel
theorem dX3_addCharge_17 : decode cX3_addCharge 17 = .ok (.iload_n 2, 1) := by decide +kernel
theorem dX3_addCharge_18 : decode cX3_addCharge 18 = .ok (.i2l, 1) := by decide +kernel
theorem dX3_addCharge_19 : decode cX3_addCharge 19 = .ok (.ladd, 1) := by decide +kernel
theorem dX3_addCharge_20 : decode cX3_addCharge 20 = .ok (.lastore, 1) := by decide +kernel
theorem dX3_addCharge_21 : decode cX3_addCharge 21 = .ok (.return_, 1) := by decide +kernel
theorem dX3_chargeOf_0 : decode cX3_chargeOf 0 = .ok (.iload_n 1, 1) := by decide +kernel
theorem dX3_chargeOf_1 : decode cX3_chargeOf 1 = .ok (.ifCond .lt 18, 3) := by decide +kernel
theorem dX3_chargeOf_4 : decode cX3_chargeOf 4 = .ok (.iload_n 1, 1) := by decide +kernel
theorem dX3_chargeOf_5 : decode cX3_chargeOf 5 = .ok (.bipush 25, 2) := by decide +kernel
theorem dX3_chargeOf_7 : decode cX3_chargeOf 7 = .ok (.if_icmp .ge 12, 3) := by decide +kernel
theorem dX3_chargeOf_10 : decode cX3_chargeOf 10 = .ok (.aload_n 0, 1) := by decide +kernel
theorem dX3_chargeOf_11 : decode cX3_chargeOf 11 = .ok (.getfield 18, 3) := by decide +kernel
theorem dX3_chargeOf_14 : decode cX3_chargeOf 14 = .ok (.iload_n 1, 1) := by decide +kernel
theorem dX3_chargeOf_15 : decode cX3_chargeOf 15 = .ok (.laload, 1) := by decide +kernel
theorem dX3_chargeOf_16 : decode cX3_chargeOf 16 = .ok (.goto 4, 3) := by decide +kernel
theorem dX3_chargeOf_19 : decode cX3_chargeOf 19 = .ok (.lconst 0, 1) := by decide +kernel
theorem dX3_chargeOf_20 : decode cX3_chargeOf 20 = .ok (.lreturn, 1) := by decide +kernel
theorem dJ9_min_7cf53_0 : decode cJ9_min_7cf53 0 = .ok (.iload_n 0, 1) := by decide +kernel
theorem dJ9_min_7cf53_1 : decode cJ9_min_7cf53 1 = .ok (.iload_n 1, 1) := by decide +kernel
theorem dJ9_min_7cf53_2 : decode cJ9_min_7cf53 2 = .ok (.if_icmp .gt 7, 3) := by decide +kernel
theorem dJ9_min_7cf53_5 : decode cJ9_min_7cf53 5 = .ok (.iload_n 0, 1) := by decide +kernel
theorem dJ9_min_7cf53_6 : decode cJ9_min_7cf53 6 = .ok (.goto 4, 3) := by decide +kernel
theorem dJ9_min_7cf53_9 : decode cJ9_min_7cf53 9 = .ok (.iload_n 1, 1) := by decide +kernel
theorem dJ9_min_7cf53_10 : decode cJ9_min_7cf53 10 = .ok (.ireturn, 1) := by decide +kernel
theorem dJ7_fill_53178_0 : decode cJ7_fill_53178 0 = .ok (.iconst 0, 1) := by decide +kernel
theorem dJ7_fill_53178_1 : decode cJ7_fill_53178 1 = .ok (.istore_n 2, 1) := by decide +kernel
theorem dJ7_fill_53178_2 : decode cJ7_fill_53178 2 = .ok (.aload_n 0, 1) := by decide +kernel
theorem dJ7_fill_53178_3 : decode cJ7_fill_53178 3 = .ok (.arraylength, 1) := by decide +kernel
theorem dJ7_fill_53178_4 : decode cJ7_fill_53178 4 = .ok (.istore_n 3, 1) := by decide +kernel
theorem dJ7_fill_53178_5 : decode cJ7_fill_53178 5 = .ok (.iload_n 2, 1) := by decide +kernel
theorem dJ7_fill_53178_6 : decode cJ7_fill_53178 6 = .ok (.iload_n 3, 1) := by decide +kernel
theorem dJ7_fill_53178_7 : decode cJ7_fill_53178 7 = .ok (.if_icmp .ge 13, 3) := by decide +kernel
theorem dJ7_fill_53178_10 : decode cJ7_fill_53178 10 = .ok (.aload_n 0, 1) := by decide +kernel
theorem dJ7_fill_53178_11 : decode cJ7_fill_53178 11 = .ok (.iload_n 2, 1) := by decide +kernel
theorem dJ7_fill_53178_12 : decode cJ7_fill_53178 12 = .ok (.iload_n 1, 1) := by decide +kernel
theorem dJ7_fill_53178_13 : decode cJ7_fill_53178 13 = .ok (.iastore, 1) := by decide +kernel
theorem dJ7_fill_53178_14 : decode cJ7_fill_53178 14 = .ok (.iinc 2 1, 3) := by decide +kernel
theorem dJ7_fill_53178_17 : decode cJ7_fill_53178 17 = .ok (.goto (-12), 3) := by decide +kernel
theorem dJ7_fill_53178_20 : decode cJ7_fill_53178 20 = .ok (.return_, 1) := by decide +kernel
