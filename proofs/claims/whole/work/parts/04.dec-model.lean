theorem d_Md_init_0 : decode c_Md_init 0 = .ok (.aload_n 0, 1) := by decide +kernel
theorem d_Md_init_1 : decode c_Md_init 1 = .ok (.invokespecial 1, 3) := by decide +kernel
theorem d_Md_init_4 : decode c_Md_init 4 = .ok (.aload_n 0, 1) := by decide +kernel
theorem d_Md_init_5 : decode c_Md_init 5 = .ok (.iconst 4, 1) := by decide +kernel
theorem d_Md_init_6 : decode c_Md_init 6 = .ok (.newarray .int, 2) := by decide +kernel
theorem d_Md_init_8 : decode c_Md_init 8 = .ok (.putfield 7, 3) := by decide +kernel
theorem d_Md_init_11 : decode c_Md_init 11 = .ok (.aload_n 0, 1) := by decide +kernel
theorem d_Md_init_12 : decode c_Md_init 12 = .ok (.iconst 4, 1) := by decide +kernel
theorem d_Md_init_13 : decode c_Md_init 13 = .ok (.newarray .boolean, 2) := by decide +kernel
theorem d_Md_init_15 : decode c_Md_init 15 = .ok (.putfield 13, 3) := by decide +kernel
theorem d_Md_init_18 : decode c_Md_init 18 = .ok (.aload_n 0, 1) := by decide +kernel
theorem d_Md_init_19 : decode c_Md_init 19 = .ok (.bipush 8, 2) := by decide +kernel
theorem d_Md_init_21 : decode c_Md_init 21 = .ok (.newarray .int, 2) := by decide +kernel
theorem d_Md_init_23 : decode c_Md_init 23 = .ok (.putfield 17, 3) := by decide +kernel
theorem d_Md_init_26 : decode c_Md_init 26 = .ok (.aload_n 0, 1) := by decide +kernel
theorem d_Md_init_27 : decode c_Md_init 27 = .ok (.sipush 256, 3) := by decide +kernel
theorem d_Md_init_30 : decode c_Md_init 30 = .ok (.newarray .int, 2) := by decide +kernel
theorem d_Md_init_32 : decode c_Md_init 32 = .ok (.putfield 20, 3) := by decide +kernel
theorem d_Md_init_35 : decode c_Md_init 35 = .ok (.aload_n 0, 1) := by decide +kernel
theorem d_Md_init_36 : decode c_Md_init 36 = .ok (.sipush 256, 3) := by decide +kernel
theorem d_Md_init_39 : decode c_Md_init 39 = .ok (.newarray .int, 2) := by decide +kernel
theorem d_Md_init_41 : decode c_Md_init 41 = .ok (.putfield 23, 3) := by decide +kernel
theorem d_Md_init_44 : decode c_Md_init 44 = .ok (.aload_n 0, 1) := by decide +kernel
theorem d_Md_init_45 : decode c_Md_init 45 = .ok (.sipush 256, 3) := by decide +kernel
theorem d_Md_init_48 : decode c_Md_init 48 = .ok (.newarray .int, 2) := by decide +kernel
theorem d_Md_init_50 : decode c_Md_init 50 = .ok (.putfield 26, 3) := by decide +kernel
theorem d_Md_init_53 : decode c_Md_init 53 = .ok (.aload_n 0, 1) := by decide +kernel
theorem d_Md_init_54 : decode c_Md_init 54 = .ok (.sipush 256, 3) := by decide +kernel
theorem d_Md_init_57 : decode c_Md_init 57 = .ok (.newarray .int, 2) := by decide +kernel
theorem d_Md_init_59 : decode c_Md_init 59 = .ok (.putfield 29, 3) := by decide +kernel
theorem d_Md_init_62 : decode c_Md_init 62 = .ok (.aload_n 0, 1) := by decide +kernel
theorem d_Md_init_63 : decode c_Md_init 63 = .ok (.bipush 32, 2) := by decide +kernel
theorem d_Md_init_65 : decode c_Md_init 65 = .ok (.newarray .int, 2) := by decide +kernel
theorem d_Md_init_67 : decode c_Md_init 67 = .ok (.putfield 32, 3) := by decide +kernel
theorem d_Md_init_70 : decode c_Md_init 70 = .ok (.aload_n 0, 1) := by decide +kernel
theorem d_Md_init_71 : decode c_Md_init 71 = .ok (.bipush 32, 2) := by decide +kernel
theorem d_Md_init_73 : decode c_Md_init 73 = .ok (.newarray .int, 2) := by decide +kernel
theorem d_Md_init_75 : decode c_Md_init 75 = .ok (.putfield 35, 3) := by decide +kernel
theorem d_Md_init_78 : decode c_Md_init 78 = .ok (.aload_n 0, 1) := by decide +kernel
theorem d_Md_init_79 : decode c_Md_init 79 = .ok (.bipush 16, 2) := by decide +kernel
theorem d_Md_init_81 : decode c_Md_init 81 = .ok (.newarray .int, 2) := by decide +kernel
theorem d_Md_init_83 : decode c_Md_init 83 = .ok (.putfield 38, 3) := by decide +kernel
theorem d_Md_init_86 : decode c_Md_init 86 = .ok (.aload_n 0, 1) := by decide +kernel
theorem d_Md_init_87 : decode c_Md_init 87 = .ok (.bipush 32, 2) := by decide +kernel
theorem d_Md_init_89 : decode c_Md_init 89 = .ok (.newarray .long, 2) := by decide +kernel
theorem d_Md_init_91 : decode c_Md_init 91 = .ok (.putfield 41, 3) := by decide +kernel
theorem d_Md_init_94 : decode c_Md_init 94 = .ok (.aload_n 0, 1) := by decide +kernel
theorem d_Md_init_95 : decode c_Md_init 95 = .ok (.bipush 32, 2) := by decide +kernel
theorem d_Md_init_97 : decode c_Md_init 97 = .ok (.newarray .boolean, 2) := by decide +kernel
theorem d_Md_init_99 : decode c_Md_init 99 = .ok (.putfield 45, 3) := by decide +kernel
theorem d_Md_init_102 : decode c_Md_init 102 = .ok (.aload_n 0, 1) := by decide +kernel
theorem d_Md_init_103 : decode c_Md_init 103 = .ok (.bipush 32, 2) := by decide +kernel
theorem d_Md_init_105 : decode c_Md_init 105 = .ok (.newarray .long, 2) := by decide +kernel
theorem d_Md_init_107 : decode c_Md_init 107 = .ok (.putfield 48, 3) := by decide +kernel
theorem d_Md_init_110 : decode c_Md_init 110 = .ok (.aload_n 0, 1) := by decide +kernel
theorem d_Md_init_111 : decode c_Md_init 111 = .ok (.bipush 32, 2) := by decide +kernel
theorem d_Md_init_113 : decode c_Md_init 113 = .ok (.newarray .boolean, 2) := by decide +kernel
theorem d_Md_init_115 : decode c_Md_init 115 = .ok (.putfield 51, 3) := by decide +kernel
theorem d_Md_init_118 : decode c_Md_init 118 = .ok (.return_, 1) := by decide +kernel
theorem d_Md_thrown_0 : decode c_Md_thrown 0 = .ok (.aload_n 0, 1) := by decide +kernel
theorem d_Md_thrown_1 : decode c_Md_thrown 1 = .ok (.getfield 54, 3) := by decide +kernel
theorem d_Md_thrown_4 : decode c_Md_thrown 4 = .ok (.ireturn, 1) := by decide +kernel
theorem d_Md_open_0 : decode c_Md_open 0 = .ok (.aload_n 0, 1) := by decide +kernel
theorem d_Md_open_1 : decode c_Md_open 1 = .ok (.iload_n 1, 1) := by decide +kernel
theorem d_Md_open_2 : decode c_Md_open 2 = .ok (.invokestatic 59, 3) := by decide +kernel
theorem d_Md_open_5 : decode c_Md_open 5 = .ok (.ifCond .eq 12, 3) := by decide +kernel
theorem d_Md_open_8 : decode c_Md_open 8 = .ok (.iload_n 2, 1) := by decide +kernel
theorem d_Md_open_9 : decode c_Md_open 9 = .ok (.ifCond .lt 8, 3) := by decide +kernel
theorem d_Md_open_12 : decode c_Md_open 12 = .ok (.iload_n 2, 1) := by decide +kernel
theorem d_Md_open_13 : decode c_Md_open 13 = .ok (.iconst 5, 1) := by decide +kernel
theorem d_Md_open_14 : decode c_Md_open 14 = .ok (.if_icmp .le 7, 3) := by decide +kernel
theorem d_Md_open_17 : decode c_Md_open 17 = .ok (.iconst 1, 1) := by decide +kernel
theorem d_Md_open_18 : decode c_Md_open 18 = .ok (.goto 17, 3) := by decide +kernel
theorem d_Md_open_21 : decode c_Md_open 21 = .ok (.aload_n 0, 1) := by decide +kernel
theorem d_Md_open_22 : decode c_Md_open 22 = .ok (.getfield 7, 3) := by decide +kernel
theorem d_Md_open_25 : decode c_Md_open 25 = .ok (.iload_n 1, 1) := by decide +kernel
theorem d_Md_open_26 : decode c_Md_open 26 = .ok (.iaload, 1) := by decide +kernel
theorem d_Md_open_27 : decode c_Md_open 27 = .ok (.ifCond .le 7, 3) := by decide +kernel
theorem d_Md_open_30 : decode c_Md_open 30 = .ok (.iconst 2, 1) := by decide +kernel
theorem d_Md_open_31 : decode c_Md_open 31 = .ok (.goto 4, 3) := by decide +kernel
theorem d_Md_open_34 : decode c_Md_open 34 = .ok (.iconst 0, 1) := by decide +kernel
theorem d_Md_open_35 : decode c_Md_open 35 = .ok (.putfield 54, 3) := by decide +kernel
theorem d_Md_open_38 : decode c_Md_open 38 = .ok (.aload_n 0, 1) := by decide +kernel
theorem d_Md_open_39 : decode c_Md_open 39 = .ok (.getfield 54, 3) := by decide +kernel
theorem d_Md_open_42 : decode c_Md_open 42 = .ok (.ifCond .ne 35, 3) := by decide +kernel
theorem d_Md_open_45 : decode c_Md_open 45 = .ok (.aload_n 0, 1) := by decide +kernel
theorem d_Md_open_46 : decode c_Md_open 46 = .ok (.getfield 7, 3) := by decide +kernel
theorem d_Md_open_49 : decode c_Md_open 49 = .ok (.iload_n 1, 1) := by decide +kernel
theorem d_Md_open_50 : decode c_Md_open 50 = .ok (.iload_n 2, 1) := by decide +kernel
theorem d_Md_open_51 : decode c_Md_open 51 = .ok (.iconst 1, 1) := by decide +kernel
theorem d_Md_open_52 : decode c_Md_open 52 = .ok (.iadd, 1) := by decide +kernel
theorem d_Md_open_53 : decode c_Md_open 53 = .ok (.iastore, 1) := by decide +kernel
theorem d_Md_open_54 : decode c_Md_open 54 = .ok (.aload_n 0, 1) := by decide +kernel
theorem d_Md_open_55 : decode c_Md_open 55 = .ok (.getfield 13, 3) := by decide +kernel
theorem d_Md_open_58 : decode c_Md_open 58 = .ok (.iload_n 1, 1) := by decide +kernel
theorem d_Md_open_59 : decode c_Md_open 59 = .ok (.iconst 0, 1) := by decide +kernel
theorem d_Md_open_60 : decode c_Md_open 60 = .ok (.bastore, 1) := by decide +kernel
theorem d_Md_open_61 : decode c_Md_open 61 = .ok (.aload_n 0, 1) := by decide +kernel
theorem d_Md_open_62 : decode c_Md_open 62 = .ok (.getfield 17, 3) := by decide +kernel
theorem d_Md_open_65 : decode c_Md_open 65 = .ok (.iload_n 1, 1) := by decide +kernel
theorem d_Md_open_66 : decode c_Md_open 66 = .ok (.iconst 0, 1) := by decide +kernel
theorem d_Md_open_67 : decode c_Md_open 67 = .ok (.iastore, 1) := by decide +kernel
theorem d_Md_open_68 : decode c_Md_open 68 = .ok (.aload_n 0, 1) := by decide +kernel
theorem d_Md_open_69 : decode c_Md_open 69 = .ok (.getfield 17, 3) := by decide +kernel
theorem d_Md_open_72 : decode c_Md_open 72 = .ok (.iload_n 1, 1) := by decide +kernel
theorem d_Md_open_73 : decode c_Md_open 73 = .ok (.iconst 4, 1) := by decide +kernel
theorem d_Md_open_74 : decode c_Md_open 74 = .ok (.iadd, 1) := by decide +kernel
theorem d_Md_open_75 : decode c_Md_open 75 = .ok (.iconst 0, 1) := by decide +kernel
theorem d_Md_open_76 : decode c_Md_open 76 = .ok (.iastore, 1) := by decide +kernel
theorem d_Md_open_77 : decode c_Md_open 77 = .ok (.return_, 1) := by decide +kernel
theorem d_Md_isId_0 : decode c_Md_isId 0 = .ok (.iload_n 0, 1) := by decide +kernel
theorem d_Md_isId_1 : decode c_Md_isId 1 = .ok (.ifCond .lt 12, 3) := by decide +kernel
theorem d_Md_isId_4 : decode c_Md_isId 4 = .ok (.iload_n 0, 1) := by decide +kernel
theorem d_Md_isId_5 : decode c_Md_isId 5 = .ok (.iconst 4, 1) := by decide +kernel
theorem d_Md_isId_6 : decode c_Md_isId 6 = .ok (.if_icmp .ge 7, 3) := by decide +kernel
theorem d_Md_isId_9 : decode c_Md_isId 9 = .ok (.iconst 1, 1) := by decide +kernel
theorem d_Md_isId_10 : decode c_Md_isId 10 = .ok (.goto 4, 3) := by decide +kernel
theorem d_Md_isId_13 : decode c_Md_isId 13 = .ok (.iconst 0, 1) := by decide +kernel
theorem d_Md_isId_14 : decode c_Md_isId 14 = .ok (.ireturn, 1) := by decide +kernel
theorem d_Md_close_0 : decode c_Md_close 0 = .ok (.aload_n 0, 1) := by decide +kernel
theorem d_Md_close_1 : decode c_Md_close 1 = .ok (.iload_n 1, 1) := by decide +kernel
theorem d_Md_close_2 : decode c_Md_close 2 = .ok (.iconst 1, 1) := by decide +kernel
theorem d_Md_close_3 : decode c_Md_close 3 = .ok (.invokevirtual 66, 3) := by decide +kernel
theorem d_Md_close_6 : decode c_Md_close 6 = .ok (.ifCond .eq 5, 3) := by decide +kernel
theorem d_Md_close_9 : decode c_Md_close 9 = .ok (.iconst 0, 1) := by decide +kernel
theorem d_Md_close_10 : decode c_Md_close 10 = .ok (.ireturn, 1) := by decide +kernel
theorem d_Md_close_11 : decode c_Md_close 11 = .ok (.aload_n 0, 1) := by decide +kernel
theorem d_Md_close_12 : decode c_Md_close 12 = .ok (.getfield 7, 3) := by decide +kernel
theorem d_Md_close_15 : decode c_Md_close 15 = .ok (.iload_n 1, 1) := by decide +kernel
theorem d_Md_close_16 : decode c_Md_close 16 = .ok (.iconst 0, 1) := by decide +kernel
theorem d_Md_close_17 : decode c_Md_close 17 = .ok (.iastore, 1) := by decide +kernel
theorem d_Md_close_18 : decode c_Md_close 18 = .ok (.aload_n 0, 1) := by decide +kernel
theorem d_Md_close_19 : decode c_Md_close 19 = .ok (.getfield 17, 3) := by decide +kernel
theorem d_Md_close_22 : decode c_Md_close 22 = .ok (.iload_n 1, 1) := by decide +kernel
theorem d_Md_close_23 : decode c_Md_close 23 = .ok (.iaload, 1) := by decide +kernel
theorem d_Md_close_24 : decode c_Md_close 24 = .ok (.ireturn, 1) := by decide +kernel
theorem d_Md_lacks_0 : decode c_Md_lacks 0 = .ok (.aload_n 0, 1) := by decide +kernel
theorem d_Md_lacks_1 : decode c_Md_lacks 1 = .ok (.iload_n 1, 1) := by decide +kernel
theorem d_Md_lacks_2 : decode c_Md_lacks 2 = .ok (.invokestatic 59, 3) := by decide +kernel
theorem d_Md_lacks_5 : decode c_Md_lacks 5 = .ok (.ifCond .eq 10, 3) := by decide +kernel
theorem d_Md_lacks_8 : decode c_Md_lacks 8 = .ok (.iload_n 2, 1) := by decide +kernel
theorem d_Md_lacks_9 : decode c_Md_lacks 9 = .ok (.invokestatic 63, 3) := by decide +kernel
theorem d_Md_lacks_12 : decode c_Md_lacks 12 = .ok (.ifCond .ne 7, 3) := by decide +kernel
theorem d_Md_lacks_15 : decode c_Md_lacks 15 = .ok (.iconst 1, 1) := by decide +kernel
theorem d_Md_lacks_16 : decode c_Md_lacks 16 = .ok (.goto 17, 3) := by decide +kernel
theorem d_Md_lacks_19 : decode c_Md_lacks 19 = .ok (.aload_n 0, 1) := by decide +kernel
theorem d_Md_lacks_20 : decode c_Md_lacks 20 = .ok (.getfield 7, 3) := by decide +kernel
theorem d_Md_lacks_23 : decode c_Md_lacks 23 = .ok (.iload_n 1, 1) := by decide +kernel
theorem d_Md_lacks_24 : decode c_Md_lacks 24 = .ok (.iaload, 1) := by decide +kernel
theorem d_Md_lacks_25 : decode c_Md_lacks 25 = .ok (.ifCond .ne 7, 3) := by decide +kernel
theorem d_Md_lacks_28 : decode c_Md_lacks 28 = .ok (.iconst 2, 1) := by decide +kernel
theorem d_Md_lacks_29 : decode c_Md_lacks 29 = .ok (.goto 4, 3) := by decide +kernel
theorem d_Md_lacks_32 : decode c_Md_lacks 32 = .ok (.iconst 0, 1) := by decide +kernel
theorem d_Md_lacks_33 : decode c_Md_lacks 33 = .ok (.putfield 54, 3) := by decide +kernel
theorem d_Md_lacks_36 : decode c_Md_lacks 36 = .ok (.aload_n 0, 1) := by decide +kernel
theorem d_Md_lacks_37 : decode c_Md_lacks 37 = .ok (.getfield 54, 3) := by decide +kernel
theorem d_Md_lacks_40 : decode c_Md_lacks 40 = .ok (.ifCond .le 7, 3) := by decide +kernel
theorem d_Md_lacks_43 : decode c_Md_lacks 43 = .ok (.iconst 1, 1) := by decide +kernel
theorem d_Md_lacks_44 : decode c_Md_lacks 44 = .ok (.goto 4, 3) := by decide +kernel
theorem d_Md_lacks_47 : decode c_Md_lacks 47 = .ok (.iconst 0, 1) := by decide +kernel
theorem d_Md_lacks_48 : decode c_Md_lacks 48 = .ok (.ireturn, 1) := by decide +kernel
theorem d_Md_isMoment_0 : decode c_Md_isMoment 0 = .ok (.iload_n 0, 1) := by decide +kernel
theorem d_Md_isMoment_1 : decode c_Md_isMoment 1 = .ok (.iconst 1, 1) := by decide +kernel
theorem d_Md_isMoment_2 : decode c_Md_isMoment 2 = .ok (.if_icmp .lt 13, 3) := by decide +kernel
theorem d_Md_isMoment_5 : decode c_Md_isMoment 5 = .ok (.iload_n 0, 1) := by decide +kernel
theorem d_Md_isMoment_6 : decode c_Md_isMoment 6 = .ok (.ldc 58, 2) := by decide +kernel
theorem d_Md_isMoment_8 : decode c_Md_isMoment 8 = .ok (.if_icmp .gt 7, 3) := by decide +kernel
theorem d_Md_isMoment_11 : decode c_Md_isMoment 11 = .ok (.iconst 1, 1) := by decide +kernel
theorem d_Md_isMoment_12 : decode c_Md_isMoment 12 = .ok (.goto 4, 3) := by decide +kernel
theorem d_Md_isMoment_15 : decode c_Md_isMoment 15 = .ok (.iconst 0, 1) := by decide +kernel
theorem d_Md_isMoment_16 : decode c_Md_isMoment 16 = .ok (.ireturn, 1) := by decide +kernel
theorem d_Md_put_0 : decode c_Md_put 0 = .ok (.aload_n 0, 1) := by decide +kernel
theorem d_Md_put_1 : decode c_Md_put 1 = .ok (.iload_n 1, 1) := by decide +kernel
theorem d_Md_put_2 : decode c_Md_put 2 = .ok (.iload_n 2, 1) := by decide +kernel
theorem d_Md_put_3 : decode c_Md_put 3 = .ok (.invokevirtual 66, 3) := by decide +kernel
theorem d_Md_put_6 : decode c_Md_put 6 = .ok (.ifCond .eq 4, 3) := by decide +kernel
theorem d_Md_put_9 : decode c_Md_put 9 = .ok (.return_, 1) := by decide +kernel
theorem d_Md_put_10 : decode c_Md_put 10 = .ok (.aload_n 0, 1) := by decide +kernel
theorem d_Md_put_11 : decode c_Md_put 11 = .ok (.aload_n 0, 1) := by decide +kernel
theorem d_Md_put_12 : decode c_Md_put 12 = .ok (.iload_n 1, 1) := by decide +kernel
theorem d_Md_put_13 : decode c_Md_put 13 = .ok (.iload_n 2, 1) := by decide +kernel
theorem d_Md_put_14 : decode c_Md_put 14 = .ok (.invokevirtual 78, 3) := by decide +kernel
theorem d_Md_put_17 : decode c_Md_put 17 = .ok (.ifCond .ge 14, 3) := by decide +kernel
theorem d_Md_put_20 : decode c_Md_put 20 = .ok (.aload_n 0, 1) := by decide +kernel
theorem d_Md_put_21 : decode c_Md_put 21 = .ok (.getfield 17, 3) := by decide +kernel
theorem d_Md_put_24 : decode c_Md_put 24 = .ok (.iload_n 1, 1) := by decide +kernel
theorem d_Md_put_25 : decode c_Md_put 25 = .ok (.iaload, 1) := by decide +kernel
theorem d_Md_put_26 : decode c_Md_put 26 = .ok (.bipush 32, 2) := by decide +kernel
theorem d_Md_put_28 : decode c_Md_put 28 = .ok (.if_icmp .ne 7, 3) := by decide +kernel
theorem d_Md_put_31 : decode c_Md_put 31 = .ok (.iconst 2, 1) := by decide +kernel
theorem d_Md_put_32 : decode c_Md_put 32 = .ok (.goto 24, 3) := by decide +kernel
theorem d_Md_put_35 : decode c_Md_put 35 = .ok (.aload_n 0, 1) := by decide +kernel
theorem d_Md_put_36 : decode c_Md_put 36 = .ok (.iload_n 1, 1) := by decide +kernel
theorem d_Md_put_37 : decode c_Md_put 37 = .ok (.invokevirtual 82, 3) := by decide +kernel
theorem d_Md_put_40 : decode c_Md_put 40 = .ok (.iload_n 3, 1) := by decide +kernel
theorem d_Md_put_41 : decode c_Md_put 41 = .ok (.iload 4, 2) := by decide +kernel
theorem d_Md_put_43 : decode c_Md_put 43 = .ok (.iload 5, 2) := by decide +kernel
theorem d_Md_put_45 : decode c_Md_put 45 = .ok (.invokestatic 86, 3) := by decide +kernel
theorem d_Md_put_48 : decode c_Md_put 48 = .ok (.ifCond .ne 7, 3) := by decide +kernel
theorem d_Md_put_51 : decode c_Md_put 51 = .ok (.iconst 3, 1) := by decide +kernel
theorem d_Md_put_52 : decode c_Md_put 52 = .ok (.goto 4, 3) := by decide +kernel
theorem d_Md_put_55 : decode c_Md_put 55 = .ok (.iconst 0, 1) := by decide +kernel
theorem d_Md_put_56 : decode c_Md_put 56 = .ok (.putfield 54, 3) := by decide +kernel
theorem d_Md_put_59 : decode c_Md_put 59 = .ok (.aload_n 0, 1) := by decide +kernel
theorem d_Md_put_60 : decode c_Md_put 60 = .ok (.getfield 54, 3) := by decide +kernel
theorem d_Md_put_63 : decode c_Md_put 63 = .ok (.ifCond .ne 19, 3) := by decide +kernel
theorem d_Md_put_66 : decode c_Md_put 66 = .ok (.aload_n 0, 1) := by decide +kernel
theorem d_Md_put_67 : decode c_Md_put 67 = .ok (.iload_n 1, 1) := by decide +kernel
theorem d_Md_put_68 : decode c_Md_put 68 = .ok (.invokevirtual 90, 3) := by decide +kernel
theorem d_Md_put_71 : decode c_Md_put 71 = .ok (.aload_n 0, 1) := by decide +kernel
theorem d_Md_put_72 : decode c_Md_put 72 = .ok (.iload_n 1, 1) := by decide +kernel
theorem d_Md_put_73 : decode c_Md_put 73 = .ok (.iload_n 2, 1) := by decide +kernel
theorem d_Md_put_74 : decode c_Md_put 74 = .ok (.iload_n 3, 1) := by decide +kernel
theorem d_Md_put_75 : decode c_Md_put 75 = .ok (.iload 4, 2) := by decide +kernel
theorem d_Md_put_77 : decode c_Md_put 77 = .ok (.iload 5, 2) := by decide +kernel
theorem d_Md_put_79 : decode c_Md_put 79 = .ok (.invokevirtual 94, 3) := by decide +kernel
theorem d_Md_put_82 : decode c_Md_put 82 = .ok (.return_, 1) := by decide +kernel
theorem d_Md_find_0 : decode c_Md_find 0 = .ok (.iconst (-1), 1) := by decide +kernel
theorem d_Md_find_1 : decode c_Md_find 1 = .ok (.istore_n 3, 1) := by decide +kernel
theorem d_Md_find_2 : decode c_Md_find 2 = .ok (.iconst 0, 1) := by decide +kernel
theorem d_Md_find_3 : decode c_Md_find 3 = .ok (.istore 4, 2) := by decide +kernel
theorem d_Md_find_5 : decode c_Md_find 5 = .ok (.iload 4, 2) := by decide +kernel
theorem d_Md_find_7 : decode c_Md_find 7 = .ok (.aload_n 0, 1) := by decide +kernel
theorem d_Md_find_8 : decode c_Md_find 8 = .ok (.getfield 17, 3) := by decide +kernel
theorem d_Md_find_11 : decode c_Md_find 11 = .ok (.iload_n 1, 1) := by decide +kernel
theorem d_Md_find_12 : decode c_Md_find 12 = .ok (.iaload, 1) := by decide +kernel
theorem d_Md_find_13 : decode c_Md_find 13 = .ok (.if_icmp .ge 32, 3) := by decide +kernel
theorem d_Md_find_16 : decode c_Md_find 16 = .ok (.aload_n 0, 1) := by decide +kernel
theorem d_Md_find_17 : decode c_Md_find 17 = .ok (.getfield 20, 3) := by decide +kernel
theorem d_Md_find_20 : decode c_Md_find 20 = .ok (.bipush 32, 2) := by decide +kernel
theorem d_Md_find_22 : decode c_Md_find 22 = .ok (.iload_n 1, 1) := by decide +kernel
theorem d_Md_find_23 : decode c_Md_find 23 = .ok (.imul, 1) := by decide +kernel
theorem d_Md_find_24 : decode c_Md_find 24 = .ok (.iload 4, 2) := by decide +kernel
theorem d_Md_find_26 : decode c_Md_find 26 = .ok (.iadd, 1) := by decide +kernel
theorem d_Md_find_27 : decode c_Md_find 27 = .ok (.iaload, 1) := by decide +kernel
theorem d_Md_find_28 : decode c_Md_find 28 = .ok (.iload_n 2, 1) := by decide +kernel
theorem d_Md_find_29 : decode c_Md_find 29 = .ok (.if_icmp .ne 8, 3) := by decide +kernel
theorem d_Md_find_32 : decode c_Md_find 32 = .ok (.iload 4, 2) := by decide +kernel
theorem d_Md_find_34 : decode c_Md_find 34 = .ok (.goto 4, 3) := by decide +kernel
theorem d_Md_find_37 : decode c_Md_find 37 = .ok (.iload_n 3, 1) := by decide +kernel
theorem d_Md_find_38 : decode c_Md_find 38 = .ok (.istore_n 3, 1) := by decide +kernel
theorem d_Md_find_39 : decode c_Md_find 39 = .ok (.iinc 4 1, 3) := by decide +kernel
theorem d_Md_find_42 : decode c_Md_find 42 = .ok (.goto (-37), 3) := by decide +kernel
theorem d_Md_find_45 : decode c_Md_find 45 = .ok (.iload_n 3, 1) := by decide +kernel
theorem d_Md_find_46 : decode c_Md_find 46 = .ok (.ireturn, 1) := by decide +kernel
theorem d_Md_kindOf_0 : decode c_Md_kindOf 0 = .ok (.aload_n 0, 1) := by decide +kernel
theorem d_Md_kindOf_1 : decode c_Md_kindOf 1 = .ok (.getfield 7, 3) := by decide +kernel
theorem d_Md_kindOf_4 : decode c_Md_kindOf 4 = .ok (.iload_n 1, 1) := by decide +kernel
theorem d_Md_kindOf_5 : decode c_Md_kindOf 5 = .ok (.iaload, 1) := by decide +kernel
theorem d_Md_kindOf_6 : decode c_Md_kindOf 6 = .ok (.iconst 1, 1) := by decide +kernel
theorem d_Md_kindOf_7 : decode c_Md_kindOf 7 = .ok (.isub, 1) := by decide +kernel
theorem d_Md_kindOf_8 : decode c_Md_kindOf 8 = .ok (.ireturn, 1) := by decide +kernel
theorem d_Md_fits_0 : decode c_Md_fits 0 = .ok (.iload_n 0, 1) := by decide +kernel
theorem d_Md_fits_1 : decode c_Md_fits 1 = .ok (.iconst 5, 1) := by decide +kernel
theorem d_Md_fits_2 : decode c_Md_fits 2 = .ok (.if_icmp .ne 34, 3) := by decide +kernel
theorem d_Md_fits_5 : decode c_Md_fits 5 = .ok (.iload_n 1, 1) := by decide +kernel
theorem d_Md_fits_6 : decode c_Md_fits 6 = .ok (.iconst 1, 1) := by decide +kernel
theorem d_Md_fits_7 : decode c_Md_fits 7 = .ok (.if_icmp .ne 27, 3) := by decide +kernel
theorem d_Md_fits_10 : decode c_Md_fits 10 = .ok (.iload_n 2, 1) := by decide +kernel
theorem d_Md_fits_11 : decode c_Md_fits 11 = .ok (.ifCond .lt 23, 3) := by decide +kernel
theorem d_Md_fits_14 : decode c_Md_fits 14 = .ok (.iload_n 2, 1) := by decide +kernel
theorem d_Md_fits_15 : decode c_Md_fits 15 = .ok (.bipush 16, 2) := by decide +kernel
theorem d_Md_fits_17 : decode c_Md_fits 17 = .ok (.if_icmp .ge 17, 3) := by decide +kernel
theorem d_Md_fits_20 : decode c_Md_fits 20 = .ok (.iload_n 3, 1) := by decide +kernel
theorem d_Md_fits_21 : decode c_Md_fits 21 = .ok (.ifCond .lt 13, 3) := by decide +kernel
theorem d_Md_fits_24 : decode c_Md_fits 24 = .ok (.iload_n 3, 1) := by decide +kernel
theorem d_Md_fits_25 : decode c_Md_fits 25 = .ok (.bipush 16, 2) := by decide +kernel
theorem d_Md_fits_27 : decode c_Md_fits 27 = .ok (.if_icmp .ge 7, 3) := by decide +kernel
theorem d_Md_fits_30 : decode c_Md_fits 30 = .ok (.iconst 1, 1) := by decide +kernel
theorem d_Md_fits_31 : decode c_Md_fits 31 = .ok (.goto 4, 3) := by decide +kernel
theorem d_Md_fits_34 : decode c_Md_fits 34 = .ok (.iconst 0, 1) := by decide +kernel
theorem d_Md_fits_35 : decode c_Md_fits 35 = .ok (.ireturn, 1) := by decide +kernel
theorem d_Md_fits_36 : decode c_Md_fits 36 = .ok (.iload_n 0, 1) := by decide +kernel
theorem d_Md_fits_37 : decode c_Md_fits 37 = .ok (.iconst 4, 1) := by decide +kernel
theorem d_Md_fits_38 : decode c_Md_fits 38 = .ok (.if_icmp .ne 30, 3) := by decide +kernel
theorem d_Md_fits_41 : decode c_Md_fits 41 = .ok (.iload_n 1, 1) := by decide +kernel
theorem d_Md_fits_42 : decode c_Md_fits 42 = .ok (.iconst 1, 1) := by decide +kernel
theorem d_Md_fits_43 : decode c_Md_fits 43 = .ok (.if_icmp .ne 23, 3) := by decide +kernel
theorem d_Md_fits_46 : decode c_Md_fits 46 = .ok (.iload_n 2, 1) := by decide +kernel
theorem d_Md_fits_47 : decode c_Md_fits 47 = .ok (.ldc 74, 2) := by decide +kernel
theorem d_Md_fits_49 : decode c_Md_fits 49 = .ok (.if_icmp .lt 17, 3) := by decide +kernel
theorem d_Md_fits_52 : decode c_Md_fits 52 = .ok (.iload_n 2, 1) := by decide +kernel
theorem d_Md_fits_53 : decode c_Md_fits 53 = .ok (.ldc 58, 2) := by decide +kernel
theorem d_Md_fits_55 : decode c_Md_fits 55 = .ok (.if_icmp .gt 11, 3) := by decide +kernel
theorem d_Md_fits_58 : decode c_Md_fits 58 = .ok (.iload_n 3, 1) := by decide +kernel
theorem d_Md_fits_59 : decode c_Md_fits 59 = .ok (.ifCond .ne 7, 3) := by decide +kernel
theorem d_Md_fits_62 : decode c_Md_fits 62 = .ok (.iconst 1, 1) := by decide +kernel
theorem d_Md_fits_63 : decode c_Md_fits 63 = .ok (.goto 4, 3) := by decide +kernel
theorem d_Md_fits_66 : decode c_Md_fits 66 = .ok (.iconst 0, 1) := by decide +kernel
theorem d_Md_fits_67 : decode c_Md_fits 67 = .ok (.ireturn, 1) := by decide +kernel
theorem d_Md_fits_68 : decode c_Md_fits 68 = .ok (.iload_n 0, 1) := by decide +kernel
theorem d_Md_fits_69 : decode c_Md_fits 69 = .ok (.iconst 2, 1) := by decide +kernel
theorem d_Md_fits_70 : decode c_Md_fits 70 = .ok (.if_icmp .ne 40, 3) := by decide +kernel
theorem d_Md_fits_73 : decode c_Md_fits 73 = .ok (.iload_n 2, 1) := by decide +kernel
theorem d_Md_fits_74 : decode c_Md_fits 74 = .ok (.invokestatic 75, 3) := by decide +kernel
theorem d_Md_fits_77 : decode c_Md_fits 77 = .ok (.ifCond .eq 31, 3) := by decide +kernel
theorem d_Md_fits_80 : decode c_Md_fits 80 = .ok (.iload_n 1, 1) := by decide +kernel
theorem d_Md_fits_81 : decode c_Md_fits 81 = .ok (.iconst 1, 1) := by decide +kernel
theorem d_Md_fits_82 : decode c_Md_fits 82 = .ok (.if_icmp .ne 13, 3) := by decide +kernel
theorem d_Md_fits_85 : decode c_Md_fits 85 = .ok (.iload_n 3, 1) := by decide +kernel
theorem d_Md_fits_86 : decode c_Md_fits 86 = .ok (.invokestatic 75, 3) := by decide +kernel
theorem d_Md_fits_89 : decode c_Md_fits 89 = .ok (.ifCond .eq 19, 3) := by decide +kernel
theorem d_Md_fits_92 : decode c_Md_fits 92 = .ok (.goto 12, 3) := by decide +kernel
theorem d_Md_fits_95 : decode c_Md_fits 95 = .ok (.iload_n 1, 1) := by decide +kernel
theorem d_Md_fits_96 : decode c_Md_fits 96 = .ok (.iconst 2, 1) := by decide +kernel
theorem d_Md_fits_97 : decode c_Md_fits 97 = .ok (.if_icmp .ne 11, 3) := by decide +kernel
theorem d_Md_fits_100 : decode c_Md_fits 100 = .ok (.iload_n 3, 1) := by decide +kernel
theorem d_Md_fits_101 : decode c_Md_fits 101 = .ok (.ifCond .ne 7, 3) := by decide +kernel
theorem d_Md_fits_104 : decode c_Md_fits 104 = .ok (.iconst 1, 1) := by decide +kernel
theorem d_Md_fits_105 : decode c_Md_fits 105 = .ok (.goto 4, 3) := by decide +kernel
theorem d_Md_fits_108 : decode c_Md_fits 108 = .ok (.iconst 0, 1) := by decide +kernel
theorem d_Md_fits_109 : decode c_Md_fits 109 = .ok (.ireturn, 1) := by decide +kernel
theorem d_Md_fits_110 : decode c_Md_fits 110 = .ok (.iload_n 3, 1) := by decide +kernel
theorem d_Md_fits_111 : decode c_Md_fits 111 = .ok (.ifCond .ne 31, 3) := by decide +kernel
theorem d_Md_fits_114 : decode c_Md_fits 114 = .ok (.iload_n 1, 1) := by decide +kernel
theorem d_Md_fits_115 : decode c_Md_fits 115 = .ok (.iconst 1, 1) := by decide +kernel
theorem d_Md_fits_116 : decode c_Md_fits 116 = .ok (.if_icmp .ne 13, 3) := by decide +kernel
theorem d_Md_fits_119 : decode c_Md_fits 119 = .ok (.iload_n 2, 1) := by decide +kernel
theorem d_Md_fits_120 : decode c_Md_fits 120 = .ok (.invokestatic 75, 3) := by decide +kernel
theorem d_Md_fits_123 : decode c_Md_fits 123 = .ok (.ifCond .eq 19, 3) := by decide +kernel
theorem d_Md_fits_126 : decode c_Md_fits 126 = .ok (.goto 12, 3) := by decide +kernel
theorem d_Md_fits_129 : decode c_Md_fits 129 = .ok (.iload_n 1, 1) := by decide +kernel
theorem d_Md_fits_130 : decode c_Md_fits 130 = .ok (.iconst 2, 1) := by decide +kernel
theorem d_Md_fits_131 : decode c_Md_fits 131 = .ok (.if_icmp .ne 11, 3) := by decide +kernel
theorem d_Md_fits_134 : decode c_Md_fits 134 = .ok (.iload_n 2, 1) := by decide +kernel
theorem d_Md_fits_135 : decode c_Md_fits 135 = .ok (.ifCond .ne 7, 3) := by decide +kernel
theorem d_Md_fits_138 : decode c_Md_fits 138 = .ok (.iconst 1, 1) := by decide +kernel
theorem d_Md_fits_139 : decode c_Md_fits 139 = .ok (.goto 4, 3) := by decide +kernel
theorem d_Md_fits_142 : decode c_Md_fits 142 = .ok (.iconst 0, 1) := by decide +kernel
theorem d_Md_fits_143 : decode c_Md_fits 143 = .ok (.ireturn, 1) := by decide +kernel
theorem d_Md_isValue_0 : decode c_Md_isValue 0 = .ok (.iload_n 0, 1) := by decide +kernel
theorem d_Md_isValue_1 : decode c_Md_isValue 1 = .ok (.ifCond .lt 13, 3) := by decide +kernel
theorem d_Md_isValue_4 : decode c_Md_isValue 4 = .ok (.iload_n 0, 1) := by decide +kernel
theorem d_Md_isValue_5 : decode c_Md_isValue 5 = .ok (.ldc 58, 2) := by decide +kernel
theorem d_Md_isValue_7 : decode c_Md_isValue 7 = .ok (.if_icmp .gt 7, 3) := by decide +kernel
theorem d_Md_isValue_10 : decode c_Md_isValue 10 = .ok (.iconst 1, 1) := by decide +kernel
theorem d_Md_isValue_11 : decode c_Md_isValue 11 = .ok (.goto 4, 3) := by decide +kernel
theorem d_Md_isValue_14 : decode c_Md_isValue 14 = .ok (.iconst 0, 1) := by decide +kernel
theorem d_Md_isValue_15 : decode c_Md_isValue 15 = .ok (.ireturn, 1) := by decide +kernel
theorem d_Md_remember_0 : decode c_Md_remember 0 = .ok (.aload_n 0, 1) := by decide +kernel
theorem d_Md_remember_1 : decode c_Md_remember 1 = .ok (.getfield 13, 3) := by decide +kernel
theorem d_Md_remember_4 : decode c_Md_remember 4 = .ok (.iload_n 1, 1) := by decide +kernel
theorem d_Md_remember_5 : decode c_Md_remember 5 = .ok (.iconst 1, 1) := by decide +kernel
theorem d_Md_remember_6 : decode c_Md_remember 6 = .ok (.bastore, 1) := by decide +kernel
theorem d_Md_remember_7 : decode c_Md_remember 7 = .ok (.aload_n 0, 1) := by decide +kernel
theorem d_Md_remember_8 : decode c_Md_remember 8 = .ok (.getfield 17, 3) := by decide +kernel
theorem d_Md_remember_11 : decode c_Md_remember 11 = .ok (.iload_n 1, 1) := by decide +kernel
theorem d_Md_remember_12 : decode c_Md_remember 12 = .ok (.iconst 4, 1) := by decide +kernel
theorem d_Md_remember_13 : decode c_Md_remember 13 = .ok (.iadd, 1) := by decide +kernel
theorem d_Md_remember_14 : decode c_Md_remember 14 = .ok (.aload_n 0, 1) := by decide +kernel
theorem d_Md_remember_15 : decode c_Md_remember 15 = .ok (.getfield 17, 3) := by decide +kernel
theorem d_Md_remember_18 : decode c_Md_remember 18 = .ok (.iload_n 1, 1) := by decide +kernel
theorem d_Md_remember_19 : decode c_Md_remember 19 = .ok (.iaload, 1) := by decide +kernel
theorem d_Md_remember_20 : decode c_Md_remember 20 = .ok (.iastore, 1) := by decide +kernel
theorem d_Md_remember_21 : decode c_Md_remember 21 = .ok (.iconst 0, 1) := by decide +kernel
theorem d_Md_remember_22 : decode c_Md_remember 22 = .ok (.istore_n 2, 1) := by decide +kernel
theorem d_Md_remember_23 : decode c_Md_remember 23 = .ok (.iload_n 2, 1) := by decide +kernel
theorem d_Md_remember_24 : decode c_Md_remember 24 = .ok (.bipush 32, 2) := by decide +kernel
theorem d_Md_remember_26 : decode c_Md_remember 26 = .ok (.if_icmp .ge 27, 3) := by decide +kernel
theorem d_Md_remember_29 : decode c_Md_remember 29 = .ok (.aload_n 0, 1) := by decide +kernel
theorem d_Md_remember_30 : decode c_Md_remember 30 = .ok (.bipush 32, 2) := by decide +kernel
theorem d_Md_remember_32 : decode c_Md_remember 32 = .ok (.iload_n 1, 1) := by decide +kernel
theorem d_Md_remember_33 : decode c_Md_remember 33 = .ok (.imul, 1) := by decide +kernel
theorem d_Md_remember_34 : decode c_Md_remember 34 = .ok (.iload_n 2, 1) := by decide +kernel
theorem d_Md_remember_35 : decode c_Md_remember 35 = .ok (.iadd, 1) := by decide +kernel
theorem d_Md_remember_36 : decode c_Md_remember 36 = .ok (.bipush 32, 2) := by decide +kernel
theorem d_Md_remember_38 : decode c_Md_remember 38 = .ok (.iload_n 1, 1) := by decide +kernel
theorem d_Md_remember_39 : decode c_Md_remember 39 = .ok (.iconst 4, 1) := by decide +kernel
theorem d_Md_remember_40 : decode c_Md_remember 40 = .ok (.iadd, 1) := by decide +kernel
theorem d_Md_remember_41 : decode c_Md_remember 41 = .ok (.imul, 1) := by decide +kernel
theorem d_Md_remember_42 : decode c_Md_remember 42 = .ok (.iload_n 2, 1) := by decide +kernel
theorem d_Md_remember_43 : decode c_Md_remember 43 = .ok (.iadd, 1) := by decide +kernel
theorem d_Md_remember_44 : decode c_Md_remember 44 = .ok (.invokevirtual 70, 3) := by decide +kernel
theorem d_Md_remember_47 : decode c_Md_remember 47 = .ok (.iinc 2 1, 3) := by decide +kernel
theorem d_Md_remember_50 : decode c_Md_remember 50 = .ok (.goto (-27), 3) := by decide +kernel
theorem d_Md_remember_53 : decode c_Md_remember 53 = .ok (.return_, 1) := by decide +kernel
theorem d_Md_copy_0 : decode c_Md_copy 0 = .ok (.aload_n 0, 1) := by decide +kernel
theorem d_Md_copy_1 : decode c_Md_copy 1 = .ok (.getfield 20, 3) := by decide +kernel
theorem d_Md_copy_4 : decode c_Md_copy 4 = .ok (.iload_n 2, 1) := by decide +kernel
theorem d_Md_copy_5 : decode c_Md_copy 5 = .ok (.aload_n 0, 1) := by decide +kernel
theorem d_Md_copy_6 : decode c_Md_copy 6 = .ok (.getfield 20, 3) := by decide +kernel
theorem d_Md_copy_9 : decode c_Md_copy 9 = .ok (.iload_n 1, 1) := by decide +kernel
theorem d_Md_copy_10 : decode c_Md_copy 10 = .ok (.iaload, 1) := by decide +kernel
theorem d_Md_copy_11 : decode c_Md_copy 11 = .ok (.iastore, 1) := by decide +kernel
theorem d_Md_copy_12 : decode c_Md_copy 12 = .ok (.aload_n 0, 1) := by decide +kernel
theorem d_Md_copy_13 : decode c_Md_copy 13 = .ok (.getfield 23, 3) := by decide +kernel
theorem d_Md_copy_16 : decode c_Md_copy 16 = .ok (.iload_n 2, 1) := by decide +kernel
theorem d_Md_copy_17 : decode c_Md_copy 17 = .ok (.aload_n 0, 1) := by decide +kernel
theorem d_Md_copy_18 : decode c_Md_copy 18 = .ok (.getfield 23, 3) := by decide +kernel
theorem d_Md_copy_21 : decode c_Md_copy 21 = .ok (.iload_n 1, 1) := by decide +kernel
theorem d_Md_copy_22 : decode c_Md_copy 22 = .ok (.iaload, 1) := by decide +kernel
theorem d_Md_copy_23 : decode c_Md_copy 23 = .ok (.iastore, 1) := by decide +kernel
theorem d_Md_copy_24 : decode c_Md_copy 24 = .ok (.aload_n 0, 1) := by decide +kernel
theorem d_Md_copy_25 : decode c_Md_copy 25 = .ok (.getfield 26, 3) := by decide +kernel
theorem d_Md_copy_28 : decode c_Md_copy 28 = .ok (.iload_n 2, 1) := by decide +kernel
theorem d_Md_copy_29 : decode c_Md_copy 29 = .ok (.aload_n 0, 1) := by decide +kernel
theorem d_Md_copy_30 : decode c_Md_copy 30 = .ok (.getfield 26, 3) := by decide +kernel
theorem d_Md_copy_33 : decode c_Md_copy 33 = .ok (.iload_n 1, 1) := by decide +kernel
theorem d_Md_copy_34 : decode c_Md_copy 34 = .ok (.iaload, 1) := by decide +kernel
theorem d_Md_copy_35 : decode c_Md_copy 35 = .ok (.iastore, 1) := by decide +kernel
theorem d_Md_copy_36 : decode c_Md_copy 36 = .ok (.aload_n 0, 1) := by decide +kernel
theorem d_Md_copy_37 : decode c_Md_copy 37 = .ok (.getfield 29, 3) := by decide +kernel
theorem d_Md_copy_40 : decode c_Md_copy 40 = .ok (.iload_n 2, 1) := by decide +kernel
theorem d_Md_copy_41 : decode c_Md_copy 41 = .ok (.aload_n 0, 1) := by decide +kernel
theorem d_Md_copy_42 : decode c_Md_copy 42 = .ok (.getfield 29, 3) := by decide +kernel
theorem d_Md_copy_45 : decode c_Md_copy 45 = .ok (.iload_n 1, 1) := by decide +kernel
theorem d_Md_copy_46 : decode c_Md_copy 46 = .ok (.iaload, 1) := by decide +kernel
theorem d_Md_copy_47 : decode c_Md_copy 47 = .ok (.iastore, 1) := by decide +kernel
theorem d_Md_copy_48 : decode c_Md_copy 48 = .ok (.return_, 1) := by decide +kernel
theorem d_Md_insert_0 : decode c_Md_insert 0 = .ok (.aload_n 0, 1) := by decide +kernel
theorem d_Md_insert_1 : decode c_Md_insert 1 = .ok (.getfield 17, 3) := by decide +kernel
theorem d_Md_insert_4 : decode c_Md_insert 4 = .ok (.iload_n 1, 1) := by decide +kernel
theorem d_Md_insert_5 : decode c_Md_insert 5 = .ok (.iaload, 1) := by decide +kernel
theorem d_Md_insert_6 : decode c_Md_insert 6 = .ok (.istore 6, 2) := by decide +kernel
theorem d_Md_insert_8 : decode c_Md_insert 8 = .ok (.iload 6, 2) := by decide +kernel
theorem d_Md_insert_10 : decode c_Md_insert 10 = .ok (.ifCond .le 47, 3) := by decide +kernel
theorem d_Md_insert_13 : decode c_Md_insert 13 = .ok (.aload_n 0, 1) := by decide +kernel
theorem d_Md_insert_14 : decode c_Md_insert 14 = .ok (.getfield 20, 3) := by decide +kernel
theorem d_Md_insert_17 : decode c_Md_insert 17 = .ok (.bipush 32, 2) := by decide +kernel
theorem d_Md_insert_19 : decode c_Md_insert 19 = .ok (.iload_n 1, 1) := by decide +kernel
theorem d_Md_insert_20 : decode c_Md_insert 20 = .ok (.imul, 1) := by decide +kernel
theorem d_Md_insert_21 : decode c_Md_insert 21 = .ok (.iload 6, 2) := by decide +kernel
theorem d_Md_insert_23 : decode c_Md_insert 23 = .ok (.iadd, 1) := by decide +kernel
theorem d_Md_insert_24 : decode c_Md_insert 24 = .ok (.iconst 1, 1) := by decide +kernel
theorem d_Md_insert_25 : decode c_Md_insert 25 = .ok (.isub, 1) := by decide +kernel
theorem d_Md_insert_26 : decode c_Md_insert 26 = .ok (.iaload, 1) := by decide +kernel
theorem d_Md_insert_27 : decode c_Md_insert 27 = .ok (.iload_n 2, 1) := by decide +kernel
theorem d_Md_insert_28 : decode c_Md_insert 28 = .ok (.if_icmp .le 29, 3) := by decide +kernel
theorem d_Md_insert_31 : decode c_Md_insert 31 = .ok (.aload_n 0, 1) := by decide +kernel
theorem d_Md_insert_32 : decode c_Md_insert 32 = .ok (.bipush 32, 2) := by decide +kernel
theorem d_Md_insert_34 : decode c_Md_insert 34 = .ok (.iload_n 1, 1) := by decide +kernel
theorem d_Md_insert_35 : decode c_Md_insert 35 = .ok (.imul, 1) := by decide +kernel
theorem d_Md_insert_36 : decode c_Md_insert 36 = .ok (.iload 6, 2) := by decide +kernel
theorem d_Md_insert_38 : decode c_Md_insert 38 = .ok (.iadd, 1) := by decide +kernel
theorem d_Md_insert_39 : decode c_Md_insert 39 = .ok (.iconst 1, 1) := by decide +kernel
theorem d_Md_insert_40 : decode c_Md_insert 40 = .ok (.isub, 1) := by decide +kernel
theorem d_Md_insert_41 : decode c_Md_insert 41 = .ok (.bipush 32, 2) := by decide +kernel
theorem d_Md_insert_43 : decode c_Md_insert 43 = .ok (.iload_n 1, 1) := by decide +kernel
theorem d_Md_insert_44 : decode c_Md_insert 44 = .ok (.imul, 1) := by decide +kernel
theorem d_Md_insert_45 : decode c_Md_insert 45 = .ok (.iload 6, 2) := by decide +kernel
theorem d_Md_insert_47 : decode c_Md_insert 47 = .ok (.iadd, 1) := by decide +kernel
theorem d_Md_insert_48 : decode c_Md_insert 48 = .ok (.invokevirtual 70, 3) := by decide +kernel
theorem d_Md_insert_51 : decode c_Md_insert 51 = .ok (.iinc 6 (-1), 3) := by decide +kernel
theorem d_Md_insert_54 : decode c_Md_insert 54 = .ok (.goto (-46), 3) := by decide +kernel
theorem d_Md_insert_57 : decode c_Md_insert 57 = .ok (.aload_n 0, 1) := by decide +kernel
theorem d_Md_insert_58 : decode c_Md_insert 58 = .ok (.getfield 20, 3) := by decide +kernel
theorem d_Md_insert_61 : decode c_Md_insert 61 = .ok (.bipush 32, 2) := by decide +kernel
theorem d_Md_insert_63 : decode c_Md_insert 63 = .ok (.iload_n 1, 1) := by decide +kernel
theorem d_Md_insert_64 : decode c_Md_insert 64 = .ok (.imul, 1) := by decide +kernel
theorem d_Md_insert_65 : decode c_Md_insert 65 = .ok (.iload 6, 2) := by decide +kernel
theorem d_Md_insert_67 : decode c_Md_insert 67 = .ok (.iadd, 1) := by decide +kernel
theorem d_Md_insert_68 : decode c_Md_insert 68 = .ok (.iload_n 2, 1) := by decide +kernel
theorem d_Md_insert_69 : decode c_Md_insert 69 = .ok (.iastore, 1) := by decide +kernel
theorem d_Md_insert_70 : decode c_Md_insert 70 = .ok (.aload_n 0, 1) := by decide +kernel
theorem d_Md_insert_71 : decode c_Md_insert 71 = .ok (.getfield 23, 3) := by decide +kernel
theorem d_Md_insert_74 : decode c_Md_insert 74 = .ok (.bipush 32, 2) := by decide +kernel
theorem d_Md_insert_76 : decode c_Md_insert 76 = .ok (.iload_n 1, 1) := by decide +kernel
theorem d_Md_insert_77 : decode c_Md_insert 77 = .ok (.imul, 1) := by decide +kernel
theorem d_Md_insert_78 : decode c_Md_insert 78 = .ok (.iload 6, 2) := by decide +kernel
theorem d_Md_insert_80 : decode c_Md_insert 80 = .ok (.iadd, 1) := by decide +kernel
theorem d_Md_insert_81 : decode c_Md_insert 81 = .ok (.iload_n 3, 1) := by decide +kernel
theorem d_Md_insert_82 : decode c_Md_insert 82 = .ok (.iastore, 1) := by decide +kernel
theorem d_Md_insert_83 : decode c_Md_insert 83 = .ok (.aload_n 0, 1) := by decide +kernel
theorem d_Md_insert_84 : decode c_Md_insert 84 = .ok (.getfield 26, 3) := by decide +kernel
theorem d_Md_insert_87 : decode c_Md_insert 87 = .ok (.bipush 32, 2) := by decide +kernel
theorem d_Md_insert_89 : decode c_Md_insert 89 = .ok (.iload_n 1, 1) := by decide +kernel
theorem d_Md_insert_90 : decode c_Md_insert 90 = .ok (.imul, 1) := by decide +kernel
theorem d_Md_insert_91 : decode c_Md_insert 91 = .ok (.iload 6, 2) := by decide +kernel
theorem d_Md_insert_93 : decode c_Md_insert 93 = .ok (.iadd, 1) := by decide +kernel
theorem d_Md_insert_94 : decode c_Md_insert 94 = .ok (.iload 4, 2) := by decide +kernel
theorem d_Md_insert_96 : decode c_Md_insert 96 = .ok (.iastore, 1) := by decide +kernel
theorem d_Md_insert_97 : decode c_Md_insert 97 = .ok (.aload_n 0, 1) := by decide +kernel
theorem d_Md_insert_98 : decode c_Md_insert 98 = .ok (.getfield 29, 3) := by decide +kernel
theorem d_Md_insert_101 : decode c_Md_insert 101 = .ok (.bipush 32, 2) := by decide +kernel
theorem d_Md_insert_103 : decode c_Md_insert 103 = .ok (.iload_n 1, 1) := by decide +kernel
theorem d_Md_insert_104 : decode c_Md_insert 104 = .ok (.imul, 1) := by decide +kernel
theorem d_Md_insert_105 : decode c_Md_insert 105 = .ok (.iload 6, 2) := by decide +kernel
theorem d_Md_insert_107 : decode c_Md_insert 107 = .ok (.iadd, 1) := by decide +kernel
theorem d_Md_insert_108 : decode c_Md_insert 108 = .ok (.iload 5, 2) := by decide +kernel
theorem d_Md_insert_110 : decode c_Md_insert 110 = .ok (.iastore, 1) := by decide +kernel
theorem d_Md_insert_111 : decode c_Md_insert 111 = .ok (.aload_n 0, 1) := by decide +kernel
theorem d_Md_insert_112 : decode c_Md_insert 112 = .ok (.getfield 17, 3) := by decide +kernel
theorem d_Md_insert_115 : decode c_Md_insert 115 = .ok (.iload_n 1, 1) := by decide +kernel
theorem d_Md_insert_116 : decode c_Md_insert 116 = .ok (.dup2, 1) := by decide +kernel
theorem d_Md_insert_117 : decode c_Md_insert 117 = .ok (.iaload, 1) := by decide +kernel
theorem d_Md_insert_118 : decode c_Md_insert 118 = .ok (.iconst 1, 1) := by decide +kernel
theorem d_Md_insert_119 : decode c_Md_insert 119 = .ok (.iadd, 1) := by decide +kernel
theorem d_Md_insert_120 : decode c_Md_insert 120 = .ok (.iastore, 1) := by decide +kernel
theorem d_Md_insert_121 : decode c_Md_insert 121 = .ok (.return_, 1) := by decide +kernel
theorem d_Md_strike_0 : decode c_Md_strike 0 = .ok (.aload_n 0, 1) := by decide +kernel
theorem d_Md_strike_1 : decode c_Md_strike 1 = .ok (.iload_n 1, 1) := by decide +kernel
theorem d_Md_strike_2 : decode c_Md_strike 2 = .ok (.iload_n 2, 1) := by decide +kernel
theorem d_Md_strike_3 : decode c_Md_strike 3 = .ok (.invokevirtual 66, 3) := by decide +kernel
theorem d_Md_strike_6 : decode c_Md_strike 6 = .ok (.ifCond .ne 12, 3) := by decide +kernel
theorem d_Md_strike_9 : decode c_Md_strike 9 = .ok (.aload_n 0, 1) := by decide +kernel
theorem d_Md_strike_10 : decode c_Md_strike 10 = .ok (.iload_n 1, 1) := by decide +kernel
theorem d_Md_strike_11 : decode c_Md_strike 11 = .ok (.iload_n 2, 1) := by decide +kernel
theorem d_Md_strike_12 : decode c_Md_strike 12 = .ok (.invokevirtual 78, 3) := by decide +kernel
theorem d_Md_strike_15 : decode c_Md_strike 15 = .ok (.ifCond .ge 5, 3) := by decide +kernel
theorem d_Md_strike_18 : decode c_Md_strike 18 = .ok (.iconst 0, 1) := by decide +kernel
theorem d_Md_strike_19 : decode c_Md_strike 19 = .ok (.ireturn, 1) := by decide +kernel
theorem d_Md_strike_20 : decode c_Md_strike 20 = .ok (.aload_n 0, 1) := by decide +kernel
theorem d_Md_strike_21 : decode c_Md_strike 21 = .ok (.iload_n 1, 1) := by decide +kernel
theorem d_Md_strike_22 : decode c_Md_strike 22 = .ok (.invokevirtual 90, 3) := by decide +kernel
theorem d_Md_strike_25 : decode c_Md_strike 25 = .ok (.aload_n 0, 1) := by decide +kernel
theorem d_Md_strike_26 : decode c_Md_strike 26 = .ok (.iload_n 1, 1) := by decide +kernel
theorem d_Md_strike_27 : decode c_Md_strike 27 = .ok (.aload_n 0, 1) := by decide +kernel
theorem d_Md_strike_28 : decode c_Md_strike 28 = .ok (.iload_n 1, 1) := by decide +kernel
theorem d_Md_strike_29 : decode c_Md_strike 29 = .ok (.iload_n 2, 1) := by decide +kernel
theorem d_Md_strike_30 : decode c_Md_strike 30 = .ok (.invokevirtual 78, 3) := by decide +kernel
theorem d_Md_strike_33 : decode c_Md_strike 33 = .ok (.invokevirtual 98, 3) := by decide +kernel
theorem d_Md_strike_36 : decode c_Md_strike 36 = .ok (.iconst 1, 1) := by decide +kernel
theorem d_Md_strike_37 : decode c_Md_strike 37 = .ok (.ireturn, 1) := by decide +kernel
theorem d_Md_cut_0 : decode c_Md_cut 0 = .ok (.aload_n 0, 1) := by decide +kernel
theorem d_Md_cut_1 : decode c_Md_cut 1 = .ok (.getfield 17, 3) := by decide +kernel
theorem d_Md_cut_4 : decode c_Md_cut 4 = .ok (.iload_n 1, 1) := by decide +kernel
theorem d_Md_cut_5 : decode c_Md_cut 5 = .ok (.dup2, 1) := by decide +kernel
theorem d_Md_cut_6 : decode c_Md_cut 6 = .ok (.iaload, 1) := by decide +kernel
theorem d_Md_cut_7 : decode c_Md_cut 7 = .ok (.iconst 1, 1) := by decide +kernel
theorem d_Md_cut_8 : decode c_Md_cut 8 = .ok (.isub, 1) := by decide +kernel
theorem d_Md_cut_9 : decode c_Md_cut 9 = .ok (.iastore, 1) := by decide +kernel
theorem d_Md_cut_10 : decode c_Md_cut 10 = .ok (.iload_n 2, 1) := by decide +kernel
theorem d_Md_cut_11 : decode c_Md_cut 11 = .ok (.istore_n 3, 1) := by decide +kernel
theorem d_Md_cut_12 : decode c_Md_cut 12 = .ok (.iload_n 3, 1) := by decide +kernel
theorem d_Md_cut_13 : decode c_Md_cut 13 = .ok (.aload_n 0, 1) := by decide +kernel
theorem d_Md_cut_14 : decode c_Md_cut 14 = .ok (.getfield 17, 3) := by decide +kernel
theorem d_Md_cut_17 : decode c_Md_cut 17 = .ok (.iload_n 1, 1) := by decide +kernel
theorem d_Md_cut_18 : decode c_Md_cut 18 = .ok (.iaload, 1) := by decide +kernel
theorem d_Md_cut_19 : decode c_Md_cut 19 = .ok (.if_icmp .ge 27, 3) := by decide +kernel
theorem d_Md_cut_22 : decode c_Md_cut 22 = .ok (.aload_n 0, 1) := by decide +kernel
theorem d_Md_cut_23 : decode c_Md_cut 23 = .ok (.bipush 32, 2) := by decide +kernel
theorem d_Md_cut_25 : decode c_Md_cut 25 = .ok (.iload_n 1, 1) := by decide +kernel
theorem d_Md_cut_26 : decode c_Md_cut 26 = .ok (.imul, 1) := by decide +kernel
theorem d_Md_cut_27 : decode c_Md_cut 27 = .ok (.iload_n 3, 1) := by decide +kernel
theorem d_Md_cut_28 : decode c_Md_cut 28 = .ok (.iadd, 1) := by decide +kernel
theorem d_Md_cut_29 : decode c_Md_cut 29 = .ok (.iconst 1, 1) := by decide +kernel
theorem d_Md_cut_30 : decode c_Md_cut 30 = .ok (.iadd, 1) := by decide +kernel
theorem d_Md_cut_31 : decode c_Md_cut 31 = .ok (.bipush 32, 2) := by decide +kernel
theorem d_Md_cut_33 : decode c_Md_cut 33 = .ok (.iload_n 1, 1) := by decide +kernel
theorem d_Md_cut_34 : decode c_Md_cut 34 = .ok (.imul, 1) := by decide +kernel
theorem d_Md_cut_35 : decode c_Md_cut 35 = .ok (.iload_n 3, 1) := by decide +kernel
theorem d_Md_cut_36 : decode c_Md_cut 36 = .ok (.iadd, 1) := by decide +kernel
theorem d_Md_cut_37 : decode c_Md_cut 37 = .ok (.invokevirtual 70, 3) := by decide +kernel
theorem d_Md_cut_40 : decode c_Md_cut 40 = .ok (.iinc 3 1, 3) := by decide +kernel
theorem d_Md_cut_43 : decode c_Md_cut 43 = .ok (.goto (-31), 3) := by decide +kernel
theorem d_Md_cut_46 : decode c_Md_cut 46 = .ok (.return_, 1) := by decide +kernel
theorem d_Md_shift_0 : decode c_Md_shift 0 = .ok (.aload_n 0, 1) := by decide +kernel
theorem d_Md_shift_1 : decode c_Md_shift 1 = .ok (.iload_n 1, 1) := by decide +kernel
theorem d_Md_shift_2 : decode c_Md_shift 2 = .ok (.invokestatic 59, 3) := by decide +kernel
theorem d_Md_shift_5 : decode c_Md_shift 5 = .ok (.ifCond .eq 17, 3) := by decide +kernel
theorem d_Md_shift_8 : decode c_Md_shift 8 = .ok (.iload_n 2, 1) := by decide +kernel
theorem d_Md_shift_9 : decode c_Md_shift 9 = .ok (.invokestatic 63, 3) := by decide +kernel
theorem d_Md_shift_12 : decode c_Md_shift 12 = .ok (.ifCond .eq 10, 3) := by decide +kernel
theorem d_Md_shift_15 : decode c_Md_shift 15 = .ok (.iload_n 3, 1) := by decide +kernel
theorem d_Md_shift_16 : decode c_Md_shift 16 = .ok (.invokestatic 63, 3) := by decide +kernel
theorem d_Md_shift_19 : decode c_Md_shift 19 = .ok (.ifCond .ne 7, 3) := by decide +kernel
theorem d_Md_shift_22 : decode c_Md_shift 22 = .ok (.iconst 1, 1) := by decide +kernel
theorem d_Md_shift_23 : decode c_Md_shift 23 = .ok (.goto 39, 3) := by decide +kernel
theorem d_Md_shift_26 : decode c_Md_shift 26 = .ok (.aload_n 0, 1) := by decide +kernel
theorem d_Md_shift_27 : decode c_Md_shift 27 = .ok (.getfield 7, 3) := by decide +kernel
theorem d_Md_shift_30 : decode c_Md_shift 30 = .ok (.iload_n 1, 1) := by decide +kernel
theorem d_Md_shift_31 : decode c_Md_shift 31 = .ok (.iaload, 1) := by decide +kernel
theorem d_Md_shift_32 : decode c_Md_shift 32 = .ok (.ifCond .eq 12, 3) := by decide +kernel
theorem d_Md_shift_35 : decode c_Md_shift 35 = .ok (.aload_n 0, 1) := by decide +kernel
theorem d_Md_shift_36 : decode c_Md_shift 36 = .ok (.iload_n 1, 1) := by decide +kernel
theorem d_Md_shift_37 : decode c_Md_shift 37 = .ok (.iload_n 3, 1) := by decide +kernel
theorem d_Md_shift_38 : decode c_Md_shift 38 = .ok (.invokevirtual 78, 3) := by decide +kernel
theorem d_Md_shift_41 : decode c_Md_shift 41 = .ok (.ifCond .lt 7, 3) := by decide +kernel
theorem d_Md_shift_44 : decode c_Md_shift 44 = .ok (.iconst 2, 1) := by decide +kernel
theorem d_Md_shift_45 : decode c_Md_shift 45 = .ok (.goto 17, 3) := by decide +kernel
theorem d_Md_shift_48 : decode c_Md_shift 48 = .ok (.aload_n 0, 1) := by decide +kernel
theorem d_Md_shift_49 : decode c_Md_shift 49 = .ok (.iload_n 1, 1) := by decide +kernel
theorem d_Md_shift_50 : decode c_Md_shift 50 = .ok (.iload_n 2, 1) := by decide +kernel
theorem d_Md_shift_51 : decode c_Md_shift 51 = .ok (.invokevirtual 78, 3) := by decide +kernel
theorem d_Md_shift_54 : decode c_Md_shift 54 = .ok (.ifCond .ge 7, 3) := by decide +kernel
theorem d_Md_shift_57 : decode c_Md_shift 57 = .ok (.iconst 3, 1) := by decide +kernel
theorem d_Md_shift_58 : decode c_Md_shift 58 = .ok (.goto 4, 3) := by decide +kernel
theorem d_Md_shift_61 : decode c_Md_shift 61 = .ok (.iconst 0, 1) := by decide +kernel
theorem d_Md_shift_62 : decode c_Md_shift 62 = .ok (.putfield 54, 3) := by decide +kernel
theorem d_Md_shift_65 : decode c_Md_shift 65 = .ok (.aload_n 0, 1) := by decide +kernel
theorem d_Md_shift_66 : decode c_Md_shift 66 = .ok (.getfield 54, 3) := by decide +kernel
theorem d_Md_shift_69 : decode c_Md_shift 69 = .ok (.ifCond .le 4, 3) := by decide +kernel
theorem d_Md_shift_72 : decode c_Md_shift 72 = .ok (.return_, 1) := by decide +kernel
theorem d_Md_shift_73 : decode c_Md_shift 73 = .ok (.aload_n 0, 1) := by decide +kernel
theorem d_Md_shift_74 : decode c_Md_shift 74 = .ok (.iload_n 1, 1) := by decide +kernel
theorem d_Md_shift_75 : decode c_Md_shift 75 = .ok (.invokevirtual 90, 3) := by decide +kernel
theorem d_Md_shift_78 : decode c_Md_shift 78 = .ok (.aload_n 0, 1) := by decide +kernel
theorem d_Md_shift_79 : decode c_Md_shift 79 = .ok (.iload_n 1, 1) := by decide +kernel
theorem d_Md_shift_80 : decode c_Md_shift 80 = .ok (.iload_n 2, 1) := by decide +kernel
theorem d_Md_shift_81 : decode c_Md_shift 81 = .ok (.invokevirtual 78, 3) := by decide +kernel
theorem d_Md_shift_84 : decode c_Md_shift 84 = .ok (.istore 4, 2) := by decide +kernel
theorem d_Md_shift_86 : decode c_Md_shift 86 = .ok (.aload_n 0, 1) := by decide +kernel
theorem d_Md_shift_87 : decode c_Md_shift 87 = .ok (.getfield 23, 3) := by decide +kernel
theorem d_Md_shift_90 : decode c_Md_shift 90 = .ok (.bipush 32, 2) := by decide +kernel
theorem d_Md_shift_92 : decode c_Md_shift 92 = .ok (.iload_n 1, 1) := by decide +kernel
theorem d_Md_shift_93 : decode c_Md_shift 93 = .ok (.imul, 1) := by decide +kernel
theorem d_Md_shift_94 : decode c_Md_shift 94 = .ok (.iload 4, 2) := by decide +kernel
theorem d_Md_shift_96 : decode c_Md_shift 96 = .ok (.iadd, 1) := by decide +kernel
theorem d_Md_shift_97 : decode c_Md_shift 97 = .ok (.iaload, 1) := by decide +kernel
theorem d_Md_shift_98 : decode c_Md_shift 98 = .ok (.istore 5, 2) := by decide +kernel
theorem d_Md_shift_100 : decode c_Md_shift 100 = .ok (.aload_n 0, 1) := by decide +kernel
theorem d_Md_shift_101 : decode c_Md_shift 101 = .ok (.getfield 26, 3) := by decide +kernel
theorem d_Md_shift_104 : decode c_Md_shift 104 = .ok (.bipush 32, 2) := by decide +kernel
theorem d_Md_shift_106 : decode c_Md_shift 106 = .ok (.iload_n 1, 1) := by decide +kernel
theorem d_Md_shift_107 : decode c_Md_shift 107 = .ok (.imul, 1) := by decide +kernel
theorem d_Md_shift_108 : decode c_Md_shift 108 = .ok (.iload 4, 2) := by decide +kernel
theorem d_Md_shift_110 : decode c_Md_shift 110 = .ok (.iadd, 1) := by decide +kernel
theorem d_Md_shift_111 : decode c_Md_shift 111 = .ok (.iaload, 1) := by decide +kernel
theorem d_Md_shift_112 : decode c_Md_shift 112 = .ok (.istore 6, 2) := by decide +kernel
theorem d_Md_shift_114 : decode c_Md_shift 114 = .ok (.aload_n 0, 1) := by decide +kernel
theorem d_Md_shift_115 : decode c_Md_shift 115 = .ok (.getfield 29, 3) := by decide +kernel
theorem d_Md_shift_118 : decode c_Md_shift 118 = .ok (.bipush 32, 2) := by decide +kernel
theorem d_Md_shift_120 : decode c_Md_shift 120 = .ok (.iload_n 1, 1) := by decide +kernel
theorem d_Md_shift_121 : decode c_Md_shift 121 = .ok (.imul, 1) := by decide +kernel
theorem d_Md_shift_122 : decode c_Md_shift 122 = .ok (.iload 4, 2) := by decide +kernel
theorem d_Md_shift_124 : decode c_Md_shift 124 = .ok (.iadd, 1) := by decide +kernel
theorem d_Md_shift_125 : decode c_Md_shift 125 = .ok (.iaload, 1) := by decide +kernel
theorem d_Md_shift_126 : decode c_Md_shift 126 = .ok (.istore 7, 2) := by decide +kernel
theorem d_Md_shift_128 : decode c_Md_shift 128 = .ok (.aload_n 0, 1) := by decide +kernel
theorem d_Md_shift_129 : decode c_Md_shift 129 = .ok (.iload_n 1, 1) := by decide +kernel
theorem d_Md_shift_130 : decode c_Md_shift 130 = .ok (.iload 4, 2) := by decide +kernel
theorem d_Md_shift_132 : decode c_Md_shift 132 = .ok (.invokevirtual 98, 3) := by decide +kernel
theorem d_Md_shift_135 : decode c_Md_shift 135 = .ok (.aload_n 0, 1) := by decide +kernel
theorem d_Md_shift_136 : decode c_Md_shift 136 = .ok (.iload_n 1, 1) := by decide +kernel
theorem d_Md_shift_137 : decode c_Md_shift 137 = .ok (.iload_n 3, 1) := by decide +kernel
theorem d_Md_shift_138 : decode c_Md_shift 138 = .ok (.iload 5, 2) := by decide +kernel
theorem d_Md_shift_140 : decode c_Md_shift 140 = .ok (.iload 6, 2) := by decide +kernel
theorem d_Md_shift_142 : decode c_Md_shift 142 = .ok (.iload 7, 2) := by decide +kernel
theorem d_Md_shift_144 : decode c_Md_shift 144 = .ok (.invokevirtual 94, 3) := by decide +kernel
theorem d_Md_shift_147 : decode c_Md_shift 147 = .ok (.return_, 1) := by decide +kernel
theorem d_Md_front_0 : decode c_Md_front 0 = .ok (.aload_n 0, 1) := by decide +kernel
theorem d_Md_front_1 : decode c_Md_front 1 = .ok (.iload_n 1, 1) := by decide +kernel
theorem d_Md_front_2 : decode c_Md_front 2 = .ok (.iload_n 2, 1) := by decide +kernel
theorem d_Md_front_3 : decode c_Md_front 3 = .ok (.iconst 3, 1) := by decide +kernel
theorem d_Md_front_4 : decode c_Md_front 4 = .ok (.invokevirtual 130, 3) := by decide +kernel
theorem d_Md_front_7 : decode c_Md_front 7 = .ok (.ifCond .eq 5, 3) := by decide +kernel
theorem d_Md_front_10 : decode c_Md_front 10 = .ok (.iconst 0, 1) := by decide +kernel
theorem d_Md_front_11 : decode c_Md_front 11 = .ok (.ireturn, 1) := by decide +kernel
theorem d_Md_front_12 : decode c_Md_front 12 = .ok (.aload_n 0, 1) := by decide +kernel
theorem d_Md_front_13 : decode c_Md_front 13 = .ok (.aload_n 0, 1) := by decide +kernel
theorem d_Md_front_14 : decode c_Md_front 14 = .ok (.getfield 101, 3) := by decide +kernel
theorem d_Md_front_17 : decode c_Md_front 17 = .ok (.ifCond .ne 7, 3) := by decide +kernel
theorem d_Md_front_20 : decode c_Md_front 20 = .ok (.iconst 3, 1) := by decide +kernel
theorem d_Md_front_21 : decode c_Md_front 21 = .ok (.goto 4, 3) := by decide +kernel
theorem d_Md_front_24 : decode c_Md_front 24 = .ok (.iconst 0, 1) := by decide +kernel
theorem d_Md_front_25 : decode c_Md_front 25 = .ok (.putfield 54, 3) := by decide +kernel
theorem d_Md_front_28 : decode c_Md_front 28 = .ok (.aload_n 0, 1) := by decide +kernel
theorem d_Md_front_29 : decode c_Md_front 29 = .ok (.getfield 54, 3) := by decide +kernel
theorem d_Md_front_32 : decode c_Md_front 32 = .ok (.ifCond .le 7, 3) := by decide +kernel
theorem d_Md_front_35 : decode c_Md_front 35 = .ok (.iconst 0, 1) := by decide +kernel
theorem d_Md_front_36 : decode c_Md_front 36 = .ok (.goto 17, 3) := by decide +kernel
theorem d_Md_front_39 : decode c_Md_front 39 = .ok (.aload_n 0, 1) := by decide +kernel
theorem d_Md_front_40 : decode c_Md_front 40 = .ok (.getfield 32, 3) := by decide +kernel
theorem d_Md_front_43 : decode c_Md_front 43 = .ok (.aload_n 0, 1) := by decide +kernel
theorem d_Md_front_44 : decode c_Md_front 44 = .ok (.aload_n 0, 1) := by decide +kernel
theorem d_Md_front_45 : decode c_Md_front 45 = .ok (.iload_n 1, 1) := by decide +kernel
theorem d_Md_front_46 : decode c_Md_front 46 = .ok (.invokevirtual 82, 3) := by decide +kernel
theorem d_Md_front_49 : decode c_Md_front 49 = .ok (.invokevirtual 104, 3) := by decide +kernel
theorem d_Md_front_52 : decode c_Md_front 52 = .ok (.iaload, 1) := by decide +kernel
theorem d_Md_front_53 : decode c_Md_front 53 = .ok (.ireturn, 1) := by decide +kernel
theorem d_Md_isNotFor_0 : decode c_Md_isNotFor 0 = .ok (.aload_n 0, 1) := by decide +kernel
theorem d_Md_isNotFor_1 : decode c_Md_isNotFor 1 = .ok (.iload_n 1, 1) := by decide +kernel
theorem d_Md_isNotFor_2 : decode c_Md_isNotFor 2 = .ok (.iload_n 2, 1) := by decide +kernel
theorem d_Md_isNotFor_3 : decode c_Md_isNotFor 3 = .ok (.invokevirtual 66, 3) := by decide +kernel
theorem d_Md_isNotFor_6 : decode c_Md_isNotFor 6 = .ok (.ifCond .eq 5, 3) := by decide +kernel
theorem d_Md_isNotFor_9 : decode c_Md_isNotFor 9 = .ok (.iconst 1, 1) := by decide +kernel
theorem d_Md_isNotFor_10 : decode c_Md_isNotFor 10 = .ok (.ireturn, 1) := by decide +kernel
theorem d_Md_isNotFor_11 : decode c_Md_isNotFor 11 = .ok (.aload_n 0, 1) := by decide +kernel
theorem d_Md_isNotFor_12 : decode c_Md_isNotFor 12 = .ok (.iload_n 3, 1) := by decide +kernel
theorem d_Md_isNotFor_13 : decode c_Md_isNotFor 13 = .ok (.aload_n 0, 1) := by decide +kernel
theorem d_Md_isNotFor_14 : decode c_Md_isNotFor 14 = .ok (.iload_n 1, 1) := by decide +kernel
theorem d_Md_isNotFor_15 : decode c_Md_isNotFor 15 = .ok (.invokevirtual 82, 3) := by decide +kernel
theorem d_Md_isNotFor_18 : decode c_Md_isNotFor 18 = .ok (.ishr, 1) := by decide +kernel
theorem d_Md_isNotFor_19 : decode c_Md_isNotFor 19 = .ok (.iconst 1, 1) := by decide +kernel
theorem d_Md_isNotFor_20 : decode c_Md_isNotFor 20 = .ok (.iand, 1) := by decide +kernel
theorem d_Md_isNotFor_21 : decode c_Md_isNotFor 21 = .ok (.iconst 1, 1) := by decide +kernel
theorem d_Md_isNotFor_22 : decode c_Md_isNotFor 22 = .ok (.if_icmp .ne 7, 3) := by decide +kernel
theorem d_Md_isNotFor_25 : decode c_Md_isNotFor 25 = .ok (.iconst 0, 1) := by decide +kernel
theorem d_Md_isNotFor_26 : decode c_Md_isNotFor 26 = .ok (.goto 4, 3) := by decide +kernel
theorem d_Md_isNotFor_29 : decode c_Md_isNotFor 29 = .ok (.iconst 2, 1) := by decide +kernel
theorem d_Md_isNotFor_30 : decode c_Md_isNotFor 30 = .ok (.putfield 54, 3) := by decide +kernel
theorem d_Md_isNotFor_33 : decode c_Md_isNotFor 33 = .ok (.aload_n 0, 1) := by decide +kernel
theorem d_Md_isNotFor_34 : decode c_Md_isNotFor 34 = .ok (.getfield 54, 3) := by decide +kernel
theorem d_Md_isNotFor_37 : decode c_Md_isNotFor 37 = .ok (.ifCond .ne 14, 3) := by decide +kernel
theorem d_Md_isNotFor_40 : decode c_Md_isNotFor 40 = .ok (.aload_n 0, 1) := by decide +kernel
theorem d_Md_isNotFor_41 : decode c_Md_isNotFor 41 = .ok (.iload_n 1, 1) := by decide +kernel
theorem d_Md_isNotFor_42 : decode c_Md_isNotFor 42 = .ok (.aload_n 0, 1) := by decide +kernel
theorem d_Md_isNotFor_43 : decode c_Md_isNotFor 43 = .ok (.iload_n 1, 1) := by decide +kernel
theorem d_Md_isNotFor_44 : decode c_Md_isNotFor 44 = .ok (.invokevirtual 82, 3) := by decide +kernel
theorem d_Md_isNotFor_47 : decode c_Md_isNotFor 47 = .ok (.iload_n 2, 1) := by decide +kernel
theorem d_Md_isNotFor_48 : decode c_Md_isNotFor 48 = .ok (.invokevirtual 126, 3) := by decide +kernel
theorem d_Md_isNotFor_51 : decode c_Md_isNotFor 51 = .ok (.aload_n 0, 1) := by decide +kernel
theorem d_Md_isNotFor_52 : decode c_Md_isNotFor 52 = .ok (.getfield 54, 3) := by decide +kernel
theorem d_Md_isNotFor_55 : decode c_Md_isNotFor 55 = .ok (.ifCond .le 7, 3) := by decide +kernel
theorem d_Md_isNotFor_58 : decode c_Md_isNotFor 58 = .ok (.iconst 1, 1) := by decide +kernel
theorem d_Md_isNotFor_59 : decode c_Md_isNotFor 59 = .ok (.goto 4, 3) := by decide +kernel
theorem d_Md_isNotFor_62 : decode c_Md_isNotFor 62 = .ok (.iconst 0, 1) := by decide +kernel
theorem d_Md_isNotFor_63 : decode c_Md_isNotFor 63 = .ok (.ireturn, 1) := by decide +kernel
theorem d_Md_run_0 : decode c_Md_run 0 = .ok (.aload_n 0, 1) := by decide +kernel
theorem d_Md_run_1 : decode c_Md_run 1 = .ok (.iload_n 2, 1) := by decide +kernel
theorem d_Md_run_2 : decode c_Md_run 2 = .ok (.iconst 5, 1) := by decide +kernel
theorem d_Md_run_3 : decode c_Md_run 3 = .ok (.if_icmp .ne 8, 3) := by decide +kernel
theorem d_Md_run_6 : decode c_Md_run 6 = .ok (.bipush 16, 2) := by decide +kernel
theorem d_Md_run_8 : decode c_Md_run 8 = .ok (.goto 4, 3) := by decide +kernel
theorem d_Md_run_11 : decode c_Md_run 11 = .ok (.iconst 0, 1) := by decide +kernel
theorem d_Md_run_12 : decode c_Md_run 12 = .ok (.putfield 101, 3) := by decide +kernel
theorem d_Md_run_15 : decode c_Md_run 15 = .ok (.aload_n 0, 1) := by decide +kernel
theorem d_Md_run_16 : decode c_Md_run 16 = .ok (.lconst 0, 1) := by decide +kernel
theorem d_Md_run_17 : decode c_Md_run 17 = .ok (.putfield 113, 3) := by decide +kernel
theorem d_Md_run_20 : decode c_Md_run 20 = .ok (.iconst 0, 1) := by decide +kernel
theorem d_Md_run_21 : decode c_Md_run 21 = .ok (.istore 4, 2) := by decide +kernel
theorem d_Md_run_23 : decode c_Md_run 23 = .ok (.iload 4, 2) := by decide +kernel
theorem d_Md_run_25 : decode c_Md_run 25 = .ok (.bipush 16, 2) := by decide +kernel
theorem d_Md_run_27 : decode c_Md_run 27 = .ok (.if_icmp .ge 18, 3) := by decide +kernel
theorem d_Md_run_30 : decode c_Md_run 30 = .ok (.aload_n 0, 1) := by decide +kernel
theorem d_Md_run_31 : decode c_Md_run 31 = .ok (.getfield 38, 3) := by decide +kernel
theorem d_Md_run_34 : decode c_Md_run 34 = .ok (.iload 4, 2) := by decide +kernel
theorem d_Md_run_36 : decode c_Md_run 36 = .ok (.iload 4, 2) := by decide +kernel
theorem d_Md_run_38 : decode c_Md_run 38 = .ok (.iastore, 1) := by decide +kernel
theorem d_Md_run_39 : decode c_Md_run 39 = .ok (.iinc 4 1, 3) := by decide +kernel
theorem d_Md_run_42 : decode c_Md_run 42 = .ok (.goto (-19), 3) := by decide +kernel
theorem d_Md_run_45 : decode c_Md_run 45 = .ok (.iconst 0, 1) := by decide +kernel
theorem d_Md_run_46 : decode c_Md_run 46 = .ok (.istore 4, 2) := by decide +kernel
theorem d_Md_run_48 : decode c_Md_run 48 = .ok (.iload 4, 2) := by decide +kernel
theorem d_Md_run_50 : decode c_Md_run 50 = .ok (.aload_n 0, 1) := by decide +kernel
theorem d_Md_run_51 : decode c_Md_run 51 = .ok (.getfield 17, 3) := by decide +kernel
theorem d_Md_run_54 : decode c_Md_run 54 = .ok (.iload_n 1, 1) := by decide +kernel
theorem d_Md_run_55 : decode c_Md_run 55 = .ok (.iaload, 1) := by decide +kernel
theorem d_Md_run_56 : decode c_Md_run 56 = .ok (.if_icmp .ge 185, 3) := by decide +kernel
theorem d_Md_run_59 : decode c_Md_run 59 = .ok (.aload_n 0, 1) := by decide +kernel
theorem d_Md_run_60 : decode c_Md_run 60 = .ok (.getfield 20, 3) := by decide +kernel
theorem d_Md_run_63 : decode c_Md_run 63 = .ok (.bipush 32, 2) := by decide +kernel
theorem d_Md_run_65 : decode c_Md_run 65 = .ok (.iload_n 1, 1) := by decide +kernel
theorem d_Md_run_66 : decode c_Md_run 66 = .ok (.imul, 1) := by decide +kernel
theorem d_Md_run_67 : decode c_Md_run 67 = .ok (.iload 4, 2) := by decide +kernel
theorem d_Md_run_69 : decode c_Md_run 69 = .ok (.iadd, 1) := by decide +kernel
theorem d_Md_run_70 : decode c_Md_run 70 = .ok (.iaload, 1) := by decide +kernel
theorem d_Md_run_71 : decode c_Md_run 71 = .ok (.iload_n 3, 1) := by decide +kernel
theorem d_Md_run_72 : decode c_Md_run 72 = .ok (.if_icmp .gt 169, 3) := by decide +kernel
theorem d_Md_run_75 : decode c_Md_run 75 = .ok (.aload_n 0, 1) := by decide +kernel
theorem d_Md_run_76 : decode c_Md_run 76 = .ok (.getfield 23, 3) := by decide +kernel
theorem d_Md_run_79 : decode c_Md_run 79 = .ok (.bipush 32, 2) := by decide +kernel
theorem d_Md_run_81 : decode c_Md_run 81 = .ok (.iload_n 1, 1) := by decide +kernel
theorem d_Md_run_82 : decode c_Md_run 82 = .ok (.imul, 1) := by decide +kernel
theorem d_Md_run_83 : decode c_Md_run 83 = .ok (.iload 4, 2) := by decide +kernel
theorem d_Md_run_85 : decode c_Md_run 85 = .ok (.iadd, 1) := by decide +kernel
theorem d_Md_run_86 : decode c_Md_run 86 = .ok (.iaload, 1) := by decide +kernel
theorem d_Md_run_87 : decode c_Md_run 87 = .ok (.istore 5, 2) := by decide +kernel
theorem d_Md_run_89 : decode c_Md_run 89 = .ok (.aload_n 0, 1) := by decide +kernel
theorem d_Md_run_90 : decode c_Md_run 90 = .ok (.getfield 26, 3) := by decide +kernel
theorem d_Md_run_93 : decode c_Md_run 93 = .ok (.bipush 32, 2) := by decide +kernel
theorem d_Md_run_95 : decode c_Md_run 95 = .ok (.iload_n 1, 1) := by decide +kernel
theorem d_Md_run_96 : decode c_Md_run 96 = .ok (.imul, 1) := by decide +kernel
theorem d_Md_run_97 : decode c_Md_run 97 = .ok (.iload 4, 2) := by decide +kernel
theorem d_Md_run_99 : decode c_Md_run 99 = .ok (.iadd, 1) := by decide +kernel
theorem d_Md_run_100 : decode c_Md_run 100 = .ok (.iaload, 1) := by decide +kernel
theorem d_Md_run_101 : decode c_Md_run 101 = .ok (.istore 6, 2) := by decide +kernel
theorem d_Md_run_103 : decode c_Md_run 103 = .ok (.aload_n 0, 1) := by decide +kernel
theorem d_Md_run_104 : decode c_Md_run 104 = .ok (.getfield 29, 3) := by decide +kernel
theorem d_Md_run_107 : decode c_Md_run 107 = .ok (.bipush 32, 2) := by decide +kernel
theorem d_Md_run_109 : decode c_Md_run 109 = .ok (.iload_n 1, 1) := by decide +kernel
theorem d_Md_run_110 : decode c_Md_run 110 = .ok (.imul, 1) := by decide +kernel
theorem d_Md_run_111 : decode c_Md_run 111 = .ok (.iload 4, 2) := by decide +kernel
theorem d_Md_run_113 : decode c_Md_run 113 = .ok (.iadd, 1) := by decide +kernel
theorem d_Md_run_114 : decode c_Md_run 114 = .ok (.iaload, 1) := by decide +kernel
theorem d_Md_run_115 : decode c_Md_run 115 = .ok (.istore 7, 2) := by decide +kernel
theorem d_Md_run_117 : decode c_Md_run 117 = .ok (.aload_n 0, 1) := by decide +kernel
theorem d_Md_run_118 : decode c_Md_run 118 = .ok (.getfield 41, 3) := by decide +kernel
theorem d_Md_run_121 : decode c_Md_run 121 = .ok (.iload 4, 2) := by decide +kernel
theorem d_Md_run_123 : decode c_Md_run 123 = .ok (.lconst 0, 1) := by decide +kernel
theorem d_Md_run_124 : decode c_Md_run 124 = .ok (.lastore, 1) := by decide +kernel
theorem d_Md_run_125 : decode c_Md_run 125 = .ok (.iload_n 2, 1) := by decide +kernel
theorem d_Md_run_126 : decode c_Md_run 126 = .ok (.iconst 4, 1) := by decide +kernel
theorem d_Md_run_127 : decode c_Md_run 127 = .ok (.if_icmp .ne 54, 3) := by decide +kernel
theorem d_Md_run_130 : decode c_Md_run 130 = .ok (.aload_n 0, 1) := by decide +kernel
theorem d_Md_run_131 : decode c_Md_run 131 = .ok (.aload_n 0, 1) := by decide +kernel
theorem d_Md_run_132 : decode c_Md_run 132 = .ok (.getfield 113, 3) := by decide +kernel
theorem d_Md_run_135 : decode c_Md_run 135 = .ok (.iload 6, 2) := by decide +kernel
theorem d_Md_run_137 : decode c_Md_run 137 = .ok (.i2l, 1) := by decide +kernel
theorem d_Md_run_138 : decode c_Md_run 138 = .ok (.ladd, 1) := by decide +kernel
theorem d_Md_run_139 : decode c_Md_run 139 = .ok (.lconst 0, 1) := by decide +kernel
theorem d_Md_run_140 : decode c_Md_run 140 = .ok (.lcmp, 1) := by decide +kernel
theorem d_Md_run_141 : decode c_Md_run 141 = .ok (.ifCond .ge 7, 3) := by decide +kernel
theorem d_Md_run_144 : decode c_Md_run 144 = .ok (.lconst 0, 1) := by decide +kernel
theorem d_Md_run_145 : decode c_Md_run 145 = .ok (.goto 11, 3) := by decide +kernel
theorem d_Md_run_148 : decode c_Md_run 148 = .ok (.aload_n 0, 1) := by decide +kernel
theorem d_Md_run_149 : decode c_Md_run 149 = .ok (.getfield 113, 3) := by decide +kernel
theorem d_Md_run_152 : decode c_Md_run 152 = .ok (.iload 6, 2) := by decide +kernel
theorem d_Md_run_154 : decode c_Md_run 154 = .ok (.i2l, 1) := by decide +kernel
theorem d_Md_run_155 : decode c_Md_run 155 = .ok (.ladd, 1) := by decide +kernel
theorem d_Md_run_156 : decode c_Md_run 156 = .ok (.putfield 113, 3) := by decide +kernel
theorem d_Md_run_159 : decode c_Md_run 159 = .ok (.aload_n 0, 1) := by decide +kernel
theorem d_Md_run_160 : decode c_Md_run 160 = .ok (.getfield 41, 3) := by decide +kernel
theorem d_Md_run_163 : decode c_Md_run 163 = .ok (.iload 4, 2) := by decide +kernel
theorem d_Md_run_165 : decode c_Md_run 165 = .ok (.aload_n 0, 1) := by decide +kernel
theorem d_Md_run_166 : decode c_Md_run 166 = .ok (.getfield 113, 3) := by decide +kernel
theorem d_Md_run_169 : decode c_Md_run 169 = .ok (.lastore, 1) := by decide +kernel
theorem d_Md_run_170 : decode c_Md_run 170 = .ok (.aload_n 0, 1) := by decide +kernel
theorem d_Md_run_171 : decode c_Md_run 171 = .ok (.getfield 45, 3) := by decide +kernel
theorem d_Md_run_174 : decode c_Md_run 174 = .ok (.iload 4, 2) := by decide +kernel
theorem d_Md_run_176 : decode c_Md_run 176 = .ok (.iconst 1, 1) := by decide +kernel
theorem d_Md_run_177 : decode c_Md_run 177 = .ok (.bastore, 1) := by decide +kernel
theorem d_Md_run_178 : decode c_Md_run 178 = .ok (.goto 57, 3) := by decide +kernel
theorem d_Md_run_181 : decode c_Md_run 181 = .ok (.aload_n 0, 1) := by decide +kernel
theorem d_Md_run_182 : decode c_Md_run 182 = .ok (.getfield 45, 3) := by decide +kernel
theorem d_Md_run_185 : decode c_Md_run 185 = .ok (.iload 4, 2) := by decide +kernel
theorem d_Md_run_187 : decode c_Md_run 187 = .ok (.iload_n 2, 1) := by decide +kernel
theorem d_Md_run_188 : decode c_Md_run 188 = .ok (.iconst 5, 1) := by decide +kernel
theorem d_Md_run_189 : decode c_Md_run 189 = .ok (.if_icmp .ne 14, 3) := by decide +kernel
theorem d_Md_run_192 : decode c_Md_run 192 = .ok (.aload_n 0, 1) := by decide +kernel
theorem d_Md_run_193 : decode c_Md_run 193 = .ok (.iload 6, 2) := by decide +kernel
theorem d_Md_run_195 : decode c_Md_run 195 = .ok (.iload 7, 2) := by decide +kernel
theorem d_Md_run_197 : decode c_Md_run 197 = .ok (.invokevirtual 117, 3) := by decide +kernel
theorem d_Md_run_200 : decode c_Md_run 200 = .ok (.goto 34, 3) := by decide +kernel
theorem d_Md_run_203 : decode c_Md_run 203 = .ok (.iload_n 2, 1) := by decide +kernel
theorem d_Md_run_204 : decode c_Md_run 204 = .ok (.iconst 2, 1) := by decide +kernel
theorem d_Md_run_205 : decode c_Md_run 205 = .ok (.if_icmp .ne 18, 3) := by decide +kernel
theorem d_Md_run_208 : decode c_Md_run 208 = .ok (.aload_n 0, 1) := by decide +kernel
theorem d_Md_run_209 : decode c_Md_run 209 = .ok (.iload 4, 2) := by decide +kernel
theorem d_Md_run_211 : decode c_Md_run 211 = .ok (.iload 5, 2) := by decide +kernel
theorem d_Md_run_213 : decode c_Md_run 213 = .ok (.iload 6, 2) := by decide +kernel
theorem d_Md_run_215 : decode c_Md_run 215 = .ok (.iload 7, 2) := by decide +kernel
theorem d_Md_run_217 : decode c_Md_run 217 = .ok (.invokevirtual 120, 3) := by decide +kernel
theorem d_Md_run_220 : decode c_Md_run 220 = .ok (.goto 14, 3) := by decide +kernel
theorem d_Md_run_223 : decode c_Md_run 223 = .ok (.aload_n 0, 1) := by decide +kernel
theorem d_Md_run_224 : decode c_Md_run 224 = .ok (.iload_n 2, 1) := by decide +kernel
theorem d_Md_run_225 : decode c_Md_run 225 = .ok (.iload 4, 2) := by decide +kernel
theorem d_Md_run_227 : decode c_Md_run 227 = .ok (.iload 5, 2) := by decide +kernel
theorem d_Md_run_229 : decode c_Md_run 229 = .ok (.iload 6, 2) := by decide +kernel
theorem d_Md_run_231 : decode c_Md_run 231 = .ok (.invokevirtual 123, 3) := by decide +kernel
theorem d_Md_run_234 : decode c_Md_run 234 = .ok (.bastore, 1) := by decide +kernel
theorem d_Md_run_235 : decode c_Md_run 235 = .ok (.iinc 4 1, 3) := by decide +kernel
theorem d_Md_run_238 : decode c_Md_run 238 = .ok (.goto (-190), 3) := by decide +kernel
theorem d_Md_run_241 : decode c_Md_run 241 = .ok (.return_, 1) := by decide +kernel
theorem d_Md_doSets_0 : decode c_Md_doSets 0 = .ok (.aload_n 0, 1) := by decide +kernel
theorem d_Md_doSets_1 : decode c_Md_doSets 1 = .ok (.getfield 38, 3) := by decide +kernel
theorem d_Md_doSets_4 : decode c_Md_doSets 4 = .ok (.iload_n 1, 1) := by decide +kernel
theorem d_Md_doSets_5 : decode c_Md_doSets 5 = .ok (.iaload, 1) := by decide +kernel
theorem d_Md_doSets_6 : decode c_Md_doSets 6 = .ok (.istore_n 3, 1) := by decide +kernel
theorem d_Md_doSets_7 : decode c_Md_doSets 7 = .ok (.aload_n 0, 1) := by decide +kernel
theorem d_Md_doSets_8 : decode c_Md_doSets 8 = .ok (.getfield 38, 3) := by decide +kernel
theorem d_Md_doSets_11 : decode c_Md_doSets 11 = .ok (.iload_n 2, 1) := by decide +kernel
theorem d_Md_doSets_12 : decode c_Md_doSets 12 = .ok (.iaload, 1) := by decide +kernel
theorem d_Md_doSets_13 : decode c_Md_doSets 13 = .ok (.istore 4, 2) := by decide +kernel
theorem d_Md_doSets_15 : decode c_Md_doSets 15 = .ok (.iconst 0, 1) := by decide +kernel
theorem d_Md_doSets_16 : decode c_Md_doSets 16 = .ok (.istore 5, 2) := by decide +kernel
theorem d_Md_doSets_18 : decode c_Md_doSets 18 = .ok (.iload 5, 2) := by decide +kernel
theorem d_Md_doSets_20 : decode c_Md_doSets 20 = .ok (.bipush 16, 2) := by decide +kernel
theorem d_Md_doSets_22 : decode c_Md_doSets 22 = .ok (.if_icmp .ge 39, 3) := by decide +kernel
theorem d_Md_doSets_25 : decode c_Md_doSets 25 = .ok (.aload_n 0, 1) := by decide +kernel
theorem d_Md_doSets_26 : decode c_Md_doSets 26 = .ok (.getfield 38, 3) := by decide +kernel
theorem d_Md_doSets_29 : decode c_Md_doSets 29 = .ok (.iload 5, 2) := by decide +kernel
theorem d_Md_doSets_31 : decode c_Md_doSets 31 = .ok (.aload_n 0, 1) := by decide +kernel
theorem d_Md_doSets_32 : decode c_Md_doSets 32 = .ok (.getfield 38, 3) := by decide +kernel
theorem d_Md_doSets_35 : decode c_Md_doSets 35 = .ok (.iload 5, 2) := by decide +kernel
theorem d_Md_doSets_37 : decode c_Md_doSets 37 = .ok (.iaload, 1) := by decide +kernel
theorem d_Md_doSets_38 : decode c_Md_doSets 38 = .ok (.iload_n 3, 1) := by decide +kernel
theorem d_Md_doSets_39 : decode c_Md_doSets 39 = .ok (.if_icmp .ne 8, 3) := by decide +kernel
theorem d_Md_doSets_42 : decode c_Md_doSets 42 = .ok (.iload 4, 2) := by decide +kernel
theorem d_Md_doSets_44 : decode c_Md_doSets 44 = .ok (.goto 10, 3) := by decide +kernel
theorem d_Md_doSets_47 : decode c_Md_doSets 47 = .ok (.aload_n 0, 1) := by decide +kernel
theorem d_Md_doSets_48 : decode c_Md_doSets 48 = .ok (.getfield 38, 3) := by decide +kernel
theorem d_Md_doSets_51 : decode c_Md_doSets 51 = .ok (.iload 5, 2) := by decide +kernel
theorem d_Md_doSets_53 : decode c_Md_doSets 53 = .ok (.iaload, 1) := by decide +kernel
theorem d_Md_doSets_54 : decode c_Md_doSets 54 = .ok (.iastore, 1) := by decide +kernel
theorem d_Md_doSets_55 : decode c_Md_doSets 55 = .ok (.iinc 5 1, 3) := by decide +kernel
theorem d_Md_doSets_58 : decode c_Md_doSets 58 = .ok (.goto (-40), 3) := by decide +kernel
theorem d_Md_doSets_61 : decode c_Md_doSets 61 = .ok (.aload_n 0, 1) := by decide +kernel
theorem d_Md_doSets_62 : decode c_Md_doSets 62 = .ok (.dup, 1) := by decide +kernel
theorem d_Md_doSets_63 : decode c_Md_doSets 63 = .ok (.getfield 101, 3) := by decide +kernel
theorem d_Md_doSets_66 : decode c_Md_doSets 66 = .ok (.iload_n 3, 1) := by decide +kernel
theorem d_Md_doSets_67 : decode c_Md_doSets 67 = .ok (.iload 4, 2) := by decide +kernel
theorem d_Md_doSets_69 : decode c_Md_doSets 69 = .ok (.if_icmp .ne 7, 3) := by decide +kernel
theorem d_Md_doSets_72 : decode c_Md_doSets 72 = .ok (.iconst 0, 1) := by decide +kernel
theorem d_Md_doSets_73 : decode c_Md_doSets 73 = .ok (.goto 4, 3) := by decide +kernel
theorem d_Md_doSets_76 : decode c_Md_doSets 76 = .ok (.iconst 1, 1) := by decide +kernel
theorem d_Md_doSets_77 : decode c_Md_doSets 77 = .ok (.isub, 1) := by decide +kernel
theorem d_Md_doSets_78 : decode c_Md_doSets 78 = .ok (.putfield 101, 3) := by decide +kernel
theorem d_Md_doSets_81 : decode c_Md_doSets 81 = .ok (.iload_n 3, 1) := by decide +kernel
theorem d_Md_doSets_82 : decode c_Md_doSets 82 = .ok (.iload 4, 2) := by decide +kernel
theorem d_Md_doSets_84 : decode c_Md_doSets 84 = .ok (.if_icmp .eq 7, 3) := by decide +kernel
theorem d_Md_doSets_87 : decode c_Md_doSets 87 = .ok (.iconst 1, 1) := by decide +kernel
theorem d_Md_doSets_88 : decode c_Md_doSets 88 = .ok (.goto 4, 3) := by decide +kernel
theorem d_Md_doSets_91 : decode c_Md_doSets 91 = .ok (.iconst 0, 1) := by decide +kernel
theorem d_Md_doSets_92 : decode c_Md_doSets 92 = .ok (.ireturn, 1) := by decide +kernel
theorem d_Md_doTable_0 : decode c_Md_doTable 0 = .ok (.aload_n 0, 1) := by decide +kernel
theorem d_Md_doTable_1 : decode c_Md_doTable 1 = .ok (.iload_n 3, 1) := by decide +kernel
theorem d_Md_doTable_2 : decode c_Md_doTable 2 = .ok (.invokevirtual 110, 3) := by decide +kernel
theorem d_Md_doTable_5 : decode c_Md_doTable 5 = .ok (.istore 5, 2) := by decide +kernel
theorem d_Md_doTable_7 : decode c_Md_doTable 7 = .ok (.iload_n 2, 1) := by decide +kernel
theorem d_Md_doTable_8 : decode c_Md_doTable 8 = .ok (.iconst 1, 1) := by decide +kernel
theorem d_Md_doTable_9 : decode c_Md_doTable 9 = .ok (.if_icmp .ne 7, 3) := by decide +kernel
theorem d_Md_doTable_12 : decode c_Md_doTable 12 = .ok (.iconst 1, 1) := by decide +kernel
theorem d_Md_doTable_13 : decode c_Md_doTable 13 = .ok (.goto 4, 3) := by decide +kernel
theorem d_Md_doTable_16 : decode c_Md_doTable 16 = .ok (.iconst 0, 1) := by decide +kernel
theorem d_Md_doTable_17 : decode c_Md_doTable 17 = .ok (.iload 5, 2) := by decide +kernel
theorem d_Md_doTable_19 : decode c_Md_doTable 19 = .ok (.ifCond .lt 7, 3) := by decide +kernel
theorem d_Md_doTable_22 : decode c_Md_doTable 22 = .ok (.iconst 1, 1) := by decide +kernel
theorem d_Md_doTable_23 : decode c_Md_doTable 23 = .ok (.goto 4, 3) := by decide +kernel
theorem d_Md_doTable_26 : decode c_Md_doTable 26 = .ok (.iconst 0, 1) := by decide +kernel
theorem d_Md_doTable_27 : decode c_Md_doTable 27 = .ok (.if_icmp .ne 5, 3) := by decide +kernel
theorem d_Md_doTable_30 : decode c_Md_doTable 30 = .ok (.iconst 0, 1) := by decide +kernel
theorem d_Md_doTable_31 : decode c_Md_doTable 31 = .ok (.ireturn, 1) := by decide +kernel
theorem d_Md_doTable_32 : decode c_Md_doTable 32 = .ok (.iload_n 2, 1) := by decide +kernel
theorem d_Md_doTable_33 : decode c_Md_doTable 33 = .ok (.iconst 1, 1) := by decide +kernel
theorem d_Md_doTable_34 : decode c_Md_doTable 34 = .ok (.if_icmp .ne 37, 3) := by decide +kernel
theorem d_Md_doTable_37 : decode c_Md_doTable 37 = .ok (.aload_n 0, 1) := by decide +kernel
theorem d_Md_doTable_38 : decode c_Md_doTable 38 = .ok (.getfield 32, 3) := by decide +kernel
theorem d_Md_doTable_41 : decode c_Md_doTable 41 = .ok (.aload_n 0, 1) := by decide +kernel
theorem d_Md_doTable_42 : decode c_Md_doTable 42 = .ok (.getfield 101, 3) := by decide +kernel
theorem d_Md_doTable_45 : decode c_Md_doTable 45 = .ok (.iload_n 3, 1) := by decide +kernel
theorem d_Md_doTable_46 : decode c_Md_doTable 46 = .ok (.iastore, 1) := by decide +kernel
theorem d_Md_doTable_47 : decode c_Md_doTable 47 = .ok (.aload_n 0, 1) := by decide +kernel
theorem d_Md_doTable_48 : decode c_Md_doTable 48 = .ok (.getfield 35, 3) := by decide +kernel
theorem d_Md_doTable_51 : decode c_Md_doTable 51 = .ok (.aload_n 0, 1) := by decide +kernel
theorem d_Md_doTable_52 : decode c_Md_doTable 52 = .ok (.getfield 101, 3) := by decide +kernel
theorem d_Md_doTable_55 : decode c_Md_doTable 55 = .ok (.iload 4, 2) := by decide +kernel
theorem d_Md_doTable_57 : decode c_Md_doTable 57 = .ok (.iastore, 1) := by decide +kernel
theorem d_Md_doTable_58 : decode c_Md_doTable 58 = .ok (.aload_n 0, 1) := by decide +kernel
theorem d_Md_doTable_59 : decode c_Md_doTable 59 = .ok (.dup, 1) := by decide +kernel
theorem d_Md_doTable_60 : decode c_Md_doTable 60 = .ok (.getfield 101, 3) := by decide +kernel
theorem d_Md_doTable_63 : decode c_Md_doTable 63 = .ok (.iconst 1, 1) := by decide +kernel
theorem d_Md_doTable_64 : decode c_Md_doTable 64 = .ok (.iadd, 1) := by decide +kernel
theorem d_Md_doTable_65 : decode c_Md_doTable 65 = .ok (.putfield 101, 3) := by decide +kernel
theorem d_Md_doTable_68 : decode c_Md_doTable 68 = .ok (.goto 23, 3) := by decide +kernel
theorem d_Md_doTable_71 : decode c_Md_doTable 71 = .ok (.aload_n 0, 1) := by decide +kernel
theorem d_Md_doTable_72 : decode c_Md_doTable 72 = .ok (.getfield 41, 3) := by decide +kernel
theorem d_Md_doTable_75 : decode c_Md_doTable 75 = .ok (.iload_n 1, 1) := by decide +kernel
theorem d_Md_doTable_76 : decode c_Md_doTable 76 = .ok (.aload_n 0, 1) := by decide +kernel
theorem d_Md_doTable_77 : decode c_Md_doTable 77 = .ok (.getfield 35, 3) := by decide +kernel
theorem d_Md_doTable_80 : decode c_Md_doTable 80 = .ok (.iload 5, 2) := by decide +kernel
theorem d_Md_doTable_82 : decode c_Md_doTable 82 = .ok (.iaload, 1) := by decide +kernel
theorem d_Md_doTable_83 : decode c_Md_doTable 83 = .ok (.i2l, 1) := by decide +kernel
theorem d_Md_doTable_84 : decode c_Md_doTable 84 = .ok (.lastore, 1) := by decide +kernel
theorem d_Md_doTable_85 : decode c_Md_doTable 85 = .ok (.aload_n 0, 1) := by decide +kernel
theorem d_Md_doTable_86 : decode c_Md_doTable 86 = .ok (.iload 5, 2) := by decide +kernel
theorem d_Md_doTable_88 : decode c_Md_doTable 88 = .ok (.invokevirtual 107, 3) := by decide +kernel
theorem d_Md_doTable_91 : decode c_Md_doTable 91 = .ok (.iconst 1, 1) := by decide +kernel
theorem d_Md_doTable_92 : decode c_Md_doTable 92 = .ok (.ireturn, 1) := by decide +kernel
theorem d_Md_keyAt_0 : decode c_Md_keyAt 0 = .ok (.iconst (-1), 1) := by decide +kernel
theorem d_Md_keyAt_1 : decode c_Md_keyAt 1 = .ok (.istore_n 2, 1) := by decide +kernel
theorem d_Md_keyAt_2 : decode c_Md_keyAt 2 = .ok (.iconst 0, 1) := by decide +kernel
theorem d_Md_keyAt_3 : decode c_Md_keyAt 3 = .ok (.istore_n 3, 1) := by decide +kernel
theorem d_Md_keyAt_4 : decode c_Md_keyAt 4 = .ok (.iload_n 3, 1) := by decide +kernel
theorem d_Md_keyAt_5 : decode c_Md_keyAt 5 = .ok (.aload_n 0, 1) := by decide +kernel
theorem d_Md_keyAt_6 : decode c_Md_keyAt 6 = .ok (.getfield 101, 3) := by decide +kernel
theorem d_Md_keyAt_9 : decode c_Md_keyAt 9 = .ok (.if_icmp .ge 25, 3) := by decide +kernel
theorem d_Md_keyAt_12 : decode c_Md_keyAt 12 = .ok (.aload_n 0, 1) := by decide +kernel
theorem d_Md_keyAt_13 : decode c_Md_keyAt 13 = .ok (.getfield 32, 3) := by decide +kernel
theorem d_Md_keyAt_16 : decode c_Md_keyAt 16 = .ok (.iload_n 3, 1) := by decide +kernel
theorem d_Md_keyAt_17 : decode c_Md_keyAt 17 = .ok (.iaload, 1) := by decide +kernel
theorem d_Md_keyAt_18 : decode c_Md_keyAt 18 = .ok (.iload_n 1, 1) := by decide +kernel
theorem d_Md_keyAt_19 : decode c_Md_keyAt 19 = .ok (.if_icmp .ne 7, 3) := by decide +kernel
theorem d_Md_keyAt_22 : decode c_Md_keyAt 22 = .ok (.iload_n 3, 1) := by decide +kernel
theorem d_Md_keyAt_23 : decode c_Md_keyAt 23 = .ok (.goto 4, 3) := by decide +kernel
theorem d_Md_keyAt_26 : decode c_Md_keyAt 26 = .ok (.iload_n 2, 1) := by decide +kernel
theorem d_Md_keyAt_27 : decode c_Md_keyAt 27 = .ok (.istore_n 2, 1) := by decide +kernel
theorem d_Md_keyAt_28 : decode c_Md_keyAt 28 = .ok (.iinc 3 1, 3) := by decide +kernel
theorem d_Md_keyAt_31 : decode c_Md_keyAt 31 = .ok (.goto (-27), 3) := by decide +kernel
theorem d_Md_keyAt_34 : decode c_Md_keyAt 34 = .ok (.iload_n 2, 1) := by decide +kernel
theorem d_Md_keyAt_35 : decode c_Md_keyAt 35 = .ok (.ireturn, 1) := by decide +kernel
theorem d_Md_takeOut_0 : decode c_Md_takeOut 0 = .ok (.aload_n 0, 1) := by decide +kernel
theorem d_Md_takeOut_1 : decode c_Md_takeOut 1 = .ok (.dup, 1) := by decide +kernel
theorem d_Md_takeOut_2 : decode c_Md_takeOut 2 = .ok (.getfield 101, 3) := by decide +kernel
theorem d_Md_takeOut_5 : decode c_Md_takeOut 5 = .ok (.iconst 1, 1) := by decide +kernel
theorem d_Md_takeOut_6 : decode c_Md_takeOut 6 = .ok (.isub, 1) := by decide +kernel
theorem d_Md_takeOut_7 : decode c_Md_takeOut 7 = .ok (.putfield 101, 3) := by decide +kernel
theorem d_Md_takeOut_10 : decode c_Md_takeOut 10 = .ok (.iload_n 1, 1) := by decide +kernel
theorem d_Md_takeOut_11 : decode c_Md_takeOut 11 = .ok (.istore_n 2, 1) := by decide +kernel
theorem d_Md_takeOut_12 : decode c_Md_takeOut 12 = .ok (.iload_n 2, 1) := by decide +kernel
theorem d_Md_takeOut_13 : decode c_Md_takeOut 13 = .ok (.aload_n 0, 1) := by decide +kernel
theorem d_Md_takeOut_14 : decode c_Md_takeOut 14 = .ok (.getfield 101, 3) := by decide +kernel
theorem d_Md_takeOut_17 : decode c_Md_takeOut 17 = .ok (.if_icmp .ge 37, 3) := by decide +kernel
theorem d_Md_takeOut_20 : decode c_Md_takeOut 20 = .ok (.aload_n 0, 1) := by decide +kernel
theorem d_Md_takeOut_21 : decode c_Md_takeOut 21 = .ok (.getfield 32, 3) := by decide +kernel
theorem d_Md_takeOut_24 : decode c_Md_takeOut 24 = .ok (.iload_n 2, 1) := by decide +kernel
theorem d_Md_takeOut_25 : decode c_Md_takeOut 25 = .ok (.aload_n 0, 1) := by decide +kernel
theorem d_Md_takeOut_26 : decode c_Md_takeOut 26 = .ok (.getfield 32, 3) := by decide +kernel
theorem d_Md_takeOut_29 : decode c_Md_takeOut 29 = .ok (.iload_n 2, 1) := by decide +kernel
theorem d_Md_takeOut_30 : decode c_Md_takeOut 30 = .ok (.iconst 1, 1) := by decide +kernel
theorem d_Md_takeOut_31 : decode c_Md_takeOut 31 = .ok (.iadd, 1) := by decide +kernel
theorem d_Md_takeOut_32 : decode c_Md_takeOut 32 = .ok (.iaload, 1) := by decide +kernel
theorem d_Md_takeOut_33 : decode c_Md_takeOut 33 = .ok (.iastore, 1) := by decide +kernel
theorem d_Md_takeOut_34 : decode c_Md_takeOut 34 = .ok (.aload_n 0, 1) := by decide +kernel
theorem d_Md_takeOut_35 : decode c_Md_takeOut 35 = .ok (.getfield 35, 3) := by decide +kernel
theorem d_Md_takeOut_38 : decode c_Md_takeOut 38 = .ok (.iload_n 2, 1) := by decide +kernel
theorem d_Md_takeOut_39 : decode c_Md_takeOut 39 = .ok (.aload_n 0, 1) := by decide +kernel
theorem d_Md_takeOut_40 : decode c_Md_takeOut 40 = .ok (.getfield 35, 3) := by decide +kernel
theorem d_Md_takeOut_43 : decode c_Md_takeOut 43 = .ok (.iload_n 2, 1) := by decide +kernel
theorem d_Md_takeOut_44 : decode c_Md_takeOut 44 = .ok (.iconst 1, 1) := by decide +kernel
theorem d_Md_takeOut_45 : decode c_Md_takeOut 45 = .ok (.iadd, 1) := by decide +kernel
theorem d_Md_takeOut_46 : decode c_Md_takeOut 46 = .ok (.iaload, 1) := by decide +kernel
theorem d_Md_takeOut_47 : decode c_Md_takeOut 47 = .ok (.iastore, 1) := by decide +kernel
theorem d_Md_takeOut_48 : decode c_Md_takeOut 48 = .ok (.iinc 2 1, 3) := by decide +kernel
theorem d_Md_takeOut_51 : decode c_Md_takeOut 51 = .ok (.goto (-39), 3) := by decide +kernel
theorem d_Md_takeOut_54 : decode c_Md_takeOut 54 = .ok (.return_, 1) := by decide +kernel
theorem d_Md_doBag_0 : decode c_Md_doBag 0 = .ok (.iload_n 3, 1) := by decide +kernel
theorem d_Md_doBag_1 : decode c_Md_doBag 1 = .ok (.iconst 1, 1) := by decide +kernel
theorem d_Md_doBag_2 : decode c_Md_doBag 2 = .ok (.if_icmp .ne 26, 3) := by decide +kernel
theorem d_Md_doBag_5 : decode c_Md_doBag 5 = .ok (.aload_n 0, 1) := by decide +kernel
theorem d_Md_doBag_6 : decode c_Md_doBag 6 = .ok (.getfield 32, 3) := by decide +kernel
theorem d_Md_doBag_9 : decode c_Md_doBag 9 = .ok (.aload_n 0, 1) := by decide +kernel
theorem d_Md_doBag_10 : decode c_Md_doBag 10 = .ok (.getfield 101, 3) := by decide +kernel
theorem d_Md_doBag_13 : decode c_Md_doBag 13 = .ok (.iload 4, 2) := by decide +kernel
theorem d_Md_doBag_15 : decode c_Md_doBag 15 = .ok (.iastore, 1) := by decide +kernel
theorem d_Md_doBag_16 : decode c_Md_doBag 16 = .ok (.aload_n 0, 1) := by decide +kernel
theorem d_Md_doBag_17 : decode c_Md_doBag 17 = .ok (.dup, 1) := by decide +kernel
theorem d_Md_doBag_18 : decode c_Md_doBag 18 = .ok (.getfield 101, 3) := by decide +kernel
theorem d_Md_doBag_21 : decode c_Md_doBag 21 = .ok (.iconst 1, 1) := by decide +kernel
theorem d_Md_doBag_22 : decode c_Md_doBag 22 = .ok (.iadd, 1) := by decide +kernel
theorem d_Md_doBag_23 : decode c_Md_doBag 23 = .ok (.putfield 101, 3) := by decide +kernel
theorem d_Md_doBag_26 : decode c_Md_doBag 26 = .ok (.iconst 1, 1) := by decide +kernel
theorem d_Md_doBag_27 : decode c_Md_doBag 27 = .ok (.ireturn, 1) := by decide +kernel
theorem d_Md_doBag_28 : decode c_Md_doBag 28 = .ok (.aload_n 0, 1) := by decide +kernel
theorem d_Md_doBag_29 : decode c_Md_doBag 29 = .ok (.getfield 101, 3) := by decide +kernel
theorem d_Md_doBag_32 : decode c_Md_doBag 32 = .ok (.ifCond .ne 5, 3) := by decide +kernel
theorem d_Md_doBag_35 : decode c_Md_doBag 35 = .ok (.iconst 0, 1) := by decide +kernel
theorem d_Md_doBag_36 : decode c_Md_doBag 36 = .ok (.ireturn, 1) := by decide +kernel
theorem d_Md_doBag_37 : decode c_Md_doBag 37 = .ok (.aload_n 0, 1) := by decide +kernel
theorem d_Md_doBag_38 : decode c_Md_doBag 38 = .ok (.iload_n 1, 1) := by decide +kernel
theorem d_Md_doBag_39 : decode c_Md_doBag 39 = .ok (.invokevirtual 104, 3) := by decide +kernel
theorem d_Md_doBag_42 : decode c_Md_doBag 42 = .ok (.istore 5, 2) := by decide +kernel
theorem d_Md_doBag_44 : decode c_Md_doBag 44 = .ok (.aload_n 0, 1) := by decide +kernel
theorem d_Md_doBag_45 : decode c_Md_doBag 45 = .ok (.getfield 41, 3) := by decide +kernel
theorem d_Md_doBag_48 : decode c_Md_doBag 48 = .ok (.iload_n 2, 1) := by decide +kernel
theorem d_Md_doBag_49 : decode c_Md_doBag 49 = .ok (.aload_n 0, 1) := by decide +kernel
theorem d_Md_doBag_50 : decode c_Md_doBag 50 = .ok (.getfield 32, 3) := by decide +kernel
theorem d_Md_doBag_53 : decode c_Md_doBag 53 = .ok (.iload 5, 2) := by decide +kernel
theorem d_Md_doBag_55 : decode c_Md_doBag 55 = .ok (.iaload, 1) := by decide +kernel
theorem d_Md_doBag_56 : decode c_Md_doBag 56 = .ok (.i2l, 1) := by decide +kernel
theorem d_Md_doBag_57 : decode c_Md_doBag 57 = .ok (.lastore, 1) := by decide +kernel
theorem d_Md_doBag_58 : decode c_Md_doBag 58 = .ok (.aload_n 0, 1) := by decide +kernel
theorem d_Md_doBag_59 : decode c_Md_doBag 59 = .ok (.iload 5, 2) := by decide +kernel
theorem d_Md_doBag_61 : decode c_Md_doBag 61 = .ok (.invokevirtual 107, 3) := by decide +kernel
theorem d_Md_doBag_64 : decode c_Md_doBag 64 = .ok (.iconst 1, 1) := by decide +kernel
theorem d_Md_doBag_65 : decode c_Md_doBag 65 = .ok (.ireturn, 1) := by decide +kernel
theorem d_Md_nextOf_0 : decode c_Md_nextOf 0 = .ok (.iload_n 1, 1) := by decide +kernel
theorem d_Md_nextOf_1 : decode c_Md_nextOf 1 = .ok (.iconst 1, 1) := by decide +kernel
theorem d_Md_nextOf_2 : decode c_Md_nextOf 2 = .ok (.if_icmp .ne 12, 3) := by decide +kernel
theorem d_Md_nextOf_5 : decode c_Md_nextOf 5 = .ok (.aload_n 0, 1) := by decide +kernel
theorem d_Md_nextOf_6 : decode c_Md_nextOf 6 = .ok (.getfield 101, 3) := by decide +kernel
theorem d_Md_nextOf_9 : decode c_Md_nextOf 9 = .ok (.iconst 1, 1) := by decide +kernel
theorem d_Md_nextOf_10 : decode c_Md_nextOf 10 = .ok (.isub, 1) := by decide +kernel
theorem d_Md_nextOf_11 : decode c_Md_nextOf 11 = .ok (.goto 4, 3) := by decide +kernel
theorem d_Md_nextOf_14 : decode c_Md_nextOf 14 = .ok (.iconst 0, 1) := by decide +kernel
theorem d_Md_nextOf_15 : decode c_Md_nextOf 15 = .ok (.istore_n 2, 1) := by decide +kernel
theorem d_Md_nextOf_16 : decode c_Md_nextOf 16 = .ok (.iconst 0, 1) := by decide +kernel
theorem d_Md_nextOf_17 : decode c_Md_nextOf 17 = .ok (.istore_n 3, 1) := by decide +kernel
theorem d_Md_nextOf_18 : decode c_Md_nextOf 18 = .ok (.iload_n 3, 1) := by decide +kernel
theorem d_Md_nextOf_19 : decode c_Md_nextOf 19 = .ok (.aload_n 0, 1) := by decide +kernel
theorem d_Md_nextOf_20 : decode c_Md_nextOf 20 = .ok (.getfield 101, 3) := by decide +kernel
theorem d_Md_nextOf_23 : decode c_Md_nextOf 23 = .ok (.if_icmp .ge 35, 3) := by decide +kernel
theorem d_Md_nextOf_26 : decode c_Md_nextOf 26 = .ok (.iload_n 1, 1) := by decide +kernel
theorem d_Md_nextOf_27 : decode c_Md_nextOf 27 = .ok (.iconst 3, 1) := by decide +kernel
theorem d_Md_nextOf_28 : decode c_Md_nextOf 28 = .ok (.if_icmp .ne 30, 3) := by decide +kernel
theorem d_Md_nextOf_31 : decode c_Md_nextOf 31 = .ok (.aload_n 0, 1) := by decide +kernel
theorem d_Md_nextOf_32 : decode c_Md_nextOf 32 = .ok (.getfield 32, 3) := by decide +kernel
theorem d_Md_nextOf_35 : decode c_Md_nextOf 35 = .ok (.iload_n 3, 1) := by decide +kernel
theorem d_Md_nextOf_36 : decode c_Md_nextOf 36 = .ok (.iaload, 1) := by decide +kernel
theorem d_Md_nextOf_37 : decode c_Md_nextOf 37 = .ok (.aload_n 0, 1) := by decide +kernel
theorem d_Md_nextOf_38 : decode c_Md_nextOf 38 = .ok (.getfield 32, 3) := by decide +kernel
theorem d_Md_nextOf_41 : decode c_Md_nextOf 41 = .ok (.iload_n 2, 1) := by decide +kernel
theorem d_Md_nextOf_42 : decode c_Md_nextOf 42 = .ok (.iaload, 1) := by decide +kernel
theorem d_Md_nextOf_43 : decode c_Md_nextOf 43 = .ok (.if_icmp .ge 7, 3) := by decide +kernel
theorem d_Md_nextOf_46 : decode c_Md_nextOf 46 = .ok (.iload_n 3, 1) := by decide +kernel
theorem d_Md_nextOf_47 : decode c_Md_nextOf 47 = .ok (.goto 4, 3) := by decide +kernel
theorem d_Md_nextOf_50 : decode c_Md_nextOf 50 = .ok (.iload_n 2, 1) := by decide +kernel
theorem d_Md_nextOf_51 : decode c_Md_nextOf 51 = .ok (.istore_n 2, 1) := by decide +kernel
theorem d_Md_nextOf_52 : decode c_Md_nextOf 52 = .ok (.iinc 3 1, 3) := by decide +kernel
theorem d_Md_nextOf_55 : decode c_Md_nextOf 55 = .ok (.goto (-37), 3) := by decide +kernel
theorem d_Md_nextOf_58 : decode c_Md_nextOf 58 = .ok (.iload_n 2, 1) := by decide +kernel
theorem d_Md_nextOf_59 : decode c_Md_nextOf 59 = .ok (.ireturn, 1) := by decide +kernel
theorem d_Md_size_0 : decode c_Md_size 0 = .ok (.aload_n 0, 1) := by decide +kernel
theorem d_Md_size_1 : decode c_Md_size 1 = .ok (.iload_n 1, 1) := by decide +kernel
theorem d_Md_size_2 : decode c_Md_size 2 = .ok (.iload_n 2, 1) := by decide +kernel
theorem d_Md_size_3 : decode c_Md_size 3 = .ok (.bipush 47, 2) := by decide +kernel
theorem d_Md_size_5 : decode c_Md_size 5 = .ok (.invokevirtual 130, 3) := by decide +kernel
theorem d_Md_size_8 : decode c_Md_size 8 = .ok (.ifCond .eq 7, 3) := by decide +kernel
theorem d_Md_size_11 : decode c_Md_size 11 = .ok (.iconst 0, 1) := by decide +kernel
theorem d_Md_size_12 : decode c_Md_size 12 = .ok (.goto 7, 3) := by decide +kernel
theorem d_Md_size_15 : decode c_Md_size 15 = .ok (.aload_n 0, 1) := by decide +kernel
theorem d_Md_size_16 : decode c_Md_size 16 = .ok (.getfield 101, 3) := by decide +kernel
theorem d_Md_size_19 : decode c_Md_size 19 = .ok (.ireturn, 1) := by decide +kernel
theorem d_Md_at_0 : decode c_Md_at 0 = .ok (.aload_n 0, 1) := by decide +kernel
theorem d_Md_at_1 : decode c_Md_at 1 = .ok (.iload_n 1, 1) := by decide +kernel
theorem d_Md_at_2 : decode c_Md_at 2 = .ok (.iload_n 2, 1) := by decide +kernel
theorem d_Md_at_3 : decode c_Md_at 3 = .ok (.iconst 4, 1) := by decide +kernel
theorem d_Md_at_4 : decode c_Md_at 4 = .ok (.invokevirtual 130, 3) := by decide +kernel
theorem d_Md_at_7 : decode c_Md_at 7 = .ok (.ifCond .eq 5, 3) := by decide +kernel
theorem d_Md_at_10 : decode c_Md_at 10 = .ok (.iconst 0, 1) := by decide +kernel
theorem d_Md_at_11 : decode c_Md_at 11 = .ok (.ireturn, 1) := by decide +kernel
theorem d_Md_at_12 : decode c_Md_at 12 = .ok (.aload_n 0, 1) := by decide +kernel
theorem d_Md_at_13 : decode c_Md_at 13 = .ok (.aload_n 0, 1) := by decide +kernel
theorem d_Md_at_14 : decode c_Md_at 14 = .ok (.iload_n 3, 1) := by decide +kernel
theorem d_Md_at_15 : decode c_Md_at 15 = .ok (.invokevirtual 110, 3) := by decide +kernel
theorem d_Md_at_18 : decode c_Md_at 18 = .ok (.ifCond .ge 7, 3) := by decide +kernel
theorem d_Md_at_21 : decode c_Md_at 21 = .ok (.iconst 3, 1) := by decide +kernel
theorem d_Md_at_22 : decode c_Md_at 22 = .ok (.goto 4, 3) := by decide +kernel
theorem d_Md_at_25 : decode c_Md_at 25 = .ok (.iconst 0, 1) := by decide +kernel
theorem d_Md_at_26 : decode c_Md_at 26 = .ok (.putfield 54, 3) := by decide +kernel
theorem d_Md_at_29 : decode c_Md_at 29 = .ok (.aload_n 0, 1) := by decide +kernel
theorem d_Md_at_30 : decode c_Md_at 30 = .ok (.getfield 54, 3) := by decide +kernel
theorem d_Md_at_33 : decode c_Md_at 33 = .ok (.ifCond .le 7, 3) := by decide +kernel
theorem d_Md_at_36 : decode c_Md_at 36 = .ok (.iconst 0, 1) := by decide +kernel
theorem d_Md_at_37 : decode c_Md_at 37 = .ok (.goto 13, 3) := by decide +kernel
theorem d_Md_at_40 : decode c_Md_at 40 = .ok (.aload_n 0, 1) := by decide +kernel
theorem d_Md_at_41 : decode c_Md_at 41 = .ok (.getfield 35, 3) := by decide +kernel
theorem d_Md_at_44 : decode c_Md_at 44 = .ok (.aload_n 0, 1) := by decide +kernel
theorem d_Md_at_45 : decode c_Md_at 45 = .ok (.iload_n 3, 1) := by decide +kernel
theorem d_Md_at_46 : decode c_Md_at 46 = .ok (.invokevirtual 110, 3) := by decide +kernel
theorem d_Md_at_49 : decode c_Md_at 49 = .ok (.iaload, 1) := by decide +kernel
theorem d_Md_at_50 : decode c_Md_at 50 = .ok (.ireturn, 1) := by decide +kernel
theorem d_Md_least_0 : decode c_Md_least 0 = .ok (.aload_n 0, 1) := by decide +kernel
theorem d_Md_least_1 : decode c_Md_least 1 = .ok (.iload_n 1, 1) := by decide +kernel
theorem d_Md_least_2 : decode c_Md_least 2 = .ok (.iload_n 2, 1) := by decide +kernel
theorem d_Md_least_3 : decode c_Md_least 3 = .ok (.bipush 8, 2) := by decide +kernel
theorem d_Md_least_5 : decode c_Md_least 5 = .ok (.invokevirtual 130, 3) := by decide +kernel
theorem d_Md_least_8 : decode c_Md_least 8 = .ok (.ifCond .eq 5, 3) := by decide +kernel
theorem d_Md_least_11 : decode c_Md_least 11 = .ok (.iconst 0, 1) := by decide +kernel
theorem d_Md_least_12 : decode c_Md_least 12 = .ok (.ireturn, 1) := by decide +kernel
theorem d_Md_least_13 : decode c_Md_least 13 = .ok (.aload_n 0, 1) := by decide +kernel
theorem d_Md_least_14 : decode c_Md_least 14 = .ok (.iload_n 3, 1) := by decide +kernel
theorem d_Md_least_15 : decode c_Md_least 15 = .ok (.ifCond .lt 11, 3) := by decide +kernel
theorem d_Md_least_18 : decode c_Md_least 18 = .ok (.iload_n 3, 1) := by decide +kernel
theorem d_Md_least_19 : decode c_Md_least 19 = .ok (.aload_n 0, 1) := by decide +kernel
theorem d_Md_least_20 : decode c_Md_least 20 = .ok (.getfield 101, 3) := by decide +kernel
theorem d_Md_least_23 : decode c_Md_least 23 = .ok (.if_icmp .lt 7, 3) := by decide +kernel
theorem d_Md_least_26 : decode c_Md_least 26 = .ok (.iconst 3, 1) := by decide +kernel
theorem d_Md_least_27 : decode c_Md_least 27 = .ok (.goto 4, 3) := by decide +kernel
theorem d_Md_least_30 : decode c_Md_least 30 = .ok (.iconst 0, 1) := by decide +kernel
theorem d_Md_least_31 : decode c_Md_least 31 = .ok (.putfield 54, 3) := by decide +kernel
theorem d_Md_least_34 : decode c_Md_least 34 = .ok (.iconst 0, 1) := by decide +kernel
theorem d_Md_least_35 : decode c_Md_least 35 = .ok (.istore 4, 2) := by decide +kernel
theorem d_Md_least_37 : decode c_Md_least 37 = .ok (.iload 4, 2) := by decide +kernel
theorem d_Md_least_39 : decode c_Md_least 39 = .ok (.iload_n 3, 1) := by decide +kernel
theorem d_Md_least_40 : decode c_Md_least 40 = .ok (.if_icmp .ge 25, 3) := by decide +kernel
theorem d_Md_least_43 : decode c_Md_least 43 = .ok (.aload_n 0, 1) := by decide +kernel
theorem d_Md_least_44 : decode c_Md_least 44 = .ok (.getfield 54, 3) := by decide +kernel
theorem d_Md_least_47 : decode c_Md_least 47 = .ok (.ifCond .ne 18, 3) := by decide +kernel
theorem d_Md_least_50 : decode c_Md_least 50 = .ok (.aload_n 0, 1) := by decide +kernel
theorem d_Md_least_51 : decode c_Md_least 51 = .ok (.aload_n 0, 1) := by decide +kernel
theorem d_Md_least_52 : decode c_Md_least 52 = .ok (.iconst 3, 1) := by decide +kernel
theorem d_Md_least_53 : decode c_Md_least 53 = .ok (.invokevirtual 104, 3) := by decide +kernel
theorem d_Md_least_56 : decode c_Md_least 56 = .ok (.invokevirtual 107, 3) := by decide +kernel
theorem d_Md_least_59 : decode c_Md_least 59 = .ok (.iinc 4 1, 3) := by decide +kernel
theorem d_Md_least_62 : decode c_Md_least 62 = .ok (.goto (-25), 3) := by decide +kernel
theorem d_Md_least_65 : decode c_Md_least 65 = .ok (.aload_n 0, 1) := by decide +kernel
theorem d_Md_least_66 : decode c_Md_least 66 = .ok (.getfield 54, 3) := by decide +kernel
theorem d_Md_least_69 : decode c_Md_least 69 = .ok (.ifCond .le 7, 3) := by decide +kernel
theorem d_Md_least_72 : decode c_Md_least 72 = .ok (.iconst 0, 1) := by decide +kernel
theorem d_Md_least_73 : decode c_Md_least 73 = .ok (.goto 13, 3) := by decide +kernel
theorem d_Md_least_76 : decode c_Md_least 76 = .ok (.aload_n 0, 1) := by decide +kernel
theorem d_Md_least_77 : decode c_Md_least 77 = .ok (.getfield 32, 3) := by decide +kernel
theorem d_Md_least_80 : decode c_Md_least 80 = .ok (.aload_n 0, 1) := by decide +kernel
theorem d_Md_least_81 : decode c_Md_least 81 = .ok (.iconst 3, 1) := by decide +kernel
theorem d_Md_least_82 : decode c_Md_least 82 = .ok (.invokevirtual 104, 3) := by decide +kernel
theorem d_Md_least_85 : decode c_Md_least 85 = .ok (.iaload, 1) := by decide +kernel
theorem d_Md_least_86 : decode c_Md_least 86 = .ok (.ireturn, 1) := by decide +kernel
theorem d_Md_sum_0 : decode c_Md_sum 0 = .ok (.aload_n 0, 1) := by decide +kernel
theorem d_Md_sum_1 : decode c_Md_sum 1 = .ok (.iload_n 1, 1) := by decide +kernel
theorem d_Md_sum_2 : decode c_Md_sum 2 = .ok (.iload_n 2, 1) := by decide +kernel
theorem d_Md_sum_3 : decode c_Md_sum 3 = .ok (.bipush 16, 2) := by decide +kernel
theorem d_Md_sum_5 : decode c_Md_sum 5 = .ok (.invokevirtual 130, 3) := by decide +kernel
theorem d_Md_sum_8 : decode c_Md_sum 8 = .ok (.ifCond .eq 7, 3) := by decide +kernel
theorem d_Md_sum_11 : decode c_Md_sum 11 = .ok (.lconst 0, 1) := by decide +kernel
theorem d_Md_sum_12 : decode c_Md_sum 12 = .ok (.goto 7, 3) := by decide +kernel
theorem d_Md_sum_15 : decode c_Md_sum 15 = .ok (.aload_n 0, 1) := by decide +kernel
theorem d_Md_sum_16 : decode c_Md_sum 16 = .ok (.getfield 113, 3) := by decide +kernel
theorem d_Md_sum_19 : decode c_Md_sum 19 = .ok (.lreturn, 1) := by decide +kernel
theorem d_Md_together_0 : decode c_Md_together 0 = .ok (.iload_n 3, 1) := by decide +kernel
theorem d_Md_together_1 : decode c_Md_together 1 = .ok (.ifCond .lt 21, 3) := by decide +kernel
theorem d_Md_together_4 : decode c_Md_together 4 = .ok (.iload_n 3, 1) := by decide +kernel
theorem d_Md_together_5 : decode c_Md_together 5 = .ok (.bipush 15, 2) := by decide +kernel
theorem d_Md_together_7 : decode c_Md_together 7 = .ok (.if_icmp .gt 15, 3) := by decide +kernel
theorem d_Md_together_10 : decode c_Md_together 10 = .ok (.iload 4, 2) := by decide +kernel
theorem d_Md_together_12 : decode c_Md_together 12 = .ok (.ifCond .lt 10, 3) := by decide +kernel
theorem d_Md_together_15 : decode c_Md_together 15 = .ok (.iload 4, 2) := by decide +kernel
theorem d_Md_together_17 : decode c_Md_together 17 = .ok (.bipush 15, 2) := by decide +kernel
theorem d_Md_together_19 : decode c_Md_together 19 = .ok (.if_icmp .le 10, 3) := by decide +kernel
theorem d_Md_together_22 : decode c_Md_together 22 = .ok (.aload_n 0, 1) := by decide +kernel
theorem d_Md_together_23 : decode c_Md_together 23 = .ok (.iconst 1, 1) := by decide +kernel
theorem d_Md_together_24 : decode c_Md_together 24 = .ok (.putfield 54, 3) := by decide +kernel
theorem d_Md_together_27 : decode c_Md_together 27 = .ok (.iconst 0, 1) := by decide +kernel
theorem d_Md_together_28 : decode c_Md_together 28 = .ok (.ireturn, 1) := by decide +kernel
theorem d_Md_together_29 : decode c_Md_together 29 = .ok (.aload_n 0, 1) := by decide +kernel
theorem d_Md_together_30 : decode c_Md_together 30 = .ok (.iload_n 1, 1) := by decide +kernel
theorem d_Md_together_31 : decode c_Md_together 31 = .ok (.iload_n 2, 1) := by decide +kernel
theorem d_Md_together_32 : decode c_Md_together 32 = .ok (.bipush 32, 2) := by decide +kernel
theorem d_Md_together_34 : decode c_Md_together 34 = .ok (.invokevirtual 130, 3) := by decide +kernel
theorem d_Md_together_37 : decode c_Md_together 37 = .ok (.ifCond .ne 23, 3) := by decide +kernel
theorem d_Md_together_40 : decode c_Md_together 40 = .ok (.aload_n 0, 1) := by decide +kernel
theorem d_Md_together_41 : decode c_Md_together 41 = .ok (.getfield 38, 3) := by decide +kernel
theorem d_Md_together_44 : decode c_Md_together 44 = .ok (.iload_n 3, 1) := by decide +kernel
theorem d_Md_together_45 : decode c_Md_together 45 = .ok (.iaload, 1) := by decide +kernel
theorem d_Md_together_46 : decode c_Md_together 46 = .ok (.aload_n 0, 1) := by decide +kernel
theorem d_Md_together_47 : decode c_Md_together 47 = .ok (.getfield 38, 3) := by decide +kernel
theorem d_Md_together_50 : decode c_Md_together 50 = .ok (.iload 4, 2) := by decide +kernel
theorem d_Md_together_52 : decode c_Md_together 52 = .ok (.iaload, 1) := by decide +kernel
theorem d_Md_together_53 : decode c_Md_together 53 = .ok (.if_icmp .ne 7, 3) := by decide +kernel
theorem d_Md_together_56 : decode c_Md_together 56 = .ok (.iconst 1, 1) := by decide +kernel
theorem d_Md_together_57 : decode c_Md_together 57 = .ok (.goto 4, 3) := by decide +kernel
theorem d_Md_together_60 : decode c_Md_together 60 = .ok (.iconst 0, 1) := by decide +kernel
theorem d_Md_together_61 : decode c_Md_together 61 = .ok (.ireturn, 1) := by decide +kernel
theorem d_Md_result_0 : decode c_Md_result 0 = .ok (.aload_n 0, 1) := by decide +kernel
theorem d_Md_result_1 : decode c_Md_result 1 = .ok (.iload_n 1, 1) := by decide +kernel
theorem d_Md_result_2 : decode c_Md_result 2 = .ok (.iload_n 2, 1) := by decide +kernel
theorem d_Md_result_3 : decode c_Md_result 3 = .ok (.invokevirtual 134, 3) := by decide +kernel
theorem d_Md_result_6 : decode c_Md_result 6 = .ok (.istore_n 3, 1) := by decide +kernel
theorem d_Md_result_7 : decode c_Md_result 7 = .ok (.iload_n 3, 1) := by decide +kernel
theorem d_Md_result_8 : decode c_Md_result 8 = .ok (.ifCond .ge 7, 3) := by decide +kernel
theorem d_Md_result_11 : decode c_Md_result 11 = .ok (.lconst 0, 1) := by decide +kernel
theorem d_Md_result_12 : decode c_Md_result 12 = .ok (.goto 9, 3) := by decide +kernel
theorem d_Md_result_15 : decode c_Md_result 15 = .ok (.aload_n 0, 1) := by decide +kernel
theorem d_Md_result_16 : decode c_Md_result 16 = .ok (.getfield 41, 3) := by decide +kernel
theorem d_Md_result_19 : decode c_Md_result 19 = .ok (.iload_n 3, 1) := by decide +kernel
theorem d_Md_result_20 : decode c_Md_result 20 = .ok (.laload, 1) := by decide +kernel
theorem d_Md_result_21 : decode c_Md_result 21 = .ok (.lreturn, 1) := by decide +kernel
theorem d_Md_asked_0 : decode c_Md_asked 0 = .ok (.aload_n 0, 1) := by decide +kernel
theorem d_Md_asked_1 : decode c_Md_asked 1 = .ok (.iload_n 1, 1) := by decide +kernel
theorem d_Md_asked_2 : decode c_Md_asked 2 = .ok (.iload_n 2, 1) := by decide +kernel
theorem d_Md_asked_3 : decode c_Md_asked 3 = .ok (.bipush 63, 2) := by decide +kernel
theorem d_Md_asked_5 : decode c_Md_asked 5 = .ok (.invokevirtual 130, 3) := by decide +kernel
theorem d_Md_asked_8 : decode c_Md_asked 8 = .ok (.ifCond .eq 5, 3) := by decide +kernel
theorem d_Md_asked_11 : decode c_Md_asked 11 = .ok (.iconst (-1), 1) := by decide +kernel
theorem d_Md_asked_12 : decode c_Md_asked 12 = .ok (.ireturn, 1) := by decide +kernel
theorem d_Md_asked_13 : decode c_Md_asked 13 = .ok (.aload_n 0, 1) := by decide +kernel
theorem d_Md_asked_14 : decode c_Md_asked 14 = .ok (.iload_n 1, 1) := by decide +kernel
theorem d_Md_asked_15 : decode c_Md_asked 15 = .ok (.iload_n 2, 1) := by decide +kernel
theorem d_Md_asked_16 : decode c_Md_asked 16 = .ok (.invokevirtual 78, 3) := by decide +kernel
theorem d_Md_asked_19 : decode c_Md_asked 19 = .ok (.istore_n 3, 1) := by decide +kernel
theorem d_Md_asked_20 : decode c_Md_asked 20 = .ok (.aload_n 0, 1) := by decide +kernel
theorem d_Md_asked_21 : decode c_Md_asked 21 = .ok (.iload_n 3, 1) := by decide +kernel
theorem d_Md_asked_22 : decode c_Md_asked 22 = .ok (.ifCond .ge 7, 3) := by decide +kernel
theorem d_Md_asked_25 : decode c_Md_asked 25 = .ok (.iconst 3, 1) := by decide +kernel
theorem d_Md_asked_26 : decode c_Md_asked 26 = .ok (.goto 4, 3) := by decide +kernel
theorem d_Md_asked_29 : decode c_Md_asked 29 = .ok (.iconst 0, 1) := by decide +kernel
theorem d_Md_asked_30 : decode c_Md_asked 30 = .ok (.putfield 54, 3) := by decide +kernel
theorem d_Md_asked_33 : decode c_Md_asked 33 = .ok (.iload_n 3, 1) := by decide +kernel
theorem d_Md_asked_34 : decode c_Md_asked 34 = .ok (.ireturn, 1) := by decide +kernel
theorem d_Md_works_0 : decode c_Md_works 0 = .ok (.aload_n 0, 1) := by decide +kernel
theorem d_Md_works_1 : decode c_Md_works 1 = .ok (.iload_n 1, 1) := by decide +kernel
theorem d_Md_works_2 : decode c_Md_works 2 = .ok (.iload_n 2, 1) := by decide +kernel
theorem d_Md_works_3 : decode c_Md_works 3 = .ok (.invokevirtual 134, 3) := by decide +kernel
theorem d_Md_works_6 : decode c_Md_works 6 = .ok (.istore_n 3, 1) := by decide +kernel
theorem d_Md_works_7 : decode c_Md_works 7 = .ok (.iload_n 3, 1) := by decide +kernel
theorem d_Md_works_8 : decode c_Md_works 8 = .ok (.ifCond .lt 16, 3) := by decide +kernel
theorem d_Md_works_11 : decode c_Md_works 11 = .ok (.aload_n 0, 1) := by decide +kernel
theorem d_Md_works_12 : decode c_Md_works 12 = .ok (.getfield 45, 3) := by decide +kernel
theorem d_Md_works_15 : decode c_Md_works 15 = .ok (.iload_n 3, 1) := by decide +kernel
theorem d_Md_works_16 : decode c_Md_works 16 = .ok (.baload, 1) := by decide +kernel
theorem d_Md_works_17 : decode c_Md_works 17 = .ok (.ifCond .eq 7, 3) := by decide +kernel
theorem d_Md_works_20 : decode c_Md_works 20 = .ok (.iconst 1, 1) := by decide +kernel
theorem d_Md_works_21 : decode c_Md_works 21 = .ok (.goto 4, 3) := by decide +kernel
theorem d_Md_works_24 : decode c_Md_works 24 = .ok (.iconst 0, 1) := by decide +kernel
theorem d_Md_works_25 : decode c_Md_works 25 = .ok (.ireturn, 1) := by decide +kernel
theorem d_Md_effective_0 : decode c_Md_effective 0 = .ok (.aload_n 0, 1) := by decide +kernel
theorem d_Md_effective_1 : decode c_Md_effective 1 = .ok (.iload_n 1, 1) := by decide +kernel
theorem d_Md_effective_2 : decode c_Md_effective 2 = .ok (.iload_n 2, 1) := by decide +kernel
theorem d_Md_effective_3 : decode c_Md_effective 3 = .ok (.iload_n 3, 1) := by decide +kernel
theorem d_Md_effective_4 : decode c_Md_effective 4 = .ok (.invokevirtual 137, 3) := by decide +kernel
theorem d_Md_effective_7 : decode c_Md_effective 7 = .ok (.ifCond .eq 5, 3) := by decide +kernel
theorem d_Md_effective_10 : decode c_Md_effective 10 = .ok (.iconst 0, 1) := by decide +kernel
theorem d_Md_effective_11 : decode c_Md_effective 11 = .ok (.ireturn, 1) := by decide +kernel
theorem d_Md_effective_12 : decode c_Md_effective 12 = .ok (.aload_n 0, 1) := by decide +kernel
theorem d_Md_effective_13 : decode c_Md_effective 13 = .ok (.iload_n 1, 1) := by decide +kernel
theorem d_Md_effective_14 : decode c_Md_effective 14 = .ok (.aload_n 0, 1) := by decide +kernel
theorem d_Md_effective_15 : decode c_Md_effective 15 = .ok (.iload_n 1, 1) := by decide +kernel
theorem d_Md_effective_16 : decode c_Md_effective 16 = .ok (.invokevirtual 82, 3) := by decide +kernel
theorem d_Md_effective_19 : decode c_Md_effective 19 = .ok (.iload_n 3, 1) := by decide +kernel
theorem d_Md_effective_20 : decode c_Md_effective 20 = .ok (.invokevirtual 126, 3) := by decide +kernel
theorem d_Md_effective_23 : decode c_Md_effective 23 = .ok (.iconst 0, 1) := by decide +kernel
theorem d_Md_effective_24 : decode c_Md_effective 24 = .ok (.istore 4, 2) := by decide +kernel
theorem d_Md_effective_26 : decode c_Md_effective 26 = .ok (.iconst 0, 1) := by decide +kernel
theorem d_Md_effective_27 : decode c_Md_effective 27 = .ok (.istore 5, 2) := by decide +kernel
theorem d_Md_effective_29 : decode c_Md_effective 29 = .ok (.iload 5, 2) := by decide +kernel
theorem d_Md_effective_31 : decode c_Md_effective 31 = .ok (.aload_n 0, 1) := by decide +kernel
theorem d_Md_effective_32 : decode c_Md_effective 32 = .ok (.getfield 17, 3) := by decide +kernel
theorem d_Md_effective_35 : decode c_Md_effective 35 = .ok (.iload_n 1, 1) := by decide +kernel
theorem d_Md_effective_36 : decode c_Md_effective 36 = .ok (.iaload, 1) := by decide +kernel
theorem d_Md_effective_37 : decode c_Md_effective 37 = .ok (.if_icmp .ge 55, 3) := by decide +kernel
theorem d_Md_effective_40 : decode c_Md_effective 40 = .ok (.aload_n 0, 1) := by decide +kernel
theorem d_Md_effective_41 : decode c_Md_effective 41 = .ok (.getfield 20, 3) := by decide +kernel
theorem d_Md_effective_44 : decode c_Md_effective 44 = .ok (.bipush 32, 2) := by decide +kernel
theorem d_Md_effective_46 : decode c_Md_effective 46 = .ok (.iload_n 1, 1) := by decide +kernel
theorem d_Md_effective_47 : decode c_Md_effective 47 = .ok (.imul, 1) := by decide +kernel
theorem d_Md_effective_48 : decode c_Md_effective 48 = .ok (.iload 5, 2) := by decide +kernel
theorem d_Md_effective_50 : decode c_Md_effective 50 = .ok (.iadd, 1) := by decide +kernel
theorem d_Md_effective_51 : decode c_Md_effective 51 = .ok (.iaload, 1) := by decide +kernel
theorem d_Md_effective_52 : decode c_Md_effective 52 = .ok (.istore 6, 2) := by decide +kernel
theorem d_Md_effective_54 : decode c_Md_effective 54 = .ok (.iload 4, 2) := by decide +kernel
theorem d_Md_effective_56 : decode c_Md_effective 56 = .ok (.iload 6, 2) := by decide +kernel
theorem d_Md_effective_58 : decode c_Md_effective 58 = .ok (.iload_n 2, 1) := by decide +kernel
theorem d_Md_effective_59 : decode c_Md_effective 59 = .ok (.if_icmp .lt 23, 3) := by decide +kernel
theorem d_Md_effective_62 : decode c_Md_effective 62 = .ok (.iload 6, 2) := by decide +kernel
theorem d_Md_effective_64 : decode c_Md_effective 64 = .ok (.iload_n 3, 1) := by decide +kernel
theorem d_Md_effective_65 : decode c_Md_effective 65 = .ok (.if_icmp .gt 17, 3) := by decide +kernel
theorem d_Md_effective_68 : decode c_Md_effective 68 = .ok (.aload_n 0, 1) := by decide +kernel
theorem d_Md_effective_69 : decode c_Md_effective 69 = .ok (.getfield 45, 3) := by decide +kernel
theorem d_Md_effective_72 : decode c_Md_effective 72 = .ok (.iload 5, 2) := by decide +kernel
theorem d_Md_effective_74 : decode c_Md_effective 74 = .ok (.baload, 1) := by decide +kernel
theorem d_Md_effective_75 : decode c_Md_effective 75 = .ok (.ifCond .eq 7, 3) := by decide +kernel
theorem d_Md_effective_78 : decode c_Md_effective 78 = .ok (.iconst 1, 1) := by decide +kernel
theorem d_Md_effective_79 : decode c_Md_effective 79 = .ok (.goto 4, 3) := by decide +kernel
theorem d_Md_effective_82 : decode c_Md_effective 82 = .ok (.iconst 0, 1) := by decide +kernel
theorem d_Md_effective_83 : decode c_Md_effective 83 = .ok (.iadd, 1) := by decide +kernel
theorem d_Md_effective_84 : decode c_Md_effective 84 = .ok (.istore 4, 2) := by decide +kernel
theorem d_Md_effective_86 : decode c_Md_effective 86 = .ok (.iinc 5 1, 3) := by decide +kernel
theorem d_Md_effective_89 : decode c_Md_effective 89 = .ok (.goto (-60), 3) := by decide +kernel
theorem d_Md_effective_92 : decode c_Md_effective 92 = .ok (.iload 4, 2) := by decide +kernel
theorem d_Md_effective_94 : decode c_Md_effective 94 = .ok (.ireturn, 1) := by decide +kernel
theorem d_Md_lacksTwo_0 : decode c_Md_lacksTwo 0 = .ok (.aload_n 0, 1) := by decide +kernel
theorem d_Md_lacksTwo_1 : decode c_Md_lacksTwo 1 = .ok (.iload_n 1, 1) := by decide +kernel
theorem d_Md_lacksTwo_2 : decode c_Md_lacksTwo 2 = .ok (.invokestatic 59, 3) := by decide +kernel
theorem d_Md_lacksTwo_5 : decode c_Md_lacksTwo 5 = .ok (.ifCond .eq 17, 3) := by decide +kernel
theorem d_Md_lacksTwo_8 : decode c_Md_lacksTwo 8 = .ok (.iload_n 2, 1) := by decide +kernel
theorem d_Md_lacksTwo_9 : decode c_Md_lacksTwo 9 = .ok (.invokestatic 63, 3) := by decide +kernel
theorem d_Md_lacksTwo_12 : decode c_Md_lacksTwo 12 = .ok (.ifCond .eq 10, 3) := by decide +kernel
theorem d_Md_lacksTwo_15 : decode c_Md_lacksTwo 15 = .ok (.iload_n 3, 1) := by decide +kernel
theorem d_Md_lacksTwo_16 : decode c_Md_lacksTwo 16 = .ok (.invokestatic 63, 3) := by decide +kernel
theorem d_Md_lacksTwo_19 : decode c_Md_lacksTwo 19 = .ok (.ifCond .ne 7, 3) := by decide +kernel
theorem d_Md_lacksTwo_22 : decode c_Md_lacksTwo 22 = .ok (.iconst 1, 1) := by decide +kernel
theorem d_Md_lacksTwo_23 : decode c_Md_lacksTwo 23 = .ok (.goto 17, 3) := by decide +kernel
theorem d_Md_lacksTwo_26 : decode c_Md_lacksTwo 26 = .ok (.aload_n 0, 1) := by decide +kernel
theorem d_Md_lacksTwo_27 : decode c_Md_lacksTwo 27 = .ok (.getfield 7, 3) := by decide +kernel
theorem d_Md_lacksTwo_30 : decode c_Md_lacksTwo 30 = .ok (.iload_n 1, 1) := by decide +kernel
theorem d_Md_lacksTwo_31 : decode c_Md_lacksTwo 31 = .ok (.iaload, 1) := by decide +kernel
theorem d_Md_lacksTwo_32 : decode c_Md_lacksTwo 32 = .ok (.ifCond .ne 7, 3) := by decide +kernel
theorem d_Md_lacksTwo_35 : decode c_Md_lacksTwo 35 = .ok (.iconst 2, 1) := by decide +kernel
theorem d_Md_lacksTwo_36 : decode c_Md_lacksTwo 36 = .ok (.goto 4, 3) := by decide +kernel
theorem d_Md_lacksTwo_39 : decode c_Md_lacksTwo 39 = .ok (.iconst 0, 1) := by decide +kernel
theorem d_Md_lacksTwo_40 : decode c_Md_lacksTwo 40 = .ok (.putfield 54, 3) := by decide +kernel
theorem d_Md_lacksTwo_43 : decode c_Md_lacksTwo 43 = .ok (.aload_n 0, 1) := by decide +kernel
theorem d_Md_lacksTwo_44 : decode c_Md_lacksTwo 44 = .ok (.getfield 54, 3) := by decide +kernel
theorem d_Md_lacksTwo_47 : decode c_Md_lacksTwo 47 = .ok (.ifCond .le 7, 3) := by decide +kernel
theorem d_Md_lacksTwo_50 : decode c_Md_lacksTwo 50 = .ok (.iconst 1, 1) := by decide +kernel
theorem d_Md_lacksTwo_51 : decode c_Md_lacksTwo 51 = .ok (.goto 4, 3) := by decide +kernel
theorem d_Md_lacksTwo_54 : decode c_Md_lacksTwo 54 = .ok (.iconst 0, 1) := by decide +kernel
theorem d_Md_lacksTwo_55 : decode c_Md_lacksTwo 55 = .ok (.ireturn, 1) := by decide +kernel
theorem d_Md_firstChange_0 : decode c_Md_firstChange 0 = .ok (.aload_n 0, 1) := by decide +kernel
theorem d_Md_firstChange_1 : decode c_Md_firstChange 1 = .ok (.iload_n 1, 1) := by decide +kernel
theorem d_Md_firstChange_2 : decode c_Md_firstChange 2 = .ok (.iload_n 2, 1) := by decide +kernel
theorem d_Md_firstChange_3 : decode c_Md_firstChange 3 = .ok (.iload_n 3, 1) := by decide +kernel
theorem d_Md_firstChange_4 : decode c_Md_firstChange 4 = .ok (.invokevirtual 137, 3) := by decide +kernel
theorem d_Md_firstChange_7 : decode c_Md_firstChange 7 = .ok (.ifCond .ne 12, 3) := by decide +kernel
theorem d_Md_firstChange_10 : decode c_Md_firstChange 10 = .ok (.aload_n 0, 1) := by decide +kernel
theorem d_Md_firstChange_11 : decode c_Md_firstChange 11 = .ok (.getfield 13, 3) := by decide +kernel
theorem d_Md_firstChange_14 : decode c_Md_firstChange 14 = .ok (.iload_n 1, 1) := by decide +kernel
theorem d_Md_firstChange_15 : decode c_Md_firstChange 15 = .ok (.baload, 1) := by decide +kernel
theorem d_Md_firstChange_16 : decode c_Md_firstChange 16 = .ok (.ifCond .ne 5, 3) := by decide +kernel
theorem d_Md_firstChange_19 : decode c_Md_firstChange 19 = .ok (.iconst 0, 1) := by decide +kernel
theorem d_Md_firstChange_20 : decode c_Md_firstChange 20 = .ok (.ireturn, 1) := by decide +kernel
theorem d_Md_firstChange_21 : decode c_Md_firstChange 21 = .ok (.aload_n 0, 1) := by decide +kernel
theorem d_Md_firstChange_22 : decode c_Md_firstChange 22 = .ok (.iload_n 1, 1) := by decide +kernel
theorem d_Md_firstChange_23 : decode c_Md_firstChange 23 = .ok (.iconst 4, 1) := by decide +kernel
theorem d_Md_firstChange_24 : decode c_Md_firstChange 24 = .ok (.iadd, 1) := by decide +kernel
theorem d_Md_firstChange_25 : decode c_Md_firstChange 25 = .ok (.aload_n 0, 1) := by decide +kernel
theorem d_Md_firstChange_26 : decode c_Md_firstChange 26 = .ok (.iload_n 1, 1) := by decide +kernel
theorem d_Md_firstChange_27 : decode c_Md_firstChange 27 = .ok (.invokevirtual 82, 3) := by decide +kernel
theorem d_Md_firstChange_30 : decode c_Md_firstChange 30 = .ok (.ldc 58, 2) := by decide +kernel
theorem d_Md_firstChange_32 : decode c_Md_firstChange 32 = .ok (.invokevirtual 126, 3) := by decide +kernel
theorem d_Md_firstChange_35 : decode c_Md_firstChange 35 = .ok (.iconst 0, 1) := by decide +kernel
theorem d_Md_firstChange_36 : decode c_Md_firstChange 36 = .ok (.istore 4, 2) := by decide +kernel
theorem d_Md_firstChange_38 : decode c_Md_firstChange 38 = .ok (.iload 4, 2) := by decide +kernel
theorem d_Md_firstChange_40 : decode c_Md_firstChange 40 = .ok (.bipush 32, 2) := by decide +kernel
theorem d_Md_firstChange_42 : decode c_Md_firstChange 42 = .ok (.if_icmp .ge 37, 3) := by decide +kernel
theorem d_Md_firstChange_45 : decode c_Md_firstChange 45 = .ok (.aload_n 0, 1) := by decide +kernel
theorem d_Md_firstChange_46 : decode c_Md_firstChange 46 = .ok (.getfield 48, 3) := by decide +kernel
theorem d_Md_firstChange_49 : decode c_Md_firstChange 49 = .ok (.iload 4, 2) := by decide +kernel
theorem d_Md_firstChange_51 : decode c_Md_firstChange 51 = .ok (.aload_n 0, 1) := by decide +kernel
theorem d_Md_firstChange_52 : decode c_Md_firstChange 52 = .ok (.getfield 41, 3) := by decide +kernel
theorem d_Md_firstChange_55 : decode c_Md_firstChange 55 = .ok (.iload 4, 2) := by decide +kernel
theorem d_Md_firstChange_57 : decode c_Md_firstChange 57 = .ok (.laload, 1) := by decide +kernel
theorem d_Md_firstChange_58 : decode c_Md_firstChange 58 = .ok (.lastore, 1) := by decide +kernel
theorem d_Md_firstChange_59 : decode c_Md_firstChange 59 = .ok (.aload_n 0, 1) := by decide +kernel
theorem d_Md_firstChange_60 : decode c_Md_firstChange 60 = .ok (.getfield 51, 3) := by decide +kernel
theorem d_Md_firstChange_63 : decode c_Md_firstChange 63 = .ok (.iload 4, 2) := by decide +kernel
theorem d_Md_firstChange_65 : decode c_Md_firstChange 65 = .ok (.aload_n 0, 1) := by decide +kernel
theorem d_Md_firstChange_66 : decode c_Md_firstChange 66 = .ok (.getfield 45, 3) := by decide +kernel
theorem d_Md_firstChange_69 : decode c_Md_firstChange 69 = .ok (.iload 4, 2) := by decide +kernel
theorem d_Md_firstChange_71 : decode c_Md_firstChange 71 = .ok (.baload, 1) := by decide +kernel
theorem d_Md_firstChange_72 : decode c_Md_firstChange 72 = .ok (.bastore, 1) := by decide +kernel
theorem d_Md_firstChange_73 : decode c_Md_firstChange 73 = .ok (.iinc 4 1, 3) := by decide +kernel
theorem d_Md_firstChange_76 : decode c_Md_firstChange 76 = .ok (.goto (-38), 3) := by decide +kernel
theorem d_Md_firstChange_79 : decode c_Md_firstChange 79 = .ok (.aload_n 0, 1) := by decide +kernel
theorem d_Md_firstChange_80 : decode c_Md_firstChange 80 = .ok (.iload_n 1, 1) := by decide +kernel
theorem d_Md_firstChange_81 : decode c_Md_firstChange 81 = .ok (.aload_n 0, 1) := by decide +kernel
theorem d_Md_firstChange_82 : decode c_Md_firstChange 82 = .ok (.iload_n 1, 1) := by decide +kernel
theorem d_Md_firstChange_83 : decode c_Md_firstChange 83 = .ok (.invokevirtual 82, 3) := by decide +kernel
theorem d_Md_firstChange_86 : decode c_Md_firstChange 86 = .ok (.ldc 58, 2) := by decide +kernel
theorem d_Md_firstChange_88 : decode c_Md_firstChange 88 = .ok (.invokevirtual 126, 3) := by decide +kernel
theorem d_Md_firstChange_91 : decode c_Md_firstChange 91 = .ok (.iconst 0, 1) := by decide +kernel
theorem d_Md_firstChange_92 : decode c_Md_firstChange 92 = .ok (.istore 4, 2) := by decide +kernel
theorem d_Md_firstChange_94 : decode c_Md_firstChange 94 = .ok (.iconst 0, 1) := by decide +kernel
theorem d_Md_firstChange_95 : decode c_Md_firstChange 95 = .ok (.istore 5, 2) := by decide +kernel
theorem d_Md_firstChange_97 : decode c_Md_firstChange 97 = .ok (.iload 5, 2) := by decide +kernel
theorem d_Md_firstChange_99 : decode c_Md_firstChange 99 = .ok (.aload_n 0, 1) := by decide +kernel
theorem d_Md_firstChange_100 : decode c_Md_firstChange 100 = .ok (.getfield 17, 3) := by decide +kernel
theorem d_Md_firstChange_103 : decode c_Md_firstChange 103 = .ok (.iload_n 1, 1) := by decide +kernel
theorem d_Md_firstChange_104 : decode c_Md_firstChange 104 = .ok (.iaload, 1) := by decide +kernel
theorem d_Md_firstChange_105 : decode c_Md_firstChange 105 = .ok (.if_icmp .ge 119, 3) := by decide +kernel
theorem d_Md_firstChange_108 : decode c_Md_firstChange 108 = .ok (.aload_n 0, 1) := by decide +kernel
theorem d_Md_firstChange_109 : decode c_Md_firstChange 109 = .ok (.getfield 20, 3) := by decide +kernel
theorem d_Md_firstChange_112 : decode c_Md_firstChange 112 = .ok (.bipush 32, 2) := by decide +kernel
theorem d_Md_firstChange_114 : decode c_Md_firstChange 114 = .ok (.iload_n 1, 1) := by decide +kernel
theorem d_Md_firstChange_115 : decode c_Md_firstChange 115 = .ok (.imul, 1) := by decide +kernel
theorem d_Md_firstChange_116 : decode c_Md_firstChange 116 = .ok (.iload 5, 2) := by decide +kernel
theorem d_Md_firstChange_118 : decode c_Md_firstChange 118 = .ok (.iadd, 1) := by decide +kernel
theorem d_Md_firstChange_119 : decode c_Md_firstChange 119 = .ok (.iaload, 1) := by decide +kernel
theorem d_Md_firstChange_120 : decode c_Md_firstChange 120 = .ok (.istore 6, 2) := by decide +kernel
theorem d_Md_firstChange_122 : decode c_Md_firstChange 122 = .ok (.aload_n 0, 1) := by decide +kernel
theorem d_Md_firstChange_123 : decode c_Md_firstChange 123 = .ok (.iload_n 1, 1) := by decide +kernel
theorem d_Md_firstChange_124 : decode c_Md_firstChange 124 = .ok (.iconst 4, 1) := by decide +kernel
theorem d_Md_firstChange_125 : decode c_Md_firstChange 125 = .ok (.iadd, 1) := by decide +kernel
theorem d_Md_firstChange_126 : decode c_Md_firstChange 126 = .ok (.iload 6, 2) := by decide +kernel
theorem d_Md_firstChange_128 : decode c_Md_firstChange 128 = .ok (.invokevirtual 78, 3) := by decide +kernel
theorem d_Md_firstChange_131 : decode c_Md_firstChange 131 = .ok (.istore 7, 2) := by decide +kernel
theorem d_Md_firstChange_133 : decode c_Md_firstChange 133 = .ok (.iload 7, 2) := by decide +kernel
theorem d_Md_firstChange_135 : decode c_Md_firstChange 135 = .ok (.ifCond .lt 38, 3) := by decide +kernel
theorem d_Md_firstChange_138 : decode c_Md_firstChange 138 = .ok (.aload_n 0, 1) := by decide +kernel
theorem d_Md_firstChange_139 : decode c_Md_firstChange 139 = .ok (.getfield 48, 3) := by decide +kernel
theorem d_Md_firstChange_142 : decode c_Md_firstChange 142 = .ok (.iload 7, 2) := by decide +kernel
theorem d_Md_firstChange_144 : decode c_Md_firstChange 144 = .ok (.laload, 1) := by decide +kernel
theorem d_Md_firstChange_145 : decode c_Md_firstChange 145 = .ok (.aload_n 0, 1) := by decide +kernel
theorem d_Md_firstChange_146 : decode c_Md_firstChange 146 = .ok (.getfield 41, 3) := by decide +kernel
theorem d_Md_firstChange_149 : decode c_Md_firstChange 149 = .ok (.iload 5, 2) := by decide +kernel
theorem d_Md_firstChange_151 : decode c_Md_firstChange 151 = .ok (.laload, 1) := by decide +kernel
theorem d_Md_firstChange_152 : decode c_Md_firstChange 152 = .ok (.lcmp, 1) := by decide +kernel
theorem d_Md_firstChange_153 : decode c_Md_firstChange 153 = .ok (.ifCond .ne 20, 3) := by decide +kernel
theorem d_Md_firstChange_156 : decode c_Md_firstChange 156 = .ok (.aload_n 0, 1) := by decide +kernel
theorem d_Md_firstChange_157 : decode c_Md_firstChange 157 = .ok (.getfield 51, 3) := by decide +kernel
theorem d_Md_firstChange_160 : decode c_Md_firstChange 160 = .ok (.iload 7, 2) := by decide +kernel
theorem d_Md_firstChange_162 : decode c_Md_firstChange 162 = .ok (.baload, 1) := by decide +kernel
theorem d_Md_firstChange_163 : decode c_Md_firstChange 163 = .ok (.aload_n 0, 1) := by decide +kernel
theorem d_Md_firstChange_164 : decode c_Md_firstChange 164 = .ok (.getfield 45, 3) := by decide +kernel
theorem d_Md_firstChange_167 : decode c_Md_firstChange 167 = .ok (.iload 5, 2) := by decide +kernel
theorem d_Md_firstChange_169 : decode c_Md_firstChange 169 = .ok (.baload, 1) := by decide +kernel
theorem d_Md_firstChange_170 : decode c_Md_firstChange 170 = .ok (.if_icmp .eq 7, 3) := by decide +kernel
theorem d_Md_firstChange_173 : decode c_Md_firstChange 173 = .ok (.iconst 1, 1) := by decide +kernel
theorem d_Md_firstChange_174 : decode c_Md_firstChange 174 = .ok (.goto 4, 3) := by decide +kernel
theorem d_Md_firstChange_177 : decode c_Md_firstChange 177 = .ok (.iconst 0, 1) := by decide +kernel
theorem d_Md_firstChange_178 : decode c_Md_firstChange 178 = .ok (.istore 8, 2) := by decide +kernel
theorem d_Md_firstChange_180 : decode c_Md_firstChange 180 = .ok (.iload 8, 2) := by decide +kernel
theorem d_Md_firstChange_182 : decode c_Md_firstChange 182 = .ok (.ifCond .eq 32, 3) := by decide +kernel
theorem d_Md_firstChange_185 : decode c_Md_firstChange 185 = .ok (.iload 6, 2) := by decide +kernel
theorem d_Md_firstChange_187 : decode c_Md_firstChange 187 = .ok (.iload_n 2, 1) := by decide +kernel
theorem d_Md_firstChange_188 : decode c_Md_firstChange 188 = .ok (.if_icmp .lt 26, 3) := by decide +kernel
theorem d_Md_firstChange_191 : decode c_Md_firstChange 191 = .ok (.iload 6, 2) := by decide +kernel
theorem d_Md_firstChange_193 : decode c_Md_firstChange 193 = .ok (.iload_n 3, 1) := by decide +kernel
theorem d_Md_firstChange_194 : decode c_Md_firstChange 194 = .ok (.if_icmp .gt 20, 3) := by decide +kernel
theorem d_Md_firstChange_197 : decode c_Md_firstChange 197 = .ok (.iload 4, 2) := by decide +kernel
theorem d_Md_firstChange_199 : decode c_Md_firstChange 199 = .ok (.ifCond .eq 10, 3) := by decide +kernel
theorem d_Md_firstChange_202 : decode c_Md_firstChange 202 = .ok (.iload 6, 2) := by decide +kernel
theorem d_Md_firstChange_204 : decode c_Md_firstChange 204 = .ok (.iload 4, 2) := by decide +kernel
theorem d_Md_firstChange_206 : decode c_Md_firstChange 206 = .ok (.if_icmp .ge 8, 3) := by decide +kernel
theorem d_Md_firstChange_209 : decode c_Md_firstChange 209 = .ok (.iload 6, 2) := by decide +kernel
theorem d_Md_firstChange_211 : decode c_Md_firstChange 211 = .ok (.goto 5, 3) := by decide +kernel
theorem d_Md_firstChange_214 : decode c_Md_firstChange 214 = .ok (.iload 4, 2) := by decide +kernel
theorem d_Md_firstChange_216 : decode c_Md_firstChange 216 = .ok (.istore 4, 2) := by decide +kernel
theorem d_Md_firstChange_218 : decode c_Md_firstChange 218 = .ok (.iinc 5 1, 3) := by decide +kernel
theorem d_Md_firstChange_221 : decode c_Md_firstChange 221 = .ok (.goto (-124), 3) := by decide +kernel
theorem d_Md_firstChange_224 : decode c_Md_firstChange 224 = .ok (.iconst 0, 1) := by decide +kernel
theorem d_Md_firstChange_225 : decode c_Md_firstChange 225 = .ok (.istore 5, 2) := by decide +kernel
theorem d_Md_firstChange_227 : decode c_Md_firstChange 227 = .ok (.iload 5, 2) := by decide +kernel
theorem d_Md_firstChange_229 : decode c_Md_firstChange 229 = .ok (.aload_n 0, 1) := by decide +kernel
theorem d_Md_firstChange_230 : decode c_Md_firstChange 230 = .ok (.getfield 17, 3) := by decide +kernel
theorem d_Md_firstChange_233 : decode c_Md_firstChange 233 = .ok (.iload_n 1, 1) := by decide +kernel
theorem d_Md_firstChange_234 : decode c_Md_firstChange 234 = .ok (.iconst 4, 1) := by decide +kernel
theorem d_Md_firstChange_235 : decode c_Md_firstChange 235 = .ok (.iadd, 1) := by decide +kernel
theorem d_Md_firstChange_236 : decode c_Md_firstChange 236 = .ok (.iaload, 1) := by decide +kernel
theorem d_Md_firstChange_237 : decode c_Md_firstChange 237 = .ok (.if_icmp .ge 68, 3) := by decide +kernel
theorem d_Md_firstChange_240 : decode c_Md_firstChange 240 = .ok (.aload_n 0, 1) := by decide +kernel
theorem d_Md_firstChange_241 : decode c_Md_firstChange 241 = .ok (.getfield 20, 3) := by decide +kernel
theorem d_Md_firstChange_244 : decode c_Md_firstChange 244 = .ok (.bipush 32, 2) := by decide +kernel
theorem d_Md_firstChange_246 : decode c_Md_firstChange 246 = .ok (.iload_n 1, 1) := by decide +kernel
theorem d_Md_firstChange_247 : decode c_Md_firstChange 247 = .ok (.iconst 4, 1) := by decide +kernel
theorem d_Md_firstChange_248 : decode c_Md_firstChange 248 = .ok (.iadd, 1) := by decide +kernel
theorem d_Md_firstChange_249 : decode c_Md_firstChange 249 = .ok (.imul, 1) := by decide +kernel
theorem d_Md_firstChange_250 : decode c_Md_firstChange 250 = .ok (.iload 5, 2) := by decide +kernel
theorem d_Md_firstChange_252 : decode c_Md_firstChange 252 = .ok (.iadd, 1) := by decide +kernel
theorem d_Md_firstChange_253 : decode c_Md_firstChange 253 = .ok (.iaload, 1) := by decide +kernel
theorem d_Md_firstChange_254 : decode c_Md_firstChange 254 = .ok (.istore 6, 2) := by decide +kernel
theorem d_Md_firstChange_256 : decode c_Md_firstChange 256 = .ok (.aload_n 0, 1) := by decide +kernel
theorem d_Md_firstChange_257 : decode c_Md_firstChange 257 = .ok (.iload_n 1, 1) := by decide +kernel
theorem d_Md_firstChange_258 : decode c_Md_firstChange 258 = .ok (.iload 6, 2) := by decide +kernel
theorem d_Md_firstChange_260 : decode c_Md_firstChange 260 = .ok (.invokevirtual 78, 3) := by decide +kernel
theorem d_Md_firstChange_263 : decode c_Md_firstChange 263 = .ok (.ifCond .ge 32, 3) := by decide +kernel
theorem d_Md_firstChange_266 : decode c_Md_firstChange 266 = .ok (.iload 6, 2) := by decide +kernel
theorem d_Md_firstChange_268 : decode c_Md_firstChange 268 = .ok (.iload_n 2, 1) := by decide +kernel
theorem d_Md_firstChange_269 : decode c_Md_firstChange 269 = .ok (.if_icmp .lt 26, 3) := by decide +kernel
theorem d_Md_firstChange_272 : decode c_Md_firstChange 272 = .ok (.iload 6, 2) := by decide +kernel
theorem d_Md_firstChange_274 : decode c_Md_firstChange 274 = .ok (.iload_n 3, 1) := by decide +kernel
theorem d_Md_firstChange_275 : decode c_Md_firstChange 275 = .ok (.if_icmp .gt 20, 3) := by decide +kernel
theorem d_Md_firstChange_278 : decode c_Md_firstChange 278 = .ok (.iload 4, 2) := by decide +kernel
theorem d_Md_firstChange_280 : decode c_Md_firstChange 280 = .ok (.ifCond .eq 10, 3) := by decide +kernel
theorem d_Md_firstChange_283 : decode c_Md_firstChange 283 = .ok (.iload 6, 2) := by decide +kernel
theorem d_Md_firstChange_285 : decode c_Md_firstChange 285 = .ok (.iload 4, 2) := by decide +kernel
theorem d_Md_firstChange_287 : decode c_Md_firstChange 287 = .ok (.if_icmp .ge 8, 3) := by decide +kernel
theorem d_Md_firstChange_290 : decode c_Md_firstChange 290 = .ok (.iload 6, 2) := by decide +kernel
theorem d_Md_firstChange_292 : decode c_Md_firstChange 292 = .ok (.goto 5, 3) := by decide +kernel
theorem d_Md_firstChange_295 : decode c_Md_firstChange 295 = .ok (.iload 4, 2) := by decide +kernel
theorem d_Md_firstChange_297 : decode c_Md_firstChange 297 = .ok (.istore 4, 2) := by decide +kernel
theorem d_Md_firstChange_299 : decode c_Md_firstChange 299 = .ok (.iinc 5 1, 3) := by decide +kernel
theorem d_Md_firstChange_302 : decode c_Md_firstChange 302 = .ok (.goto (-75), 3) := by decide +kernel
theorem d_Md_firstChange_305 : decode c_Md_firstChange 305 = .ok (.iload 4, 2) := by decide +kernel
theorem d_Md_firstChange_307 : decode c_Md_firstChange 307 = .ok (.ireturn, 1) := by decide +kernel
theorem d_Md_operations_0 : decode c_Md_operations 0 = .ok (.aload_n 0, 1) := by decide +kernel
theorem d_Md_operations_1 : decode c_Md_operations 1 = .ok (.iload_n 1, 1) := by decide +kernel
theorem d_Md_operations_2 : decode c_Md_operations 2 = .ok (.iconst 1, 1) := by decide +kernel
theorem d_Md_operations_3 : decode c_Md_operations 3 = .ok (.invokevirtual 66, 3) := by decide +kernel
theorem d_Md_operations_6 : decode c_Md_operations 6 = .ok (.ifCond .eq 7, 3) := by decide +kernel
theorem d_Md_operations_9 : decode c_Md_operations 9 = .ok (.iconst 0, 1) := by decide +kernel
theorem d_Md_operations_10 : decode c_Md_operations 10 = .ok (.goto 9, 3) := by decide +kernel
theorem d_Md_operations_13 : decode c_Md_operations 13 = .ok (.aload_n 0, 1) := by decide +kernel
theorem d_Md_operations_14 : decode c_Md_operations 14 = .ok (.getfield 17, 3) := by decide +kernel
theorem d_Md_operations_17 : decode c_Md_operations 17 = .ok (.iload_n 1, 1) := by decide +kernel
theorem d_Md_operations_18 : decode c_Md_operations 18 = .ok (.iaload, 1) := by decide +kernel
theorem d_Md_operations_19 : decode c_Md_operations 19 = .ok (.ireturn, 1) := by decide +kernel
theorem d_Md_operation_0 : decode c_Md_operation 0 = .ok (.aload_n 0, 1) := by decide +kernel
theorem d_Md_operation_1 : decode c_Md_operation 1 = .ok (.iload_n 1, 1) := by decide +kernel
theorem d_Md_operation_2 : decode c_Md_operation 2 = .ok (.invokestatic 59, 3) := by decide +kernel
theorem d_Md_operation_5 : decode c_Md_operation 5 = .ok (.ifCond .eq 12, 3) := by decide +kernel
theorem d_Md_operation_8 : decode c_Md_operation 8 = .ok (.iload_n 3, 1) := by decide +kernel
theorem d_Md_operation_9 : decode c_Md_operation 9 = .ok (.ifCond .lt 8, 3) := by decide +kernel
theorem d_Md_operation_12 : decode c_Md_operation 12 = .ok (.iload_n 3, 1) := by decide +kernel
theorem d_Md_operation_13 : decode c_Md_operation 13 = .ok (.iconst 3, 1) := by decide +kernel
theorem d_Md_operation_14 : decode c_Md_operation 14 = .ok (.if_icmp .le 7, 3) := by decide +kernel
theorem d_Md_operation_17 : decode c_Md_operation 17 = .ok (.iconst 1, 1) := by decide +kernel
theorem d_Md_operation_18 : decode c_Md_operation 18 = .ok (.goto 35, 3) := by decide +kernel
theorem d_Md_operation_21 : decode c_Md_operation 21 = .ok (.aload_n 0, 1) := by decide +kernel
theorem d_Md_operation_22 : decode c_Md_operation 22 = .ok (.getfield 7, 3) := by decide +kernel
theorem d_Md_operation_25 : decode c_Md_operation 25 = .ok (.iload_n 1, 1) := by decide +kernel
theorem d_Md_operation_26 : decode c_Md_operation 26 = .ok (.iaload, 1) := by decide +kernel
theorem d_Md_operation_27 : decode c_Md_operation 27 = .ok (.ifCond .ne 7, 3) := by decide +kernel
theorem d_Md_operation_30 : decode c_Md_operation 30 = .ok (.iconst 2, 1) := by decide +kernel
theorem d_Md_operation_31 : decode c_Md_operation 31 = .ok (.goto 22, 3) := by decide +kernel
theorem d_Md_operation_34 : decode c_Md_operation 34 = .ok (.iload_n 2, 1) := by decide +kernel
theorem d_Md_operation_35 : decode c_Md_operation 35 = .ok (.ifCond .lt 13, 3) := by decide +kernel
theorem d_Md_operation_38 : decode c_Md_operation 38 = .ok (.iload_n 2, 1) := by decide +kernel
theorem d_Md_operation_39 : decode c_Md_operation 39 = .ok (.aload_n 0, 1) := by decide +kernel
theorem d_Md_operation_40 : decode c_Md_operation 40 = .ok (.getfield 17, 3) := by decide +kernel
theorem d_Md_operation_43 : decode c_Md_operation 43 = .ok (.iload_n 1, 1) := by decide +kernel
theorem d_Md_operation_44 : decode c_Md_operation 44 = .ok (.iaload, 1) := by decide +kernel
theorem d_Md_operation_45 : decode c_Md_operation 45 = .ok (.if_icmp .lt 7, 3) := by decide +kernel
theorem d_Md_operation_48 : decode c_Md_operation 48 = .ok (.iconst 3, 1) := by decide +kernel
theorem d_Md_operation_49 : decode c_Md_operation 49 = .ok (.goto 4, 3) := by decide +kernel
theorem d_Md_operation_52 : decode c_Md_operation 52 = .ok (.iconst 0, 1) := by decide +kernel
theorem d_Md_operation_53 : decode c_Md_operation 53 = .ok (.putfield 54, 3) := by decide +kernel
theorem d_Md_operation_56 : decode c_Md_operation 56 = .ok (.aload_n 0, 1) := by decide +kernel
theorem d_Md_operation_57 : decode c_Md_operation 57 = .ok (.getfield 54, 3) := by decide +kernel
theorem d_Md_operation_60 : decode c_Md_operation 60 = .ok (.ifCond .le 5, 3) := by decide +kernel
theorem d_Md_operation_63 : decode c_Md_operation 63 = .ok (.iconst 0, 1) := by decide +kernel
theorem d_Md_operation_64 : decode c_Md_operation 64 = .ok (.ireturn, 1) := by decide +kernel
theorem d_Md_operation_65 : decode c_Md_operation 65 = .ok (.bipush 32, 2) := by decide +kernel
theorem d_Md_operation_67 : decode c_Md_operation 67 = .ok (.iload_n 1, 1) := by decide +kernel
theorem d_Md_operation_68 : decode c_Md_operation 68 = .ok (.imul, 1) := by decide +kernel
theorem d_Md_operation_69 : decode c_Md_operation 69 = .ok (.iload_n 2, 1) := by decide +kernel
theorem d_Md_operation_70 : decode c_Md_operation 70 = .ok (.iadd, 1) := by decide +kernel
theorem d_Md_operation_71 : decode c_Md_operation 71 = .ok (.istore 4, 2) := by decide +kernel
theorem d_Md_operation_73 : decode c_Md_operation 73 = .ok (.iload_n 3, 1) := by decide +kernel
theorem d_Md_operation_74 : decode c_Md_operation 74 = .ok (.ifCond .ne 13, 3) := by decide +kernel
theorem d_Md_operation_77 : decode c_Md_operation 77 = .ok (.aload_n 0, 1) := by decide +kernel
theorem d_Md_operation_78 : decode c_Md_operation 78 = .ok (.getfield 20, 3) := by decide +kernel
theorem d_Md_operation_81 : decode c_Md_operation 81 = .ok (.iload 4, 2) := by decide +kernel
theorem d_Md_operation_83 : decode c_Md_operation 83 = .ok (.iaload, 1) := by decide +kernel
theorem d_Md_operation_84 : decode c_Md_operation 84 = .ok (.goto 40, 3) := by decide +kernel
theorem d_Md_operation_87 : decode c_Md_operation 87 = .ok (.iload_n 3, 1) := by decide +kernel
theorem d_Md_operation_88 : decode c_Md_operation 88 = .ok (.iconst 1, 1) := by decide +kernel
theorem d_Md_operation_89 : decode c_Md_operation 89 = .ok (.if_icmp .ne 13, 3) := by decide +kernel
theorem d_Md_operation_92 : decode c_Md_operation 92 = .ok (.aload_n 0, 1) := by decide +kernel
theorem d_Md_operation_93 : decode c_Md_operation 93 = .ok (.getfield 23, 3) := by decide +kernel
theorem d_Md_operation_96 : decode c_Md_operation 96 = .ok (.iload 4, 2) := by decide +kernel
theorem d_Md_operation_98 : decode c_Md_operation 98 = .ok (.iaload, 1) := by decide +kernel
theorem d_Md_operation_99 : decode c_Md_operation 99 = .ok (.goto 25, 3) := by decide +kernel
theorem d_Md_operation_102 : decode c_Md_operation 102 = .ok (.iload_n 3, 1) := by decide +kernel
theorem d_Md_operation_103 : decode c_Md_operation 103 = .ok (.iconst 2, 1) := by decide +kernel
theorem d_Md_operation_104 : decode c_Md_operation 104 = .ok (.if_icmp .ne 13, 3) := by decide +kernel
theorem d_Md_operation_107 : decode c_Md_operation 107 = .ok (.aload_n 0, 1) := by decide +kernel
theorem d_Md_operation_108 : decode c_Md_operation 108 = .ok (.getfield 26, 3) := by decide +kernel
theorem d_Md_operation_111 : decode c_Md_operation 111 = .ok (.iload 4, 2) := by decide +kernel
theorem d_Md_operation_113 : decode c_Md_operation 113 = .ok (.iaload, 1) := by decide +kernel
theorem d_Md_operation_114 : decode c_Md_operation 114 = .ok (.goto 10, 3) := by decide +kernel
theorem d_Md_operation_117 : decode c_Md_operation 117 = .ok (.aload_n 0, 1) := by decide +kernel
theorem d_Md_operation_118 : decode c_Md_operation 118 = .ok (.getfield 29, 3) := by decide +kernel
theorem d_Md_operation_121 : decode c_Md_operation 121 = .ok (.iload 4, 2) := by decide +kernel
theorem d_Md_operation_123 : decode c_Md_operation 123 = .ok (.iaload, 1) := by decide +kernel
theorem d_Md_operation_124 : decode c_Md_operation 124 = .ok (.ireturn, 1) := by decide +kernel
