theorem d_EP_init_0 : decode c_EP_init 0 = .ok (.aload_n 0, 1) := by decide +kernel
theorem d_EP_init_1 : decode c_EP_init 1 = .ok (.invokespecial 3, 3) := by decide +kernel
theorem d_EP_init_4 : decode c_EP_init 4 = .ok (.aload_n 0, 1) := by decide +kernel
theorem d_EP_init_5 : decode c_EP_init 5 = .ok (.iconst 4, 1) := by decide +kernel
theorem d_EP_init_6 : decode c_EP_init 6 = .ok (.anewarray 9, 3) := by decide +kernel
theorem d_EP_init_9 : decode c_EP_init 9 = .ok (.putfield 11, 3) := by decide +kernel
theorem d_EP_init_12 : decode c_EP_init 12 = .ok (.iconst 0, 1) := by decide +kernel
theorem d_EP_init_13 : decode c_EP_init 13 = .ok (.istore_n 1, 1) := by decide +kernel
theorem d_EP_init_14 : decode c_EP_init 14 = .ok (.iload_n 1, 1) := by decide +kernel
theorem d_EP_init_15 : decode c_EP_init 15 = .ok (.iconst 4, 1) := by decide +kernel
theorem d_EP_init_16 : decode c_EP_init 16 = .ok (.if_icmp .ge 22, 3) := by decide +kernel
theorem d_EP_init_19 : decode c_EP_init 19 = .ok (.aload_n 0, 1) := by decide +kernel
theorem d_EP_init_20 : decode c_EP_init 20 = .ok (.getfield 11, 3) := by decide +kernel
theorem d_EP_init_23 : decode c_EP_init 23 = .ok (.iload_n 1, 1) := by decide +kernel
theorem d_EP_init_24 : decode c_EP_init 24 = .ok (.new 9, 3) := by decide +kernel
theorem d_EP_init_27 : decode c_EP_init 27 = .ok (.dup, 1) := by decide +kernel
theorem d_EP_init_28 : decode c_EP_init 28 = .ok (.invokespecial 15, 3) := by decide +kernel
theorem d_EP_init_31 : decode c_EP_init 31 = .ok (.aastore, 1) := by decide +kernel
theorem d_EP_init_32 : decode c_EP_init 32 = .ok (.iinc 1 1, 3) := by decide +kernel
theorem d_EP_init_35 : decode c_EP_init 35 = .ok (.goto (-21), 3) := by decide +kernel
theorem d_EP_init_38 : decode c_EP_init 38 = .ok (.aload_n 0, 1) := by decide +kernel
theorem d_EP_init_39 : decode c_EP_init 39 = .ok (.new 16, 3) := by decide +kernel
theorem d_EP_init_42 : decode c_EP_init 42 = .ok (.dup, 1) := by decide +kernel
theorem d_EP_init_43 : decode c_EP_init 43 = .ok (.invokespecial 18, 3) := by decide +kernel
theorem d_EP_init_46 : decode c_EP_init 46 = .ok (.putfield 19, 3) := by decide +kernel
theorem d_EP_init_49 : decode c_EP_init 49 = .ok (.aload_n 0, 1) := by decide +kernel
theorem d_EP_init_50 : decode c_EP_init 50 = .ok (.new 23, 3) := by decide +kernel
theorem d_EP_init_53 : decode c_EP_init 53 = .ok (.dup, 1) := by decide +kernel
theorem d_EP_init_54 : decode c_EP_init 54 = .ok (.invokespecial 25, 3) := by decide +kernel
theorem d_EP_init_57 : decode c_EP_init 57 = .ok (.putfield 26, 3) := by decide +kernel
theorem d_EP_init_60 : decode c_EP_init 60 = .ok (.aload_n 0, 1) := by decide +kernel
theorem d_EP_init_61 : decode c_EP_init 61 = .ok (.new 30, 3) := by decide +kernel
theorem d_EP_init_64 : decode c_EP_init 64 = .ok (.dup, 1) := by decide +kernel
theorem d_EP_init_65 : decode c_EP_init 65 = .ok (.invokespecial 32, 3) := by decide +kernel
theorem d_EP_init_68 : decode c_EP_init 68 = .ok (.putfield 33, 3) := by decide +kernel
theorem d_EP_init_71 : decode c_EP_init 71 = .ok (.aload_n 0, 1) := by decide +kernel
theorem d_EP_init_72 : decode c_EP_init 72 = .ok (.new 37, 3) := by decide +kernel
theorem d_EP_init_75 : decode c_EP_init 75 = .ok (.dup, 1) := by decide +kernel
theorem d_EP_init_76 : decode c_EP_init 76 = .ok (.invokespecial 39, 3) := by decide +kernel
theorem d_EP_init_79 : decode c_EP_init 79 = .ok (.putfield 40, 3) := by decide +kernel
theorem d_EP_init_82 : decode c_EP_init 82 = .ok (.aload_n 0, 1) := by decide +kernel
theorem d_EP_init_83 : decode c_EP_init 83 = .ok (.new 44, 3) := by decide +kernel
theorem d_EP_init_86 : decode c_EP_init 86 = .ok (.dup, 1) := by decide +kernel
theorem d_EP_init_87 : decode c_EP_init 87 = .ok (.invokespecial 46, 3) := by decide +kernel
theorem d_EP_init_90 : decode c_EP_init 90 = .ok (.putfield 47, 3) := by decide +kernel
theorem d_EP_init_93 : decode c_EP_init 93 = .ok (.aload_n 0, 1) := by decide +kernel
theorem d_EP_init_94 : decode c_EP_init 94 = .ok (.new 51, 3) := by decide +kernel
theorem d_EP_init_97 : decode c_EP_init 97 = .ok (.dup, 1) := by decide +kernel
theorem d_EP_init_98 : decode c_EP_init 98 = .ok (.invokespecial 53, 3) := by decide +kernel
theorem d_EP_init_101 : decode c_EP_init 101 = .ok (.putfield 54, 3) := by decide +kernel
theorem d_EP_init_104 : decode c_EP_init 104 = .ok (.return_, 1) := by decide +kernel
theorem d_Co_init_0 : decode c_Co_init 0 = .ok (.aload_n 0, 1) := by decide +kernel
theorem d_Co_init_1 : decode c_Co_init 1 = .ok (.invokespecial 3, 3) := by decide +kernel
theorem d_Co_init_4 : decode c_Co_init 4 = .ok (.aload_n 0, 1) := by decide +kernel
theorem d_Co_init_5 : decode c_Co_init 5 = .ok (.iconst (-1), 1) := by decide +kernel
theorem d_Co_init_6 : decode c_Co_init 6 = .ok (.putfield 9, 3) := by decide +kernel
theorem d_Co_init_9 : decode c_Co_init 9 = .ok (.aload_n 0, 1) := by decide +kernel
theorem d_Co_init_10 : decode c_Co_init 10 = .ok (.new 15, 3) := by decide +kernel
theorem d_Co_init_13 : decode c_Co_init 13 = .ok (.dup, 1) := by decide +kernel
theorem d_Co_init_14 : decode c_Co_init 14 = .ok (.invokespecial 17, 3) := by decide +kernel
theorem d_Co_init_17 : decode c_Co_init 17 = .ok (.putfield 18, 3) := by decide +kernel
theorem d_Co_init_20 : decode c_Co_init 20 = .ok (.aload_n 0, 1) := by decide +kernel
theorem d_Co_init_21 : decode c_Co_init 21 = .ok (.new 15, 3) := by decide +kernel
theorem d_Co_init_24 : decode c_Co_init 24 = .ok (.dup, 1) := by decide +kernel
theorem d_Co_init_25 : decode c_Co_init 25 = .ok (.invokespecial 17, 3) := by decide +kernel
theorem d_Co_init_28 : decode c_Co_init 28 = .ok (.putfield 22, 3) := by decide +kernel
theorem d_Co_init_31 : decode c_Co_init 31 = .ok (.return_, 1) := by decide +kernel
theorem d_Li_init_0 : decode c_Li_init 0 = .ok (.aload_n 0, 1) := by decide +kernel
theorem d_Li_init_1 : decode c_Li_init 1 = .ok (.invokespecial 3, 3) := by decide +kernel
theorem d_Li_init_4 : decode c_Li_init 4 = .ok (.aload_n 0, 1) := by decide +kernel
theorem d_Li_init_5 : decode c_Li_init 5 = .ok (.bipush 32, 2) := by decide +kernel
theorem d_Li_init_7 : decode c_Li_init 7 = .ok (.newarray .int, 2) := by decide +kernel
theorem d_Li_init_9 : decode c_Li_init 9 = .ok (.putfield 9, 3) := by decide +kernel
theorem d_Li_init_12 : decode c_Li_init 12 = .ok (.aload_n 0, 1) := by decide +kernel
theorem d_Li_init_13 : decode c_Li_init 13 = .ok (.bipush 32, 2) := by decide +kernel
theorem d_Li_init_15 : decode c_Li_init 15 = .ok (.newarray .int, 2) := by decide +kernel
theorem d_Li_init_17 : decode c_Li_init 17 = .ok (.putfield 15, 3) := by decide +kernel
theorem d_Li_init_20 : decode c_Li_init 20 = .ok (.aload_n 0, 1) := by decide +kernel
theorem d_Li_init_21 : decode c_Li_init 21 = .ok (.bipush 32, 2) := by decide +kernel
theorem d_Li_init_23 : decode c_Li_init 23 = .ok (.newarray .int, 2) := by decide +kernel
theorem d_Li_init_25 : decode c_Li_init 25 = .ok (.putfield 18, 3) := by decide +kernel
theorem d_Li_init_28 : decode c_Li_init 28 = .ok (.aload_n 0, 1) := by decide +kernel
theorem d_Li_init_29 : decode c_Li_init 29 = .ok (.bipush 32, 2) := by decide +kernel
theorem d_Li_init_31 : decode c_Li_init 31 = .ok (.newarray .int, 2) := by decide +kernel
theorem d_Li_init_33 : decode c_Li_init 33 = .ok (.putfield 21, 3) := by decide +kernel
theorem d_Li_init_36 : decode c_Li_init 36 = .ok (.aload_n 0, 1) := by decide +kernel
theorem d_Li_init_37 : decode c_Li_init 37 = .ok (.bipush 32, 2) := by decide +kernel
theorem d_Li_init_39 : decode c_Li_init 39 = .ok (.newarray .long, 2) := by decide +kernel
theorem d_Li_init_41 : decode c_Li_init 41 = .ok (.putfield 24, 3) := by decide +kernel
theorem d_Li_init_44 : decode c_Li_init 44 = .ok (.aload_n 0, 1) := by decide +kernel
theorem d_Li_init_45 : decode c_Li_init 45 = .ok (.bipush 32, 2) := by decide +kernel
theorem d_Li_init_47 : decode c_Li_init 47 = .ok (.newarray .boolean, 2) := by decide +kernel
theorem d_Li_init_49 : decode c_Li_init 49 = .ok (.putfield 28, 3) := by decide +kernel
theorem d_Li_init_52 : decode c_Li_init 52 = .ok (.return_, 1) := by decide +kernel
theorem d_Qu_init_0 : decode c_Qu_init 0 = .ok (.aload_n 0, 1) := by decide +kernel
theorem d_Qu_init_1 : decode c_Qu_init 1 = .ok (.invokespecial 1, 3) := by decide +kernel
theorem d_Qu_init_4 : decode c_Qu_init 4 = .ok (.return_, 1) := by decide +kernel
theorem d_Ba_init_0 : decode c_Ba_init 0 = .ok (.aload_n 0, 1) := by decide +kernel
theorem d_Ba_init_1 : decode c_Ba_init 1 = .ok (.invokespecial 3, 3) := by decide +kernel
theorem d_Ba_init_4 : decode c_Ba_init 4 = .ok (.aload_n 0, 1) := by decide +kernel
theorem d_Ba_init_5 : decode c_Ba_init 5 = .ok (.bipush 32, 2) := by decide +kernel
theorem d_Ba_init_7 : decode c_Ba_init 7 = .ok (.newarray .int, 2) := by decide +kernel
theorem d_Ba_init_9 : decode c_Ba_init 9 = .ok (.putfield 9, 3) := by decide +kernel
theorem d_Ba_init_12 : decode c_Ba_init 12 = .ok (.return_, 1) := by decide +kernel
theorem d_Ct_init_0 : decode c_Ct_init 0 = .ok (.aload_n 0, 1) := by decide +kernel
theorem d_Ct_init_1 : decode c_Ct_init 1 = .ok (.invokespecial 1, 3) := by decide +kernel
theorem d_Ct_init_4 : decode c_Ct_init 4 = .ok (.return_, 1) := by decide +kernel
theorem d_St_init_0 : decode c_St_init 0 = .ok (.aload_n 0, 1) := by decide +kernel
theorem d_St_init_1 : decode c_St_init 1 = .ok (.invokespecial 1, 3) := by decide +kernel
theorem d_St_init_4 : decode c_St_init 4 = .ok (.return_, 1) := by decide +kernel
theorem d_Ta_init_0 : decode c_Ta_init 0 = .ok (.aload_n 0, 1) := by decide +kernel
theorem d_Ta_init_1 : decode c_Ta_init 1 = .ok (.invokespecial 3, 3) := by decide +kernel
theorem d_Ta_init_4 : decode c_Ta_init 4 = .ok (.aload_n 0, 1) := by decide +kernel
theorem d_Ta_init_5 : decode c_Ta_init 5 = .ok (.bipush 32, 2) := by decide +kernel
theorem d_Ta_init_7 : decode c_Ta_init 7 = .ok (.newarray .int, 2) := by decide +kernel
theorem d_Ta_init_9 : decode c_Ta_init 9 = .ok (.putfield 9, 3) := by decide +kernel
theorem d_Ta_init_12 : decode c_Ta_init 12 = .ok (.aload_n 0, 1) := by decide +kernel
theorem d_Ta_init_13 : decode c_Ta_init 13 = .ok (.bipush 32, 2) := by decide +kernel
theorem d_Ta_init_15 : decode c_Ta_init 15 = .ok (.newarray .int, 2) := by decide +kernel
theorem d_Ta_init_17 : decode c_Ta_init 17 = .ok (.putfield 15, 3) := by decide +kernel
theorem d_Ta_init_20 : decode c_Ta_init 20 = .ok (.return_, 1) := by decide +kernel
theorem d_He_init_0 : decode c_He_init 0 = .ok (.aload_n 0, 1) := by decide +kernel
theorem d_He_init_1 : decode c_He_init 1 = .ok (.invokespecial 1, 3) := by decide +kernel
theorem d_He_init_4 : decode c_He_init 4 = .ok (.return_, 1) := by decide +kernel
theorem d_Re_init_0 : decode c_Re_init 0 = .ok (.aload_n 0, 1) := by decide +kernel
theorem d_Re_init_1 : decode c_Re_init 1 = .ok (.invokespecial 3, 3) := by decide +kernel
theorem d_Re_init_4 : decode c_Re_init 4 = .ok (.return_, 1) := by decide +kernel
theorem d_Se_init_0 : decode c_Se_init 0 = .ok (.aload_n 0, 1) := by decide +kernel
theorem d_Se_init_1 : decode c_Se_init 1 = .ok (.invokespecial 3, 3) := by decide +kernel
theorem d_Se_init_4 : decode c_Se_init 4 = .ok (.aload_n 0, 1) := by decide +kernel
theorem d_Se_init_5 : decode c_Se_init 5 = .ok (.bipush 16, 2) := by decide +kernel
theorem d_Se_init_7 : decode c_Se_init 7 = .ok (.newarray .int, 2) := by decide +kernel
theorem d_Se_init_9 : decode c_Se_init 9 = .ok (.putfield 9, 3) := by decide +kernel
theorem d_Se_init_12 : decode c_Se_init 12 = .ok (.return_, 1) := by decide +kernel
theorem d_EP_open_0 : decode c_EP_open 0 = .ok (.iload_n 2, 1) := by decide +kernel
theorem d_EP_open_1 : decode c_EP_open 1 = .ok (.ifCond .lt 8, 3) := by decide +kernel
theorem d_EP_open_4 : decode c_EP_open 4 = .ok (.iload_n 2, 1) := by decide +kernel
theorem d_EP_open_5 : decode c_EP_open 5 = .ok (.iconst 5, 1) := by decide +kernel
theorem d_EP_open_6 : decode c_EP_open 6 = .ok (.if_icmp .le 13, 3) := by decide +kernel
theorem d_EP_open_9 : decode c_EP_open 9 = .ok (.new 58, 3) := by decide +kernel
theorem d_EP_open_12 : decode c_EP_open 12 = .ok (.dup, 1) := by decide +kernel
theorem d_EP_open_13 : decode c_EP_open 13 = .ok (.ldc 60, 2) := by decide +kernel
theorem d_EP_open_15 : decode c_EP_open 15 = .ok (.invokespecial 62, 3) := by decide +kernel
theorem d_EP_open_18 : decode c_EP_open 18 = .ok (.athrow, 1) := by decide +kernel
theorem d_EP_open_19 : decode c_EP_open 19 = .ok (.aload_n 0, 1) := by decide +kernel
theorem d_EP_open_20 : decode c_EP_open 20 = .ok (.iload_n 1, 1) := by decide +kernel
theorem d_EP_open_21 : decode c_EP_open 21 = .ok (.invokevirtual 65, 3) := by decide +kernel
theorem d_EP_open_24 : decode c_EP_open 24 = .ok (.astore_n 3, 1) := by decide +kernel
theorem d_EP_open_25 : decode c_EP_open 25 = .ok (.aload_n 3, 1) := by decide +kernel
theorem d_EP_open_26 : decode c_EP_open 26 = .ok (.getfield 69, 3) := by decide +kernel
theorem d_EP_open_29 : decode c_EP_open 29 = .ok (.iconst (-1), 1) := by decide +kernel
theorem d_EP_open_30 : decode c_EP_open 30 = .ok (.if_icmp .eq 13, 3) := by decide +kernel
theorem d_EP_open_33 : decode c_EP_open 33 = .ok (.new 73, 3) := by decide +kernel
theorem d_EP_open_36 : decode c_EP_open 36 = .ok (.dup, 1) := by decide +kernel
theorem d_EP_open_37 : decode c_EP_open 37 = .ok (.ldc 75, 2) := by decide +kernel
theorem d_EP_open_39 : decode c_EP_open 39 = .ok (.invokespecial 77, 3) := by decide +kernel
theorem d_EP_open_42 : decode c_EP_open 42 = .ok (.athrow, 1) := by decide +kernel
theorem d_EP_open_43 : decode c_EP_open 43 = .ok (.aload_n 3, 1) := by decide +kernel
theorem d_EP_open_44 : decode c_EP_open 44 = .ok (.iload_n 2, 1) := by decide +kernel
theorem d_EP_open_45 : decode c_EP_open 45 = .ok (.putfield 69, 3) := by decide +kernel
theorem d_EP_open_48 : decode c_EP_open 48 = .ok (.aload_n 3, 1) := by decide +kernel
theorem d_EP_open_49 : decode c_EP_open 49 = .ok (.getfield 78, 3) := by decide +kernel
theorem d_EP_open_52 : decode c_EP_open 52 = .ok (.iconst 0, 1) := by decide +kernel
theorem d_EP_open_53 : decode c_EP_open 53 = .ok (.putfield 82, 3) := by decide +kernel
theorem d_EP_open_56 : decode c_EP_open 56 = .ok (.aload_n 3, 1) := by decide +kernel
theorem d_EP_open_57 : decode c_EP_open 57 = .ok (.getfield 87, 3) := by decide +kernel
theorem d_EP_open_60 : decode c_EP_open 60 = .ok (.iconst 0, 1) := by decide +kernel
theorem d_EP_open_61 : decode c_EP_open 61 = .ok (.putfield 82, 3) := by decide +kernel
theorem d_EP_open_64 : decode c_EP_open 64 = .ok (.return_, 1) := by decide +kernel
theorem d_EP_collectionOf_0 : decode c_EP_collectionOf 0 = .ok (.iload_n 1, 1) := by decide +kernel
theorem d_EP_collectionOf_1 : decode c_EP_collectionOf 1 = .ok (.ifCond .lt 8, 3) := by decide +kernel
theorem d_EP_collectionOf_4 : decode c_EP_collectionOf 4 = .ok (.iload_n 1, 1) := by decide +kernel
theorem d_EP_collectionOf_5 : decode c_EP_collectionOf 5 = .ok (.iconst 4, 1) := by decide +kernel
theorem d_EP_collectionOf_6 : decode c_EP_collectionOf 6 = .ok (.if_icmp .lt 13, 3) := by decide +kernel
theorem d_EP_collectionOf_9 : decode c_EP_collectionOf 9 = .ok (.new 58, 3) := by decide +kernel
theorem d_EP_collectionOf_12 : decode c_EP_collectionOf 12 = .ok (.dup, 1) := by decide +kernel
theorem d_EP_collectionOf_13 : decode c_EP_collectionOf 13 = .ok (.ldc 223, 2) := by decide +kernel
theorem d_EP_collectionOf_15 : decode c_EP_collectionOf 15 = .ok (.invokespecial 62, 3) := by decide +kernel
theorem d_EP_collectionOf_18 : decode c_EP_collectionOf 18 = .ok (.athrow, 1) := by decide +kernel
theorem d_EP_collectionOf_19 : decode c_EP_collectionOf 19 = .ok (.aload_n 0, 1) := by decide +kernel
theorem d_EP_collectionOf_20 : decode c_EP_collectionOf 20 = .ok (.getfield 11, 3) := by decide +kernel
theorem d_EP_collectionOf_23 : decode c_EP_collectionOf 23 = .ok (.iload_n 1, 1) := by decide +kernel
theorem d_EP_collectionOf_24 : decode c_EP_collectionOf 24 = .ok (.aaload, 1) := by decide +kernel
theorem d_EP_collectionOf_25 : decode c_EP_collectionOf 25 = .ok (.areturn, 1) := by decide +kernel
theorem d_EP_close_0 : decode c_EP_close 0 = .ok (.aload_n 0, 1) := by decide +kernel
theorem d_EP_close_1 : decode c_EP_close 1 = .ok (.iload_n 1, 1) := by decide +kernel
theorem d_EP_close_2 : decode c_EP_close 2 = .ok (.invokevirtual 90, 3) := by decide +kernel
theorem d_EP_close_5 : decode c_EP_close 5 = .ok (.astore_n 2, 1) := by decide +kernel
theorem d_EP_close_6 : decode c_EP_close 6 = .ok (.aload_n 2, 1) := by decide +kernel
theorem d_EP_close_7 : decode c_EP_close 7 = .ok (.iconst (-1), 1) := by decide +kernel
theorem d_EP_close_8 : decode c_EP_close 8 = .ok (.putfield 69, 3) := by decide +kernel
theorem d_EP_close_11 : decode c_EP_close 11 = .ok (.aload_n 2, 1) := by decide +kernel
theorem d_EP_close_12 : decode c_EP_close 12 = .ok (.getfield 87, 3) := by decide +kernel
theorem d_EP_close_15 : decode c_EP_close 15 = .ok (.getfield 82, 3) := by decide +kernel
theorem d_EP_close_18 : decode c_EP_close 18 = .ok (.ireturn, 1) := by decide +kernel
theorem d_EP_openCollection_0 : decode c_EP_openCollection 0 = .ok (.aload_n 0, 1) := by decide +kernel
theorem d_EP_openCollection_1 : decode c_EP_openCollection 1 = .ok (.iload_n 1, 1) := by decide +kernel
theorem d_EP_openCollection_2 : decode c_EP_openCollection 2 = .ok (.invokevirtual 65, 3) := by decide +kernel
theorem d_EP_openCollection_5 : decode c_EP_openCollection 5 = .ok (.astore_n 2, 1) := by decide +kernel
theorem d_EP_openCollection_6 : decode c_EP_openCollection 6 = .ok (.aload_n 2, 1) := by decide +kernel
theorem d_EP_openCollection_7 : decode c_EP_openCollection 7 = .ok (.getfield 69, 3) := by decide +kernel
theorem d_EP_openCollection_10 : decode c_EP_openCollection 10 = .ok (.iconst (-1), 1) := by decide +kernel
theorem d_EP_openCollection_11 : decode c_EP_openCollection 11 = .ok (.if_icmp .ne 13, 3) := by decide +kernel
theorem d_EP_openCollection_14 : decode c_EP_openCollection 14 = .ok (.new 73, 3) := by decide +kernel
theorem d_EP_openCollection_17 : decode c_EP_openCollection 17 = .ok (.dup, 1) := by decide +kernel
theorem d_EP_openCollection_18 : decode c_EP_openCollection 18 = .ok (.ldc 225, 2) := by decide +kernel
theorem d_EP_openCollection_20 : decode c_EP_openCollection 20 = .ok (.invokespecial 77, 3) := by decide +kernel
theorem d_EP_openCollection_23 : decode c_EP_openCollection 23 = .ok (.athrow, 1) := by decide +kernel
theorem d_EP_openCollection_24 : decode c_EP_openCollection 24 = .ok (.aload_n 2, 1) := by decide +kernel
theorem d_EP_openCollection_25 : decode c_EP_openCollection 25 = .ok (.areturn, 1) := by decide +kernel
theorem d_EP_put_0 : decode c_EP_put 0 = .ok (.iload_n 2, 1) := by decide +kernel
theorem d_EP_put_1 : decode c_EP_put 1 = .ok (.invokestatic 93, 3) := by decide +kernel
theorem d_EP_put_4 : decode c_EP_put 4 = .ok (.aload_n 0, 1) := by decide +kernel
theorem d_EP_put_5 : decode c_EP_put 5 = .ok (.iload_n 1, 1) := by decide +kernel
theorem d_EP_put_6 : decode c_EP_put 6 = .ok (.invokevirtual 90, 3) := by decide +kernel
theorem d_EP_put_9 : decode c_EP_put 9 = .ok (.astore 6, 2) := by decide +kernel
theorem d_EP_put_11 : decode c_EP_put 11 = .ok (.aload 6, 2) := by decide +kernel
theorem d_EP_put_13 : decode c_EP_put 13 = .ok (.getfield 87, 3) := by decide +kernel
theorem d_EP_put_16 : decode c_EP_put 16 = .ok (.iload_n 2, 1) := by decide +kernel
theorem d_EP_put_17 : decode c_EP_put 17 = .ok (.invokestatic 97, 3) := by decide +kernel
theorem d_EP_put_20 : decode c_EP_put 20 = .ok (.aload 6, 2) := by decide +kernel
theorem d_EP_put_22 : decode c_EP_put 22 = .ok (.getfield 87, 3) := by decide +kernel
theorem d_EP_put_25 : decode c_EP_put 25 = .ok (.getfield 82, 3) := by decide +kernel
theorem d_EP_put_28 : decode c_EP_put 28 = .ok (.bipush 32, 2) := by decide +kernel
theorem d_EP_put_30 : decode c_EP_put 30 = .ok (.if_icmp .lt 13, 3) := by decide +kernel
theorem d_EP_put_33 : decode c_EP_put 33 = .ok (.new 73, 3) := by decide +kernel
theorem d_EP_put_36 : decode c_EP_put 36 = .ok (.dup, 1) := by decide +kernel
theorem d_EP_put_37 : decode c_EP_put 37 = .ok (.ldc 101, 2) := by decide +kernel
theorem d_EP_put_39 : decode c_EP_put 39 = .ok (.invokespecial 77, 3) := by decide +kernel
theorem d_EP_put_42 : decode c_EP_put 42 = .ok (.athrow, 1) := by decide +kernel
theorem d_EP_put_43 : decode c_EP_put 43 = .ok (.aload_n 0, 1) := by decide +kernel
theorem d_EP_put_44 : decode c_EP_put 44 = .ok (.aload 6, 2) := by decide +kernel
theorem d_EP_put_46 : decode c_EP_put 46 = .ok (.getfield 69, 3) := by decide +kernel
theorem d_EP_put_49 : decode c_EP_put 49 = .ok (.invokevirtual 103, 3) := by decide +kernel
theorem d_EP_put_52 : decode c_EP_put 52 = .ok (.iload_n 3, 1) := by decide +kernel
theorem d_EP_put_53 : decode c_EP_put 53 = .ok (.iload 4, 2) := by decide +kernel
theorem d_EP_put_55 : decode c_EP_put 55 = .ok (.iload 5, 2) := by decide +kernel
theorem d_EP_put_57 : decode c_EP_put 57 = .ok (.invokevirtual 107, 3) := by decide +kernel
theorem d_EP_put_60 : decode c_EP_put 60 = .ok (.ifCond .ne 13, 3) := by decide +kernel
theorem d_EP_put_63 : decode c_EP_put 63 = .ok (.new 113, 3) := by decide +kernel
theorem d_EP_put_66 : decode c_EP_put 66 = .ok (.dup, 1) := by decide +kernel
theorem d_EP_put_67 : decode c_EP_put 67 = .ok (.ldc 115, 2) := by decide +kernel
theorem d_EP_put_69 : decode c_EP_put 69 = .ok (.invokespecial 117, 3) := by decide +kernel
theorem d_EP_put_72 : decode c_EP_put 72 = .ok (.athrow, 1) := by decide +kernel
theorem d_EP_put_73 : decode c_EP_put 73 = .ok (.aload 6, 2) := by decide +kernel
theorem d_EP_put_75 : decode c_EP_put 75 = .ok (.getfield 78, 3) := by decide +kernel
theorem d_EP_put_78 : decode c_EP_put 78 = .ok (.aload 6, 2) := by decide +kernel
theorem d_EP_put_80 : decode c_EP_put 80 = .ok (.getfield 87, 3) := by decide +kernel
theorem d_EP_put_83 : decode c_EP_put 83 = .ok (.invokevirtual 118, 3) := by decide +kernel
theorem d_EP_put_86 : decode c_EP_put 86 = .ok (.aload 6, 2) := by decide +kernel
theorem d_EP_put_88 : decode c_EP_put 88 = .ok (.getfield 87, 3) := by decide +kernel
theorem d_EP_put_91 : decode c_EP_put 91 = .ok (.iload_n 2, 1) := by decide +kernel
theorem d_EP_put_92 : decode c_EP_put 92 = .ok (.iload_n 3, 1) := by decide +kernel
theorem d_EP_put_93 : decode c_EP_put 93 = .ok (.iload 4, 2) := by decide +kernel
theorem d_EP_put_95 : decode c_EP_put 95 = .ok (.iload 5, 2) := by decide +kernel
theorem d_EP_put_97 : decode c_EP_put 97 = .ok (.invokevirtual 122, 3) := by decide +kernel
theorem d_EP_put_100 : decode c_EP_put 100 = .ok (.aload 6, 2) := by decide +kernel
theorem d_EP_put_102 : decode c_EP_put 102 = .ok (.getfield 87, 3) := by decide +kernel
theorem d_EP_put_105 : decode c_EP_put 105 = .ok (.aload_n 0, 1) := by decide +kernel
theorem d_EP_put_106 : decode c_EP_put 106 = .ok (.aload 6, 2) := by decide +kernel
theorem d_EP_put_108 : decode c_EP_put 108 = .ok (.getfield 69, 3) := by decide +kernel
theorem d_EP_put_111 : decode c_EP_put 111 = .ok (.invokevirtual 103, 3) := by decide +kernel
theorem d_EP_put_114 : decode c_EP_put 114 = .ok (.invokevirtual 126, 3) := by decide +kernel
theorem d_EP_put_117 : decode c_EP_put 117 = .ok (.return_, 1) := by decide +kernel
theorem d_EP_checkMoment_0 : decode c_EP_checkMoment 0 = .ok (.iload_n 0, 1) := by decide +kernel
theorem d_EP_checkMoment_1 : decode c_EP_checkMoment 1 = .ok (.iconst 1, 1) := by decide +kernel
theorem d_EP_checkMoment_2 : decode c_EP_checkMoment 2 = .ok (.if_icmp .lt 9, 3) := by decide +kernel
theorem d_EP_checkMoment_5 : decode c_EP_checkMoment 5 = .ok (.iload_n 0, 1) := by decide +kernel
theorem d_EP_checkMoment_6 : decode c_EP_checkMoment 6 = .ok (.ldc 227, 2) := by decide +kernel
theorem d_EP_checkMoment_8 : decode c_EP_checkMoment 8 = .ok (.if_icmp .le 13, 3) := by decide +kernel
theorem d_EP_checkMoment_11 : decode c_EP_checkMoment 11 = .ok (.new 58, 3) := by decide +kernel
theorem d_EP_checkMoment_14 : decode c_EP_checkMoment 14 = .ok (.dup, 1) := by decide +kernel
theorem d_EP_checkMoment_15 : decode c_EP_checkMoment 15 = .ok (.ldc 228, 2) := by decide +kernel
theorem d_EP_checkMoment_17 : decode c_EP_checkMoment 17 = .ok (.invokespecial 62, 3) := by decide +kernel
theorem d_EP_checkMoment_20 : decode c_EP_checkMoment 20 = .ok (.athrow, 1) := by decide +kernel
theorem d_EP_checkMoment_21 : decode c_EP_checkMoment 21 = .ok (.return_, 1) := by decide +kernel
theorem d_EP_checkFree_0 : decode c_EP_checkFree 0 = .ok (.aload_n 0, 1) := by decide +kernel
theorem d_EP_checkFree_1 : decode c_EP_checkFree 1 = .ok (.iload_n 1, 1) := by decide +kernel
theorem d_EP_checkFree_2 : decode c_EP_checkFree 2 = .ok (.invokevirtual 130, 3) := by decide +kernel
theorem d_EP_checkFree_5 : decode c_EP_checkFree 5 = .ok (.iconst (-1), 1) := by decide +kernel
theorem d_EP_checkFree_6 : decode c_EP_checkFree 6 = .ok (.if_icmp .eq 13, 3) := by decide +kernel
theorem d_EP_checkFree_9 : decode c_EP_checkFree 9 = .ok (.new 73, 3) := by decide +kernel
theorem d_EP_checkFree_12 : decode c_EP_checkFree 12 = .ok (.dup, 1) := by decide +kernel
theorem d_EP_checkFree_13 : decode c_EP_checkFree 13 = .ok (.ldc 232, 2) := by decide +kernel
theorem d_EP_checkFree_15 : decode c_EP_checkFree 15 = .ok (.invokespecial 77, 3) := by decide +kernel
theorem d_EP_checkFree_18 : decode c_EP_checkFree 18 = .ok (.athrow, 1) := by decide +kernel
theorem d_EP_checkFree_19 : decode c_EP_checkFree 19 = .ok (.return_, 1) := by decide +kernel
theorem d_Li_placeAt_0 : decode c_Li_placeAt 0 = .ok (.aload_n 0, 1) := by decide +kernel
theorem d_Li_placeAt_1 : decode c_Li_placeAt 1 = .ok (.iload_n 1, 1) := by decide +kernel
theorem d_Li_placeAt_2 : decode c_Li_placeAt 2 = .ok (.invokevirtual 36, 3) := by decide +kernel
theorem d_Li_placeAt_5 : decode c_Li_placeAt 5 = .ok (.istore_n 2, 1) := by decide +kernel
theorem d_Li_placeAt_6 : decode c_Li_placeAt 6 = .ok (.iload_n 2, 1) := by decide +kernel
theorem d_Li_placeAt_7 : decode c_Li_placeAt 7 = .ok (.aload_n 0, 1) := by decide +kernel
theorem d_Li_placeAt_8 : decode c_Li_placeAt 8 = .ok (.getfield 32, 3) := by decide +kernel
theorem d_Li_placeAt_11 : decode c_Li_placeAt 11 = .ok (.if_icmp .ge 17, 3) := by decide +kernel
theorem d_Li_placeAt_14 : decode c_Li_placeAt 14 = .ok (.aload_n 0, 1) := by decide +kernel
theorem d_Li_placeAt_15 : decode c_Li_placeAt 15 = .ok (.getfield 9, 3) := by decide +kernel
theorem d_Li_placeAt_18 : decode c_Li_placeAt 18 = .ok (.iload_n 2, 1) := by decide +kernel
theorem d_Li_placeAt_19 : decode c_Li_placeAt 19 = .ok (.iaload, 1) := by decide +kernel
theorem d_Li_placeAt_20 : decode c_Li_placeAt 20 = .ok (.iload_n 1, 1) := by decide +kernel
theorem d_Li_placeAt_21 : decode c_Li_placeAt 21 = .ok (.if_icmp .ne 7, 3) := by decide +kernel
theorem d_Li_placeAt_24 : decode c_Li_placeAt 24 = .ok (.iload_n 2, 1) := by decide +kernel
theorem d_Li_placeAt_25 : decode c_Li_placeAt 25 = .ok (.goto 4, 3) := by decide +kernel
theorem d_Li_placeAt_28 : decode c_Li_placeAt 28 = .ok (.iconst (-1), 1) := by decide +kernel
theorem d_Li_placeAt_29 : decode c_Li_placeAt 29 = .ok (.ireturn, 1) := by decide +kernel
theorem d_Li_placeFrom_0 : decode c_Li_placeFrom 0 = .ok (.iconst 0, 1) := by decide +kernel
theorem d_Li_placeFrom_1 : decode c_Li_placeFrom 1 = .ok (.istore_n 2, 1) := by decide +kernel
theorem d_Li_placeFrom_2 : decode c_Li_placeFrom 2 = .ok (.iload_n 2, 1) := by decide +kernel
theorem d_Li_placeFrom_3 : decode c_Li_placeFrom 3 = .ok (.aload_n 0, 1) := by decide +kernel
theorem d_Li_placeFrom_4 : decode c_Li_placeFrom 4 = .ok (.getfield 32, 3) := by decide +kernel
theorem d_Li_placeFrom_7 : decode c_Li_placeFrom 7 = .ok (.if_icmp .ge 19, 3) := by decide +kernel
theorem d_Li_placeFrom_10 : decode c_Li_placeFrom 10 = .ok (.aload_n 0, 1) := by decide +kernel
theorem d_Li_placeFrom_11 : decode c_Li_placeFrom 11 = .ok (.getfield 9, 3) := by decide +kernel
theorem d_Li_placeFrom_14 : decode c_Li_placeFrom 14 = .ok (.iload_n 2, 1) := by decide +kernel
theorem d_Li_placeFrom_15 : decode c_Li_placeFrom 15 = .ok (.iaload, 1) := by decide +kernel
theorem d_Li_placeFrom_16 : decode c_Li_placeFrom 16 = .ok (.iload_n 1, 1) := by decide +kernel
theorem d_Li_placeFrom_17 : decode c_Li_placeFrom 17 = .ok (.if_icmp .ge 9, 3) := by decide +kernel
theorem d_Li_placeFrom_20 : decode c_Li_placeFrom 20 = .ok (.iinc 2 1, 3) := by decide +kernel
theorem d_Li_placeFrom_23 : decode c_Li_placeFrom 23 = .ok (.goto (-21), 3) := by decide +kernel
theorem d_Li_placeFrom_26 : decode c_Li_placeFrom 26 = .ok (.iload_n 2, 1) := by decide +kernel
theorem d_Li_placeFrom_27 : decode c_Li_placeFrom 27 = .ok (.ireturn, 1) := by decide +kernel
theorem d_EP_contentsOf_0 : decode c_EP_contentsOf 0 = .ok (.iload_n 1, 1) := by decide +kernel
theorem d_EP_contentsOf_1 : decode c_EP_contentsOf 1 = .ok (.tableswitch 60 0 4 #[35, 40, 45, 50, 55], 35) := by decide +kernel
theorem d_EP_contentsOf_36 : decode c_EP_contentsOf 36 = .ok (.aload_n 0, 1) := by decide +kernel
theorem d_EP_contentsOf_37 : decode c_EP_contentsOf 37 = .ok (.getfield 19, 3) := by decide +kernel
theorem d_EP_contentsOf_40 : decode c_EP_contentsOf 40 = .ok (.areturn, 1) := by decide +kernel
theorem d_EP_contentsOf_41 : decode c_EP_contentsOf 41 = .ok (.aload_n 0, 1) := by decide +kernel
theorem d_EP_contentsOf_42 : decode c_EP_contentsOf 42 = .ok (.getfield 26, 3) := by decide +kernel
theorem d_EP_contentsOf_45 : decode c_EP_contentsOf 45 = .ok (.areturn, 1) := by decide +kernel
theorem d_EP_contentsOf_46 : decode c_EP_contentsOf 46 = .ok (.aload_n 0, 1) := by decide +kernel
theorem d_EP_contentsOf_47 : decode c_EP_contentsOf 47 = .ok (.getfield 33, 3) := by decide +kernel
theorem d_EP_contentsOf_50 : decode c_EP_contentsOf 50 = .ok (.areturn, 1) := by decide +kernel
theorem d_EP_contentsOf_51 : decode c_EP_contentsOf 51 = .ok (.aload_n 0, 1) := by decide +kernel
theorem d_EP_contentsOf_52 : decode c_EP_contentsOf 52 = .ok (.getfield 40, 3) := by decide +kernel
theorem d_EP_contentsOf_55 : decode c_EP_contentsOf 55 = .ok (.areturn, 1) := by decide +kernel
theorem d_EP_contentsOf_56 : decode c_EP_contentsOf 56 = .ok (.aload_n 0, 1) := by decide +kernel
theorem d_EP_contentsOf_57 : decode c_EP_contentsOf 57 = .ok (.getfield 47, 3) := by decide +kernel
theorem d_EP_contentsOf_60 : decode c_EP_contentsOf 60 = .ok (.areturn, 1) := by decide +kernel
theorem d_EP_contentsOf_61 : decode c_EP_contentsOf 61 = .ok (.aload_n 0, 1) := by decide +kernel
theorem d_EP_contentsOf_62 : decode c_EP_contentsOf 62 = .ok (.getfield 54, 3) := by decide +kernel
theorem d_EP_contentsOf_65 : decode c_EP_contentsOf 65 = .ok (.areturn, 1) := by decide +kernel
theorem d_Ba_allows_0 : decode c_Ba_allows 0 = .ok (.iload_n 3, 1) := by decide +kernel
theorem d_Ba_allows_1 : decode c_Ba_allows 1 = .ok (.ifCond .ne 28, 3) := by decide +kernel
theorem d_Ba_allows_4 : decode c_Ba_allows 4 = .ok (.iload_n 1, 1) := by decide +kernel
theorem d_Ba_allows_5 : decode c_Ba_allows 5 = .ok (.iconst 1, 1) := by decide +kernel
theorem d_Ba_allows_6 : decode c_Ba_allows 6 = .ok (.if_icmp .ne 10, 3) := by decide +kernel
theorem d_Ba_allows_9 : decode c_Ba_allows 9 = .ok (.iload_n 2, 1) := by decide +kernel
theorem d_Ba_allows_10 : decode c_Ba_allows 10 = .ok (.invokestatic 15, 3) := by decide +kernel
theorem d_Ba_allows_13 : decode c_Ba_allows 13 = .ok (.ifCond .ne 12, 3) := by decide +kernel
theorem d_Ba_allows_16 : decode c_Ba_allows 16 = .ok (.iload_n 1, 1) := by decide +kernel
theorem d_Ba_allows_17 : decode c_Ba_allows 17 = .ok (.iconst 2, 1) := by decide +kernel
theorem d_Ba_allows_18 : decode c_Ba_allows 18 = .ok (.if_icmp .ne 11, 3) := by decide +kernel
theorem d_Ba_allows_21 : decode c_Ba_allows 21 = .ok (.iload_n 2, 1) := by decide +kernel
theorem d_Ba_allows_22 : decode c_Ba_allows 22 = .ok (.ifCond .ne 7, 3) := by decide +kernel
theorem d_Ba_allows_25 : decode c_Ba_allows 25 = .ok (.iconst 1, 1) := by decide +kernel
theorem d_Ba_allows_26 : decode c_Ba_allows 26 = .ok (.goto 4, 3) := by decide +kernel
theorem d_Ba_allows_29 : decode c_Ba_allows 29 = .ok (.iconst 0, 1) := by decide +kernel
theorem d_Ba_allows_30 : decode c_Ba_allows 30 = .ok (.ireturn, 1) := by decide +kernel
theorem d_EP_isValue_0 : decode c_EP_isValue 0 = .ok (.iload_n 0, 1) := by decide +kernel
theorem d_EP_isValue_1 : decode c_EP_isValue 1 = .ok (.ifCond .lt 13, 3) := by decide +kernel
theorem d_EP_isValue_4 : decode c_EP_isValue 4 = .ok (.iload_n 0, 1) := by decide +kernel
theorem d_EP_isValue_5 : decode c_EP_isValue 5 = .ok (.ldc 227, 2) := by decide +kernel
theorem d_EP_isValue_7 : decode c_EP_isValue 7 = .ok (.if_icmp .gt 7, 3) := by decide +kernel
theorem d_EP_isValue_10 : decode c_EP_isValue 10 = .ok (.iconst 1, 1) := by decide +kernel
theorem d_EP_isValue_11 : decode c_EP_isValue 11 = .ok (.goto 4, 3) := by decide +kernel
theorem d_EP_isValue_14 : decode c_EP_isValue 14 = .ok (.iconst 0, 1) := by decide +kernel
theorem d_EP_isValue_15 : decode c_EP_isValue 15 = .ok (.ireturn, 1) := by decide +kernel
theorem d_Re_allows_0 : decode c_Re_allows 0 = .ok (.iload_n 1, 1) := by decide +kernel
theorem d_Re_allows_1 : decode c_Re_allows 1 = .ok (.iconst 1, 1) := by decide +kernel
theorem d_Re_allows_2 : decode c_Re_allows 2 = .ok (.if_icmp .ne 23, 3) := by decide +kernel
theorem d_Re_allows_5 : decode c_Re_allows 5 = .ok (.iload_n 2, 1) := by decide +kernel
theorem d_Re_allows_6 : decode c_Re_allows 6 = .ok (.ldc 9, 2) := by decide +kernel
theorem d_Re_allows_8 : decode c_Re_allows 8 = .ok (.if_icmp .lt 17, 3) := by decide +kernel
theorem d_Re_allows_11 : decode c_Re_allows 11 = .ok (.iload_n 2, 1) := by decide +kernel
theorem d_Re_allows_12 : decode c_Re_allows 12 = .ok (.ldc 10, 2) := by decide +kernel
theorem d_Re_allows_14 : decode c_Re_allows 14 = .ok (.if_icmp .gt 11, 3) := by decide +kernel
theorem d_Re_allows_17 : decode c_Re_allows 17 = .ok (.iload_n 3, 1) := by decide +kernel
theorem d_Re_allows_18 : decode c_Re_allows 18 = .ok (.ifCond .ne 7, 3) := by decide +kernel
theorem d_Re_allows_21 : decode c_Re_allows 21 = .ok (.iconst 1, 1) := by decide +kernel
theorem d_Re_allows_22 : decode c_Re_allows 22 = .ok (.goto 4, 3) := by decide +kernel
theorem d_Re_allows_25 : decode c_Re_allows 25 = .ok (.iconst 0, 1) := by decide +kernel
theorem d_Re_allows_26 : decode c_Re_allows 26 = .ok (.ireturn, 1) := by decide +kernel
theorem d_Se_allows_0 : decode c_Se_allows 0 = .ok (.iload_n 1, 1) := by decide +kernel
theorem d_Se_allows_1 : decode c_Se_allows 1 = .ok (.iconst 1, 1) := by decide +kernel
theorem d_Se_allows_2 : decode c_Se_allows 2 = .ok (.if_icmp .ne 21, 3) := by decide +kernel
theorem d_Se_allows_5 : decode c_Se_allows 5 = .ok (.iload_n 2, 1) := by decide +kernel
theorem d_Se_allows_6 : decode c_Se_allows 6 = .ok (.invokestatic 15, 3) := by decide +kernel
theorem d_Se_allows_9 : decode c_Se_allows 9 = .ok (.ifCond .eq 14, 3) := by decide +kernel
theorem d_Se_allows_12 : decode c_Se_allows 12 = .ok (.iload_n 3, 1) := by decide +kernel
theorem d_Se_allows_13 : decode c_Se_allows 13 = .ok (.invokestatic 15, 3) := by decide +kernel
theorem d_Se_allows_16 : decode c_Se_allows 16 = .ok (.ifCond .eq 7, 3) := by decide +kernel
theorem d_Se_allows_19 : decode c_Se_allows 19 = .ok (.iconst 1, 1) := by decide +kernel
theorem d_Se_allows_20 : decode c_Se_allows 20 = .ok (.goto 4, 3) := by decide +kernel
theorem d_Se_allows_23 : decode c_Se_allows 23 = .ok (.iconst 0, 1) := by decide +kernel
theorem d_Se_allows_24 : decode c_Se_allows 24 = .ok (.ireturn, 1) := by decide +kernel
theorem d_EP_isElement_0 : decode c_EP_isElement 0 = .ok (.iload_n 0, 1) := by decide +kernel
theorem d_EP_isElement_1 : decode c_EP_isElement 1 = .ok (.ifCond .lt 13, 3) := by decide +kernel
theorem d_EP_isElement_4 : decode c_EP_isElement 4 = .ok (.iload_n 0, 1) := by decide +kernel
theorem d_EP_isElement_5 : decode c_EP_isElement 5 = .ok (.bipush 16, 2) := by decide +kernel
theorem d_EP_isElement_7 : decode c_EP_isElement 7 = .ok (.if_icmp .ge 7, 3) := by decide +kernel
theorem d_EP_isElement_10 : decode c_EP_isElement 10 = .ok (.iconst 1, 1) := by decide +kernel
theorem d_EP_isElement_11 : decode c_EP_isElement 11 = .ok (.goto 4, 3) := by decide +kernel
theorem d_EP_isElement_14 : decode c_EP_isElement 14 = .ok (.iconst 0, 1) := by decide +kernel
theorem d_EP_isElement_15 : decode c_EP_isElement 15 = .ok (.ireturn, 1) := by decide +kernel
theorem d_Ta_allows_0 : decode c_Ta_allows 0 = .ok (.iload_n 2, 1) := by decide +kernel
theorem d_Ta_allows_1 : decode c_Ta_allows 1 = .ok (.invokestatic 22, 3) := by decide +kernel
theorem d_Ta_allows_4 : decode c_Ta_allows 4 = .ok (.ifCond .eq 28, 3) := by decide +kernel
theorem d_Ta_allows_7 : decode c_Ta_allows 7 = .ok (.iload_n 1, 1) := by decide +kernel
theorem d_Ta_allows_8 : decode c_Ta_allows 8 = .ok (.iconst 1, 1) := by decide +kernel
theorem d_Ta_allows_9 : decode c_Ta_allows 9 = .ok (.if_icmp .ne 10, 3) := by decide +kernel
theorem d_Ta_allows_12 : decode c_Ta_allows 12 = .ok (.iload_n 3, 1) := by decide +kernel
theorem d_Ta_allows_13 : decode c_Ta_allows 13 = .ok (.invokestatic 22, 3) := by decide +kernel
theorem d_Ta_allows_16 : decode c_Ta_allows 16 = .ok (.ifCond .ne 12, 3) := by decide +kernel
theorem d_Ta_allows_19 : decode c_Ta_allows 19 = .ok (.iload_n 1, 1) := by decide +kernel
theorem d_Ta_allows_20 : decode c_Ta_allows 20 = .ok (.iconst 2, 1) := by decide +kernel
theorem d_Ta_allows_21 : decode c_Ta_allows 21 = .ok (.if_icmp .ne 11, 3) := by decide +kernel
theorem d_Ta_allows_24 : decode c_Ta_allows 24 = .ok (.iload_n 3, 1) := by decide +kernel
theorem d_Ta_allows_25 : decode c_Ta_allows 25 = .ok (.ifCond .ne 7, 3) := by decide +kernel
theorem d_Ta_allows_28 : decode c_Ta_allows 28 = .ok (.iconst 1, 1) := by decide +kernel
theorem d_Ta_allows_29 : decode c_Ta_allows 29 = .ok (.goto 4, 3) := by decide +kernel
theorem d_Ta_allows_32 : decode c_Ta_allows 32 = .ok (.iconst 0, 1) := by decide +kernel
theorem d_Ta_allows_33 : decode c_Ta_allows 33 = .ok (.ireturn, 1) := by decide +kernel
theorem d_Li_copyFrom_0 : decode c_Li_copyFrom 0 = .ok (.aload_n 0, 1) := by decide +kernel
theorem d_Li_copyFrom_1 : decode c_Li_copyFrom 1 = .ok (.aload_n 1, 1) := by decide +kernel
theorem d_Li_copyFrom_2 : decode c_Li_copyFrom 2 = .ok (.getfield 32, 3) := by decide +kernel
theorem d_Li_copyFrom_5 : decode c_Li_copyFrom 5 = .ok (.putfield 32, 3) := by decide +kernel
theorem d_Li_copyFrom_8 : decode c_Li_copyFrom 8 = .ok (.iconst 0, 1) := by decide +kernel
theorem d_Li_copyFrom_9 : decode c_Li_copyFrom 9 = .ok (.istore_n 2, 1) := by decide +kernel
theorem d_Li_copyFrom_10 : decode c_Li_copyFrom 10 = .ok (.iload_n 2, 1) := by decide +kernel
theorem d_Li_copyFrom_11 : decode c_Li_copyFrom 11 = .ok (.aload_n 0, 1) := by decide +kernel
theorem d_Li_copyFrom_12 : decode c_Li_copyFrom 12 = .ok (.getfield 32, 3) := by decide +kernel
theorem d_Li_copyFrom_15 : decode c_Li_copyFrom 15 = .ok (.if_icmp .ge 16, 3) := by decide +kernel
theorem d_Li_copyFrom_18 : decode c_Li_copyFrom 18 = .ok (.aload_n 0, 1) := by decide +kernel
theorem d_Li_copyFrom_19 : decode c_Li_copyFrom 19 = .ok (.aload_n 1, 1) := by decide +kernel
theorem d_Li_copyFrom_20 : decode c_Li_copyFrom 20 = .ok (.iload_n 2, 1) := by decide +kernel
theorem d_Li_copyFrom_21 : decode c_Li_copyFrom 21 = .ok (.iload_n 2, 1) := by decide +kernel
theorem d_Li_copyFrom_22 : decode c_Li_copyFrom 22 = .ok (.invokevirtual 40, 3) := by decide +kernel
theorem d_Li_copyFrom_25 : decode c_Li_copyFrom 25 = .ok (.iinc 2 1, 3) := by decide +kernel
theorem d_Li_copyFrom_28 : decode c_Li_copyFrom 28 = .ok (.goto (-18), 3) := by decide +kernel
theorem d_Li_copyFrom_31 : decode c_Li_copyFrom 31 = .ok (.return_, 1) := by decide +kernel
theorem d_Li_copyOperation_0 : decode c_Li_copyOperation 0 = .ok (.aload_n 0, 1) := by decide +kernel
theorem d_Li_copyOperation_1 : decode c_Li_copyOperation 1 = .ok (.getfield 9, 3) := by decide +kernel
theorem d_Li_copyOperation_4 : decode c_Li_copyOperation 4 = .ok (.iload_n 3, 1) := by decide +kernel
theorem d_Li_copyOperation_5 : decode c_Li_copyOperation 5 = .ok (.aload_n 1, 1) := by decide +kernel
theorem d_Li_copyOperation_6 : decode c_Li_copyOperation 6 = .ok (.getfield 9, 3) := by decide +kernel
theorem d_Li_copyOperation_9 : decode c_Li_copyOperation 9 = .ok (.iload_n 2, 1) := by decide +kernel
theorem d_Li_copyOperation_10 : decode c_Li_copyOperation 10 = .ok (.iaload, 1) := by decide +kernel
theorem d_Li_copyOperation_11 : decode c_Li_copyOperation 11 = .ok (.iastore, 1) := by decide +kernel
theorem d_Li_copyOperation_12 : decode c_Li_copyOperation 12 = .ok (.aload_n 0, 1) := by decide +kernel
theorem d_Li_copyOperation_13 : decode c_Li_copyOperation 13 = .ok (.getfield 15, 3) := by decide +kernel
theorem d_Li_copyOperation_16 : decode c_Li_copyOperation 16 = .ok (.iload_n 3, 1) := by decide +kernel
theorem d_Li_copyOperation_17 : decode c_Li_copyOperation 17 = .ok (.aload_n 1, 1) := by decide +kernel
theorem d_Li_copyOperation_18 : decode c_Li_copyOperation 18 = .ok (.getfield 15, 3) := by decide +kernel
theorem d_Li_copyOperation_21 : decode c_Li_copyOperation 21 = .ok (.iload_n 2, 1) := by decide +kernel
theorem d_Li_copyOperation_22 : decode c_Li_copyOperation 22 = .ok (.iaload, 1) := by decide +kernel
theorem d_Li_copyOperation_23 : decode c_Li_copyOperation 23 = .ok (.iastore, 1) := by decide +kernel
theorem d_Li_copyOperation_24 : decode c_Li_copyOperation 24 = .ok (.aload_n 0, 1) := by decide +kernel
theorem d_Li_copyOperation_25 : decode c_Li_copyOperation 25 = .ok (.getfield 18, 3) := by decide +kernel
theorem d_Li_copyOperation_28 : decode c_Li_copyOperation 28 = .ok (.iload_n 3, 1) := by decide +kernel
theorem d_Li_copyOperation_29 : decode c_Li_copyOperation 29 = .ok (.aload_n 1, 1) := by decide +kernel
theorem d_Li_copyOperation_30 : decode c_Li_copyOperation 30 = .ok (.getfield 18, 3) := by decide +kernel
theorem d_Li_copyOperation_33 : decode c_Li_copyOperation 33 = .ok (.iload_n 2, 1) := by decide +kernel
theorem d_Li_copyOperation_34 : decode c_Li_copyOperation 34 = .ok (.iaload, 1) := by decide +kernel
theorem d_Li_copyOperation_35 : decode c_Li_copyOperation 35 = .ok (.iastore, 1) := by decide +kernel
theorem d_Li_copyOperation_36 : decode c_Li_copyOperation 36 = .ok (.aload_n 0, 1) := by decide +kernel
theorem d_Li_copyOperation_37 : decode c_Li_copyOperation 37 = .ok (.getfield 21, 3) := by decide +kernel
theorem d_Li_copyOperation_40 : decode c_Li_copyOperation 40 = .ok (.iload_n 3, 1) := by decide +kernel
theorem d_Li_copyOperation_41 : decode c_Li_copyOperation 41 = .ok (.aload_n 1, 1) := by decide +kernel
theorem d_Li_copyOperation_42 : decode c_Li_copyOperation 42 = .ok (.getfield 21, 3) := by decide +kernel
theorem d_Li_copyOperation_45 : decode c_Li_copyOperation 45 = .ok (.iload_n 2, 1) := by decide +kernel
theorem d_Li_copyOperation_46 : decode c_Li_copyOperation 46 = .ok (.iaload, 1) := by decide +kernel
theorem d_Li_copyOperation_47 : decode c_Li_copyOperation 47 = .ok (.iastore, 1) := by decide +kernel
theorem d_Li_copyOperation_48 : decode c_Li_copyOperation 48 = .ok (.aload_n 0, 1) := by decide +kernel
theorem d_Li_copyOperation_49 : decode c_Li_copyOperation 49 = .ok (.getfield 24, 3) := by decide +kernel
theorem d_Li_copyOperation_52 : decode c_Li_copyOperation 52 = .ok (.iload_n 3, 1) := by decide +kernel
theorem d_Li_copyOperation_53 : decode c_Li_copyOperation 53 = .ok (.aload_n 1, 1) := by decide +kernel
theorem d_Li_copyOperation_54 : decode c_Li_copyOperation 54 = .ok (.getfield 24, 3) := by decide +kernel
theorem d_Li_copyOperation_57 : decode c_Li_copyOperation 57 = .ok (.iload_n 2, 1) := by decide +kernel
theorem d_Li_copyOperation_58 : decode c_Li_copyOperation 58 = .ok (.laload, 1) := by decide +kernel
theorem d_Li_copyOperation_59 : decode c_Li_copyOperation 59 = .ok (.lastore, 1) := by decide +kernel
theorem d_Li_copyOperation_60 : decode c_Li_copyOperation 60 = .ok (.aload_n 0, 1) := by decide +kernel
theorem d_Li_copyOperation_61 : decode c_Li_copyOperation 61 = .ok (.getfield 28, 3) := by decide +kernel
theorem d_Li_copyOperation_64 : decode c_Li_copyOperation 64 = .ok (.iload_n 3, 1) := by decide +kernel
theorem d_Li_copyOperation_65 : decode c_Li_copyOperation 65 = .ok (.aload_n 1, 1) := by decide +kernel
theorem d_Li_copyOperation_66 : decode c_Li_copyOperation 66 = .ok (.getfield 28, 3) := by decide +kernel
theorem d_Li_copyOperation_69 : decode c_Li_copyOperation 69 = .ok (.iload_n 2, 1) := by decide +kernel
theorem d_Li_copyOperation_70 : decode c_Li_copyOperation 70 = .ok (.baload, 1) := by decide +kernel
theorem d_Li_copyOperation_71 : decode c_Li_copyOperation 71 = .ok (.bastore, 1) := by decide +kernel
theorem d_Li_copyOperation_72 : decode c_Li_copyOperation 72 = .ok (.return_, 1) := by decide +kernel
theorem d_Li_insert_0 : decode c_Li_insert 0 = .ok (.aload_n 0, 1) := by decide +kernel
theorem d_Li_insert_1 : decode c_Li_insert 1 = .ok (.iload_n 1, 1) := by decide +kernel
theorem d_Li_insert_2 : decode c_Li_insert 2 = .ok (.invokevirtual 36, 3) := by decide +kernel
theorem d_Li_insert_5 : decode c_Li_insert 5 = .ok (.istore 5, 2) := by decide +kernel
theorem d_Li_insert_7 : decode c_Li_insert 7 = .ok (.aload_n 0, 1) := by decide +kernel
theorem d_Li_insert_8 : decode c_Li_insert 8 = .ok (.getfield 32, 3) := by decide +kernel
theorem d_Li_insert_11 : decode c_Li_insert 11 = .ok (.istore 6, 2) := by decide +kernel
theorem d_Li_insert_13 : decode c_Li_insert 13 = .ok (.iload 6, 2) := by decide +kernel
theorem d_Li_insert_15 : decode c_Li_insert 15 = .ok (.iload 5, 2) := by decide +kernel
theorem d_Li_insert_17 : decode c_Li_insert 17 = .ok (.if_icmp .le 20, 3) := by decide +kernel
theorem d_Li_insert_20 : decode c_Li_insert 20 = .ok (.aload_n 0, 1) := by decide +kernel
theorem d_Li_insert_21 : decode c_Li_insert 21 = .ok (.aload_n 0, 1) := by decide +kernel
theorem d_Li_insert_22 : decode c_Li_insert 22 = .ok (.iload 6, 2) := by decide +kernel
theorem d_Li_insert_24 : decode c_Li_insert 24 = .ok (.iconst 1, 1) := by decide +kernel
theorem d_Li_insert_25 : decode c_Li_insert 25 = .ok (.isub, 1) := by decide +kernel
theorem d_Li_insert_26 : decode c_Li_insert 26 = .ok (.iload 6, 2) := by decide +kernel
theorem d_Li_insert_28 : decode c_Li_insert 28 = .ok (.invokevirtual 40, 3) := by decide +kernel
theorem d_Li_insert_31 : decode c_Li_insert 31 = .ok (.iinc 6 (-1), 3) := by decide +kernel
theorem d_Li_insert_34 : decode c_Li_insert 34 = .ok (.goto (-21), 3) := by decide +kernel
theorem d_Li_insert_37 : decode c_Li_insert 37 = .ok (.aload_n 0, 1) := by decide +kernel
theorem d_Li_insert_38 : decode c_Li_insert 38 = .ok (.getfield 9, 3) := by decide +kernel
theorem d_Li_insert_41 : decode c_Li_insert 41 = .ok (.iload 5, 2) := by decide +kernel
theorem d_Li_insert_43 : decode c_Li_insert 43 = .ok (.iload_n 1, 1) := by decide +kernel
theorem d_Li_insert_44 : decode c_Li_insert 44 = .ok (.iastore, 1) := by decide +kernel
theorem d_Li_insert_45 : decode c_Li_insert 45 = .ok (.aload_n 0, 1) := by decide +kernel
theorem d_Li_insert_46 : decode c_Li_insert 46 = .ok (.getfield 15, 3) := by decide +kernel
theorem d_Li_insert_49 : decode c_Li_insert 49 = .ok (.iload 5, 2) := by decide +kernel
theorem d_Li_insert_51 : decode c_Li_insert 51 = .ok (.iload_n 2, 1) := by decide +kernel
theorem d_Li_insert_52 : decode c_Li_insert 52 = .ok (.iastore, 1) := by decide +kernel
theorem d_Li_insert_53 : decode c_Li_insert 53 = .ok (.aload_n 0, 1) := by decide +kernel
theorem d_Li_insert_54 : decode c_Li_insert 54 = .ok (.getfield 18, 3) := by decide +kernel
theorem d_Li_insert_57 : decode c_Li_insert 57 = .ok (.iload 5, 2) := by decide +kernel
theorem d_Li_insert_59 : decode c_Li_insert 59 = .ok (.iload_n 3, 1) := by decide +kernel
theorem d_Li_insert_60 : decode c_Li_insert 60 = .ok (.iastore, 1) := by decide +kernel
theorem d_Li_insert_61 : decode c_Li_insert 61 = .ok (.aload_n 0, 1) := by decide +kernel
theorem d_Li_insert_62 : decode c_Li_insert 62 = .ok (.getfield 21, 3) := by decide +kernel
theorem d_Li_insert_65 : decode c_Li_insert 65 = .ok (.iload 5, 2) := by decide +kernel
theorem d_Li_insert_67 : decode c_Li_insert 67 = .ok (.iload 4, 2) := by decide +kernel
theorem d_Li_insert_69 : decode c_Li_insert 69 = .ok (.iastore, 1) := by decide +kernel
theorem d_Li_insert_70 : decode c_Li_insert 70 = .ok (.aload_n 0, 1) := by decide +kernel
theorem d_Li_insert_71 : decode c_Li_insert 71 = .ok (.dup, 1) := by decide +kernel
theorem d_Li_insert_72 : decode c_Li_insert 72 = .ok (.getfield 32, 3) := by decide +kernel
theorem d_Li_insert_75 : decode c_Li_insert 75 = .ok (.iconst 1, 1) := by decide +kernel
theorem d_Li_insert_76 : decode c_Li_insert 76 = .ok (.iadd, 1) := by decide +kernel
theorem d_Li_insert_77 : decode c_Li_insert 77 = .ok (.putfield 32, 3) := by decide +kernel
theorem d_Li_insert_80 : decode c_Li_insert 80 = .ok (.return_, 1) := by decide +kernel
theorem d_Li_redo_0 : decode c_Li_redo 0 = .ok (.aload_n 1, 1) := by decide +kernel
theorem d_Li_redo_1 : decode c_Li_redo 1 = .ok (.invokevirtual 52, 3) := by decide +kernel
theorem d_Li_redo_4 : decode c_Li_redo 4 = .ok (.iconst 0, 1) := by decide +kernel
theorem d_Li_redo_5 : decode c_Li_redo 5 = .ok (.istore_n 2, 1) := by decide +kernel
theorem d_Li_redo_6 : decode c_Li_redo 6 = .ok (.iload_n 2, 1) := by decide +kernel
theorem d_Li_redo_7 : decode c_Li_redo 7 = .ok (.aload_n 0, 1) := by decide +kernel
theorem d_Li_redo_8 : decode c_Li_redo 8 = .ok (.getfield 32, 3) := by decide +kernel
theorem d_Li_redo_11 : decode c_Li_redo 11 = .ok (.if_icmp .ge 51, 3) := by decide +kernel
theorem d_Li_redo_14 : decode c_Li_redo 14 = .ok (.aload_n 1, 1) := by decide +kernel
theorem d_Li_redo_15 : decode c_Li_redo 15 = .ok (.aload_n 0, 1) := by decide +kernel
theorem d_Li_redo_16 : decode c_Li_redo 16 = .ok (.getfield 15, 3) := by decide +kernel
theorem d_Li_redo_19 : decode c_Li_redo 19 = .ok (.iload_n 2, 1) := by decide +kernel
theorem d_Li_redo_20 : decode c_Li_redo 20 = .ok (.iaload, 1) := by decide +kernel
theorem d_Li_redo_21 : decode c_Li_redo 21 = .ok (.aload_n 0, 1) := by decide +kernel
theorem d_Li_redo_22 : decode c_Li_redo 22 = .ok (.getfield 18, 3) := by decide +kernel
theorem d_Li_redo_25 : decode c_Li_redo 25 = .ok (.iload_n 2, 1) := by decide +kernel
theorem d_Li_redo_26 : decode c_Li_redo 26 = .ok (.iaload, 1) := by decide +kernel
theorem d_Li_redo_27 : decode c_Li_redo 27 = .ok (.aload_n 0, 1) := by decide +kernel
theorem d_Li_redo_28 : decode c_Li_redo 28 = .ok (.getfield 21, 3) := by decide +kernel
theorem d_Li_redo_31 : decode c_Li_redo 31 = .ok (.iload_n 2, 1) := by decide +kernel
theorem d_Li_redo_32 : decode c_Li_redo 32 = .ok (.iaload, 1) := by decide +kernel
theorem d_Li_redo_33 : decode c_Li_redo 33 = .ok (.invokevirtual 57, 3) := by decide +kernel
theorem d_Li_redo_36 : decode c_Li_redo 36 = .ok (.aload_n 0, 1) := by decide +kernel
theorem d_Li_redo_37 : decode c_Li_redo 37 = .ok (.getfield 24, 3) := by decide +kernel
theorem d_Li_redo_40 : decode c_Li_redo 40 = .ok (.iload_n 2, 1) := by decide +kernel
theorem d_Li_redo_41 : decode c_Li_redo 41 = .ok (.aload_n 1, 1) := by decide +kernel
theorem d_Li_redo_42 : decode c_Li_redo 42 = .ok (.getfield 61, 3) := by decide +kernel
theorem d_Li_redo_45 : decode c_Li_redo 45 = .ok (.lastore, 1) := by decide +kernel
theorem d_Li_redo_46 : decode c_Li_redo 46 = .ok (.aload_n 0, 1) := by decide +kernel
theorem d_Li_redo_47 : decode c_Li_redo 47 = .ok (.getfield 28, 3) := by decide +kernel
theorem d_Li_redo_50 : decode c_Li_redo 50 = .ok (.iload_n 2, 1) := by decide +kernel
theorem d_Li_redo_51 : decode c_Li_redo 51 = .ok (.aload_n 1, 1) := by decide +kernel
theorem d_Li_redo_52 : decode c_Li_redo 52 = .ok (.getfield 65, 3) := by decide +kernel
theorem d_Li_redo_55 : decode c_Li_redo 55 = .ok (.bastore, 1) := by decide +kernel
theorem d_Li_redo_56 : decode c_Li_redo 56 = .ok (.iinc 2 1, 3) := by decide +kernel
theorem d_Li_redo_59 : decode c_Li_redo 59 = .ok (.goto (-53), 3) := by decide +kernel
theorem d_Li_redo_62 : decode c_Li_redo 62 = .ok (.return_, 1) := by decide +kernel
theorem d_Ba_clear_0 : decode c_Ba_clear 0 = .ok (.aload_n 0, 1) := by decide +kernel
theorem d_Ba_clear_1 : decode c_Ba_clear 1 = .ok (.iconst 0, 1) := by decide +kernel
theorem d_Ba_clear_2 : decode c_Ba_clear 2 = .ok (.putfield 19, 3) := by decide +kernel
theorem d_Ba_clear_5 : decode c_Ba_clear 5 = .ok (.return_, 1) := by decide +kernel
theorem d_Re_clear_0 : decode c_Re_clear 0 = .ok (.aload_n 0, 1) := by decide +kernel
theorem d_Re_clear_1 : decode c_Re_clear 1 = .ok (.lconst 0, 1) := by decide +kernel
theorem d_Re_clear_2 : decode c_Re_clear 2 = .ok (.putfield 11, 3) := by decide +kernel
theorem d_Re_clear_5 : decode c_Re_clear 5 = .ok (.return_, 1) := by decide +kernel
theorem d_Se_clear_0 : decode c_Se_clear 0 = .ok (.aload_n 0, 1) := by decide +kernel
theorem d_Se_clear_1 : decode c_Se_clear 1 = .ok (.bipush 16, 2) := by decide +kernel
theorem d_Se_clear_3 : decode c_Se_clear 3 = .ok (.putfield 19, 3) := by decide +kernel
theorem d_Se_clear_6 : decode c_Se_clear 6 = .ok (.iconst 0, 1) := by decide +kernel
theorem d_Se_clear_7 : decode c_Se_clear 7 = .ok (.istore_n 1, 1) := by decide +kernel
theorem d_Se_clear_8 : decode c_Se_clear 8 = .ok (.iload_n 1, 1) := by decide +kernel
theorem d_Se_clear_9 : decode c_Se_clear 9 = .ok (.bipush 16, 2) := by decide +kernel
theorem d_Se_clear_11 : decode c_Se_clear 11 = .ok (.if_icmp .ge 16, 3) := by decide +kernel
theorem d_Se_clear_14 : decode c_Se_clear 14 = .ok (.aload_n 0, 1) := by decide +kernel
theorem d_Se_clear_15 : decode c_Se_clear 15 = .ok (.getfield 9, 3) := by decide +kernel
theorem d_Se_clear_18 : decode c_Se_clear 18 = .ok (.iload_n 1, 1) := by decide +kernel
theorem d_Se_clear_19 : decode c_Se_clear 19 = .ok (.iload_n 1, 1) := by decide +kernel
theorem d_Se_clear_20 : decode c_Se_clear 20 = .ok (.iastore, 1) := by decide +kernel
theorem d_Se_clear_21 : decode c_Se_clear 21 = .ok (.iinc 1 1, 3) := by decide +kernel
theorem d_Se_clear_24 : decode c_Se_clear 24 = .ok (.goto (-16), 3) := by decide +kernel
theorem d_Se_clear_27 : decode c_Se_clear 27 = .ok (.return_, 1) := by decide +kernel
theorem d_Ta_clear_0 : decode c_Ta_clear 0 = .ok (.aload_n 0, 1) := by decide +kernel
theorem d_Ta_clear_1 : decode c_Ta_clear 1 = .ok (.iconst 0, 1) := by decide +kernel
theorem d_Ta_clear_2 : decode c_Ta_clear 2 = .ok (.putfield 18, 3) := by decide +kernel
theorem d_Ta_clear_5 : decode c_Ta_clear 5 = .ok (.return_, 1) := by decide +kernel
theorem d_Ba_perform_0 : decode c_Ba_perform 0 = .ok (.iload_n 1, 1) := by decide +kernel
theorem d_Ba_perform_1 : decode c_Ba_perform 1 = .ok (.iconst 1, 1) := by decide +kernel
theorem d_Ba_perform_2 : decode c_Ba_perform 2 = .ok (.if_icmp .ne 21, 3) := by decide +kernel
theorem d_Ba_perform_5 : decode c_Ba_perform 5 = .ok (.aload_n 0, 1) := by decide +kernel
theorem d_Ba_perform_6 : decode c_Ba_perform 6 = .ok (.aload_n 0, 1) := by decide +kernel
theorem d_Ba_perform_7 : decode c_Ba_perform 7 = .ok (.iload_n 2, 1) := by decide +kernel
theorem d_Ba_perform_8 : decode c_Ba_perform 8 = .ok (.invokevirtual 23, 3) := by decide +kernel
theorem d_Ba_perform_11 : decode c_Ba_perform 11 = .ok (.iload_n 2, 1) := by decide +kernel
theorem d_Ba_perform_12 : decode c_Ba_perform 12 = .ok (.invokevirtual 27, 3) := by decide +kernel
theorem d_Ba_perform_15 : decode c_Ba_perform 15 = .ok (.aload_n 0, 1) := by decide +kernel
theorem d_Ba_perform_16 : decode c_Ba_perform 16 = .ok (.lconst 0, 1) := by decide +kernel
theorem d_Ba_perform_17 : decode c_Ba_perform 17 = .ok (.invokevirtual 31, 3) := by decide +kernel
theorem d_Ba_perform_20 : decode c_Ba_perform 20 = .ok (.goto 26, 3) := by decide +kernel
theorem d_Ba_perform_23 : decode c_Ba_perform 23 = .ok (.aload_n 0, 1) := by decide +kernel
theorem d_Ba_perform_24 : decode c_Ba_perform 24 = .ok (.getfield 19, 3) := by decide +kernel
theorem d_Ba_perform_27 : decode c_Ba_perform 27 = .ok (.ifCond .le 15, 3) := by decide +kernel
theorem d_Ba_perform_30 : decode c_Ba_perform 30 = .ok (.aload_n 0, 1) := by decide +kernel
theorem d_Ba_perform_31 : decode c_Ba_perform 31 = .ok (.aload_n 0, 1) := by decide +kernel
theorem d_Ba_perform_32 : decode c_Ba_perform 32 = .ok (.invokevirtual 35, 3) := by decide +kernel
theorem d_Ba_perform_35 : decode c_Ba_perform 35 = .ok (.i2l, 1) := by decide +kernel
theorem d_Ba_perform_36 : decode c_Ba_perform 36 = .ok (.invokevirtual 31, 3) := by decide +kernel
theorem d_Ba_perform_39 : decode c_Ba_perform 39 = .ok (.goto 7, 3) := by decide +kernel
theorem d_Ba_perform_42 : decode c_Ba_perform 42 = .ok (.aload_n 0, 1) := by decide +kernel
theorem d_Ba_perform_43 : decode c_Ba_perform 43 = .ok (.invokevirtual 39, 3) := by decide +kernel
theorem d_Ba_perform_46 : decode c_Ba_perform 46 = .ok (.return_, 1) := by decide +kernel
theorem d_He_placeFor_0 : decode c_He_placeFor 0 = .ok (.iconst 0, 1) := by decide +kernel
theorem d_He_placeFor_1 : decode c_He_placeFor 1 = .ok (.istore_n 2, 1) := by decide +kernel
theorem d_He_placeFor_2 : decode c_He_placeFor 2 = .ok (.iload_n 2, 1) := by decide +kernel
theorem d_He_placeFor_3 : decode c_He_placeFor 3 = .ok (.aload_n 0, 1) := by decide +kernel
theorem d_He_placeFor_4 : decode c_He_placeFor 4 = .ok (.getfield 7, 3) := by decide +kernel
theorem d_He_placeFor_7 : decode c_He_placeFor 7 = .ok (.if_icmp .ge 19, 3) := by decide +kernel
theorem d_He_placeFor_10 : decode c_He_placeFor 10 = .ok (.aload_n 0, 1) := by decide +kernel
theorem d_He_placeFor_11 : decode c_He_placeFor 11 = .ok (.getfield 13, 3) := by decide +kernel
theorem d_He_placeFor_14 : decode c_He_placeFor 14 = .ok (.iload_n 2, 1) := by decide +kernel
theorem d_He_placeFor_15 : decode c_He_placeFor 15 = .ok (.iaload, 1) := by decide +kernel
theorem d_He_placeFor_16 : decode c_He_placeFor 16 = .ok (.iload_n 1, 1) := by decide +kernel
theorem d_He_placeFor_17 : decode c_He_placeFor 17 = .ok (.if_icmp .ge 9, 3) := by decide +kernel
theorem d_He_placeFor_20 : decode c_He_placeFor 20 = .ok (.iinc 2 1, 3) := by decide +kernel
theorem d_He_placeFor_23 : decode c_He_placeFor 23 = .ok (.goto (-21), 3) := by decide +kernel
theorem d_He_placeFor_26 : decode c_He_placeFor 26 = .ok (.iload_n 2, 1) := by decide +kernel
theorem d_He_placeFor_27 : decode c_He_placeFor 27 = .ok (.ireturn, 1) := by decide +kernel
theorem d_Qu_placeFor_0 : decode c_Qu_placeFor 0 = .ok (.aload_n 0, 1) := by decide +kernel
theorem d_Qu_placeFor_1 : decode c_Qu_placeFor 1 = .ok (.getfield 7, 3) := by decide +kernel
theorem d_Qu_placeFor_4 : decode c_Qu_placeFor 4 = .ok (.ireturn, 1) := by decide +kernel
theorem d_St_placeFor_0 : decode c_St_placeFor 0 = .ok (.iconst 0, 1) := by decide +kernel
theorem d_St_placeFor_1 : decode c_St_placeFor 1 = .ok (.ireturn, 1) := by decide +kernel
theorem d_Ba_insert_0 : decode c_Ba_insert 0 = .ok (.aload_n 0, 1) := by decide +kernel
theorem d_Ba_insert_1 : decode c_Ba_insert 1 = .ok (.getfield 19, 3) := by decide +kernel
theorem d_Ba_insert_4 : decode c_Ba_insert 4 = .ok (.istore_n 3, 1) := by decide +kernel
theorem d_Ba_insert_5 : decode c_Ba_insert 5 = .ok (.iload_n 3, 1) := by decide +kernel
theorem d_Ba_insert_6 : decode c_Ba_insert 6 = .ok (.iload_n 1, 1) := by decide +kernel
theorem d_Ba_insert_7 : decode c_Ba_insert 7 = .ok (.if_icmp .le 23, 3) := by decide +kernel
theorem d_Ba_insert_10 : decode c_Ba_insert 10 = .ok (.aload_n 0, 1) := by decide +kernel
theorem d_Ba_insert_11 : decode c_Ba_insert 11 = .ok (.getfield 9, 3) := by decide +kernel
theorem d_Ba_insert_14 : decode c_Ba_insert 14 = .ok (.iload_n 3, 1) := by decide +kernel
theorem d_Ba_insert_15 : decode c_Ba_insert 15 = .ok (.aload_n 0, 1) := by decide +kernel
theorem d_Ba_insert_16 : decode c_Ba_insert 16 = .ok (.getfield 9, 3) := by decide +kernel
theorem d_Ba_insert_19 : decode c_Ba_insert 19 = .ok (.iload_n 3, 1) := by decide +kernel
theorem d_Ba_insert_20 : decode c_Ba_insert 20 = .ok (.iconst 1, 1) := by decide +kernel
theorem d_Ba_insert_21 : decode c_Ba_insert 21 = .ok (.isub, 1) := by decide +kernel
theorem d_Ba_insert_22 : decode c_Ba_insert 22 = .ok (.iaload, 1) := by decide +kernel
theorem d_Ba_insert_23 : decode c_Ba_insert 23 = .ok (.iastore, 1) := by decide +kernel
theorem d_Ba_insert_24 : decode c_Ba_insert 24 = .ok (.iinc 3 (-1), 3) := by decide +kernel
theorem d_Ba_insert_27 : decode c_Ba_insert 27 = .ok (.goto (-22), 3) := by decide +kernel
theorem d_Ba_insert_30 : decode c_Ba_insert 30 = .ok (.aload_n 0, 1) := by decide +kernel
theorem d_Ba_insert_31 : decode c_Ba_insert 31 = .ok (.getfield 9, 3) := by decide +kernel
theorem d_Ba_insert_34 : decode c_Ba_insert 34 = .ok (.iload_n 1, 1) := by decide +kernel
theorem d_Ba_insert_35 : decode c_Ba_insert 35 = .ok (.iload_n 2, 1) := by decide +kernel
theorem d_Ba_insert_36 : decode c_Ba_insert 36 = .ok (.iastore, 1) := by decide +kernel
theorem d_Ba_insert_37 : decode c_Ba_insert 37 = .ok (.aload_n 0, 1) := by decide +kernel
theorem d_Ba_insert_38 : decode c_Ba_insert 38 = .ok (.dup, 1) := by decide +kernel
theorem d_Ba_insert_39 : decode c_Ba_insert 39 = .ok (.getfield 19, 3) := by decide +kernel
theorem d_Ba_insert_42 : decode c_Ba_insert 42 = .ok (.iconst 1, 1) := by decide +kernel
theorem d_Ba_insert_43 : decode c_Ba_insert 43 = .ok (.iadd, 1) := by decide +kernel
theorem d_Ba_insert_44 : decode c_Ba_insert 44 = .ok (.putfield 19, 3) := by decide +kernel
theorem d_Ba_insert_47 : decode c_Ba_insert 47 = .ok (.return_, 1) := by decide +kernel
theorem d_Ct_noteEffect_0 : decode c_Ct_noteEffect 0 = .ok (.aload_n 0, 1) := by decide +kernel
theorem d_Ct_noteEffect_1 : decode c_Ct_noteEffect 1 = .ok (.lload_n 1, 1) := by decide +kernel
theorem d_Ct_noteEffect_2 : decode c_Ct_noteEffect 2 = .ok (.putfield 7, 3) := by decide +kernel
theorem d_Ct_noteEffect_5 : decode c_Ct_noteEffect 5 = .ok (.aload_n 0, 1) := by decide +kernel
theorem d_Ct_noteEffect_6 : decode c_Ct_noteEffect 6 = .ok (.iconst 1, 1) := by decide +kernel
theorem d_Ct_noteEffect_7 : decode c_Ct_noteEffect 7 = .ok (.putfield 13, 3) := by decide +kernel
theorem d_Ct_noteEffect_10 : decode c_Ct_noteEffect 10 = .ok (.return_, 1) := by decide +kernel
theorem d_Ba_removeFirst_0 : decode c_Ba_removeFirst 0 = .ok (.aload_n 0, 1) := by decide +kernel
theorem d_Ba_removeFirst_1 : decode c_Ba_removeFirst 1 = .ok (.getfield 9, 3) := by decide +kernel
theorem d_Ba_removeFirst_4 : decode c_Ba_removeFirst 4 = .ok (.iconst 0, 1) := by decide +kernel
theorem d_Ba_removeFirst_5 : decode c_Ba_removeFirst 5 = .ok (.iaload, 1) := by decide +kernel
theorem d_Ba_removeFirst_6 : decode c_Ba_removeFirst 6 = .ok (.istore_n 1, 1) := by decide +kernel
theorem d_Ba_removeFirst_7 : decode c_Ba_removeFirst 7 = .ok (.aload_n 0, 1) := by decide +kernel
theorem d_Ba_removeFirst_8 : decode c_Ba_removeFirst 8 = .ok (.dup, 1) := by decide +kernel
theorem d_Ba_removeFirst_9 : decode c_Ba_removeFirst 9 = .ok (.getfield 19, 3) := by decide +kernel
theorem d_Ba_removeFirst_12 : decode c_Ba_removeFirst 12 = .ok (.iconst 1, 1) := by decide +kernel
theorem d_Ba_removeFirst_13 : decode c_Ba_removeFirst 13 = .ok (.isub, 1) := by decide +kernel
theorem d_Ba_removeFirst_14 : decode c_Ba_removeFirst 14 = .ok (.putfield 19, 3) := by decide +kernel
theorem d_Ba_removeFirst_17 : decode c_Ba_removeFirst 17 = .ok (.iconst 0, 1) := by decide +kernel
theorem d_Ba_removeFirst_18 : decode c_Ba_removeFirst 18 = .ok (.istore_n 2, 1) := by decide +kernel
theorem d_Ba_removeFirst_19 : decode c_Ba_removeFirst 19 = .ok (.iload_n 2, 1) := by decide +kernel
theorem d_Ba_removeFirst_20 : decode c_Ba_removeFirst 20 = .ok (.aload_n 0, 1) := by decide +kernel
theorem d_Ba_removeFirst_21 : decode c_Ba_removeFirst 21 = .ok (.getfield 19, 3) := by decide +kernel
theorem d_Ba_removeFirst_24 : decode c_Ba_removeFirst 24 = .ok (.if_icmp .ge 23, 3) := by decide +kernel
theorem d_Ba_removeFirst_27 : decode c_Ba_removeFirst 27 = .ok (.aload_n 0, 1) := by decide +kernel
theorem d_Ba_removeFirst_28 : decode c_Ba_removeFirst 28 = .ok (.getfield 9, 3) := by decide +kernel
theorem d_Ba_removeFirst_31 : decode c_Ba_removeFirst 31 = .ok (.iload_n 2, 1) := by decide +kernel
theorem d_Ba_removeFirst_32 : decode c_Ba_removeFirst 32 = .ok (.aload_n 0, 1) := by decide +kernel
theorem d_Ba_removeFirst_33 : decode c_Ba_removeFirst 33 = .ok (.getfield 9, 3) := by decide +kernel
theorem d_Ba_removeFirst_36 : decode c_Ba_removeFirst 36 = .ok (.iload_n 2, 1) := by decide +kernel
theorem d_Ba_removeFirst_37 : decode c_Ba_removeFirst 37 = .ok (.iconst 1, 1) := by decide +kernel
theorem d_Ba_removeFirst_38 : decode c_Ba_removeFirst 38 = .ok (.iadd, 1) := by decide +kernel
theorem d_Ba_removeFirst_39 : decode c_Ba_removeFirst 39 = .ok (.iaload, 1) := by decide +kernel
theorem d_Ba_removeFirst_40 : decode c_Ba_removeFirst 40 = .ok (.iastore, 1) := by decide +kernel
theorem d_Ba_removeFirst_41 : decode c_Ba_removeFirst 41 = .ok (.iinc 2 1, 3) := by decide +kernel
theorem d_Ba_removeFirst_44 : decode c_Ba_removeFirst 44 = .ok (.goto (-25), 3) := by decide +kernel
theorem d_Ba_removeFirst_47 : decode c_Ba_removeFirst 47 = .ok (.iload_n 1, 1) := by decide +kernel
theorem d_Ba_removeFirst_48 : decode c_Ba_removeFirst 48 = .ok (.ireturn, 1) := by decide +kernel
theorem d_Ct_noteNoEffect_0 : decode c_Ct_noteNoEffect 0 = .ok (.aload_n 0, 1) := by decide +kernel
theorem d_Ct_noteNoEffect_1 : decode c_Ct_noteNoEffect 1 = .ok (.lconst 0, 1) := by decide +kernel
theorem d_Ct_noteNoEffect_2 : decode c_Ct_noteNoEffect 2 = .ok (.putfield 7, 3) := by decide +kernel
theorem d_Ct_noteNoEffect_5 : decode c_Ct_noteNoEffect 5 = .ok (.aload_n 0, 1) := by decide +kernel
theorem d_Ct_noteNoEffect_6 : decode c_Ct_noteNoEffect 6 = .ok (.iconst 0, 1) := by decide +kernel
theorem d_Ct_noteNoEffect_7 : decode c_Ct_noteNoEffect 7 = .ok (.putfield 13, 3) := by decide +kernel
theorem d_Ct_noteNoEffect_10 : decode c_Ct_noteNoEffect 10 = .ok (.return_, 1) := by decide +kernel
theorem d_Re_perform_0 : decode c_Re_perform 0 = .ok (.aload_n 0, 1) := by decide +kernel
theorem d_Re_perform_1 : decode c_Re_perform 1 = .ok (.lconst 0, 1) := by decide +kernel
theorem d_Re_perform_2 : decode c_Re_perform 2 = .ok (.aload_n 0, 1) := by decide +kernel
theorem d_Re_perform_3 : decode c_Re_perform 3 = .ok (.getfield 11, 3) := by decide +kernel
theorem d_Re_perform_6 : decode c_Re_perform 6 = .ok (.iload_n 2, 1) := by decide +kernel
theorem d_Re_perform_7 : decode c_Re_perform 7 = .ok (.i2l, 1) := by decide +kernel
theorem d_Re_perform_8 : decode c_Re_perform 8 = .ok (.ladd, 1) := by decide +kernel
theorem d_Re_perform_9 : decode c_Re_perform 9 = .ok (.invokestatic 17, 3) := by decide +kernel
theorem d_Re_perform_12 : decode c_Re_perform 12 = .ok (.putfield 11, 3) := by decide +kernel
theorem d_Re_perform_15 : decode c_Re_perform 15 = .ok (.aload_n 0, 1) := by decide +kernel
theorem d_Re_perform_16 : decode c_Re_perform 16 = .ok (.aload_n 0, 1) := by decide +kernel
theorem d_Re_perform_17 : decode c_Re_perform 17 = .ok (.getfield 11, 3) := by decide +kernel
theorem d_Re_perform_20 : decode c_Re_perform 20 = .ok (.invokevirtual 23, 3) := by decide +kernel
theorem d_Re_perform_23 : decode c_Re_perform 23 = .ok (.return_, 1) := by decide +kernel
theorem d_Ma_max_0 : decode c_Ma_max 0 = .ok (.lload_n 0, 1) := by decide +kernel
theorem d_Ma_max_1 : decode c_Ma_max 1 = .ok (.lload_n 2, 1) := by decide +kernel
theorem d_Ma_max_2 : decode c_Ma_max 2 = .ok (.lcmp, 1) := by decide +kernel
theorem d_Ma_max_3 : decode c_Ma_max 3 = .ok (.ifCond .lt 7, 3) := by decide +kernel
theorem d_Ma_max_6 : decode c_Ma_max 6 = .ok (.lload_n 0, 1) := by decide +kernel
theorem d_Ma_max_7 : decode c_Ma_max 7 = .ok (.goto 4, 3) := by decide +kernel
theorem d_Ma_max_10 : decode c_Ma_max 10 = .ok (.lload_n 2, 1) := by decide +kernel
theorem d_Ma_max_11 : decode c_Ma_max 11 = .ok (.lreturn, 1) := by decide +kernel
theorem d_Se_perform_0 : decode c_Se_perform 0 = .ok (.aload_n 0, 1) := by decide +kernel
theorem d_Se_perform_1 : decode c_Se_perform 1 = .ok (.getfield 9, 3) := by decide +kernel
theorem d_Se_perform_4 : decode c_Se_perform 4 = .ok (.iload_n 2, 1) := by decide +kernel
theorem d_Se_perform_5 : decode c_Se_perform 5 = .ok (.iaload, 1) := by decide +kernel
theorem d_Se_perform_6 : decode c_Se_perform 6 = .ok (.istore 4, 2) := by decide +kernel
theorem d_Se_perform_8 : decode c_Se_perform 8 = .ok (.aload_n 0, 1) := by decide +kernel
theorem d_Se_perform_9 : decode c_Se_perform 9 = .ok (.getfield 9, 3) := by decide +kernel
theorem d_Se_perform_12 : decode c_Se_perform 12 = .ok (.iload_n 3, 1) := by decide +kernel
theorem d_Se_perform_13 : decode c_Se_perform 13 = .ok (.iaload, 1) := by decide +kernel
theorem d_Se_perform_14 : decode c_Se_perform 14 = .ok (.istore 5, 2) := by decide +kernel
theorem d_Se_perform_16 : decode c_Se_perform 16 = .ok (.iload 4, 2) := by decide +kernel
theorem d_Se_perform_18 : decode c_Se_perform 18 = .ok (.iload 5, 2) := by decide +kernel
theorem d_Se_perform_20 : decode c_Se_perform 20 = .ok (.if_icmp .ne 8, 3) := by decide +kernel
theorem d_Se_perform_23 : decode c_Se_perform 23 = .ok (.aload_n 0, 1) := by decide +kernel
theorem d_Se_perform_24 : decode c_Se_perform 24 = .ok (.invokevirtual 23, 3) := by decide +kernel
theorem d_Se_perform_27 : decode c_Se_perform 27 = .ok (.return_, 1) := by decide +kernel
theorem d_Se_perform_28 : decode c_Se_perform 28 = .ok (.iconst 0, 1) := by decide +kernel
theorem d_Se_perform_29 : decode c_Se_perform 29 = .ok (.istore 6, 2) := by decide +kernel
theorem d_Se_perform_31 : decode c_Se_perform 31 = .ok (.iload 6, 2) := by decide +kernel
theorem d_Se_perform_33 : decode c_Se_perform 33 = .ok (.bipush 16, 2) := by decide +kernel
theorem d_Se_perform_35 : decode c_Se_perform 35 = .ok (.if_icmp .ge 30, 3) := by decide +kernel
theorem d_Se_perform_38 : decode c_Se_perform 38 = .ok (.aload_n 0, 1) := by decide +kernel
theorem d_Se_perform_39 : decode c_Se_perform 39 = .ok (.getfield 9, 3) := by decide +kernel
theorem d_Se_perform_42 : decode c_Se_perform 42 = .ok (.iload 6, 2) := by decide +kernel
theorem d_Se_perform_44 : decode c_Se_perform 44 = .ok (.iaload, 1) := by decide +kernel
theorem d_Se_perform_45 : decode c_Se_perform 45 = .ok (.iload 5, 2) := by decide +kernel
theorem d_Se_perform_47 : decode c_Se_perform 47 = .ok (.if_icmp .ne 12, 3) := by decide +kernel
theorem d_Se_perform_50 : decode c_Se_perform 50 = .ok (.aload_n 0, 1) := by decide +kernel
theorem d_Se_perform_51 : decode c_Se_perform 51 = .ok (.getfield 9, 3) := by decide +kernel
theorem d_Se_perform_54 : decode c_Se_perform 54 = .ok (.iload 6, 2) := by decide +kernel
theorem d_Se_perform_56 : decode c_Se_perform 56 = .ok (.iload 4, 2) := by decide +kernel
theorem d_Se_perform_58 : decode c_Se_perform 58 = .ok (.iastore, 1) := by decide +kernel
theorem d_Se_perform_59 : decode c_Se_perform 59 = .ok (.iinc 6 1, 3) := by decide +kernel
theorem d_Se_perform_62 : decode c_Se_perform 62 = .ok (.goto (-31), 3) := by decide +kernel
theorem d_Se_perform_65 : decode c_Se_perform 65 = .ok (.aload_n 0, 1) := by decide +kernel
theorem d_Se_perform_66 : decode c_Se_perform 66 = .ok (.dup, 1) := by decide +kernel
theorem d_Se_perform_67 : decode c_Se_perform 67 = .ok (.getfield 19, 3) := by decide +kernel
theorem d_Se_perform_70 : decode c_Se_perform 70 = .ok (.iconst 1, 1) := by decide +kernel
theorem d_Se_perform_71 : decode c_Se_perform 71 = .ok (.isub, 1) := by decide +kernel
theorem d_Se_perform_72 : decode c_Se_perform 72 = .ok (.putfield 19, 3) := by decide +kernel
theorem d_Se_perform_75 : decode c_Se_perform 75 = .ok (.aload_n 0, 1) := by decide +kernel
theorem d_Se_perform_76 : decode c_Se_perform 76 = .ok (.lconst 0, 1) := by decide +kernel
theorem d_Se_perform_77 : decode c_Se_perform 77 = .ok (.invokevirtual 26, 3) := by decide +kernel
theorem d_Se_perform_80 : decode c_Se_perform 80 = .ok (.return_, 1) := by decide +kernel
theorem d_Ta_perform_0 : decode c_Ta_perform 0 = .ok (.aload_n 0, 1) := by decide +kernel
theorem d_Ta_perform_1 : decode c_Ta_perform 1 = .ok (.iload_n 2, 1) := by decide +kernel
theorem d_Ta_perform_2 : decode c_Ta_perform 2 = .ok (.invokevirtual 26, 3) := by decide +kernel
theorem d_Ta_perform_5 : decode c_Ta_perform 5 = .ok (.istore 4, 2) := by decide +kernel
theorem d_Ta_perform_7 : decode c_Ta_perform 7 = .ok (.iload_n 1, 1) := by decide +kernel
theorem d_Ta_perform_8 : decode c_Ta_perform 8 = .ok (.iconst 1, 1) := by decide +kernel
theorem d_Ta_perform_9 : decode c_Ta_perform 9 = .ok (.if_icmp .ne 23, 3) := by decide +kernel
theorem d_Ta_perform_12 : decode c_Ta_perform 12 = .ok (.iload 4, 2) := by decide +kernel
theorem d_Ta_perform_14 : decode c_Ta_perform 14 = .ok (.iconst (-1), 1) := by decide +kernel
theorem d_Ta_perform_15 : decode c_Ta_perform 15 = .ok (.if_icmp .ne 17, 3) := by decide +kernel
theorem d_Ta_perform_18 : decode c_Ta_perform 18 = .ok (.aload_n 0, 1) := by decide +kernel
theorem d_Ta_perform_19 : decode c_Ta_perform 19 = .ok (.iload_n 2, 1) := by decide +kernel
theorem d_Ta_perform_20 : decode c_Ta_perform 20 = .ok (.iload_n 3, 1) := by decide +kernel
theorem d_Ta_perform_21 : decode c_Ta_perform 21 = .ok (.invokevirtual 30, 3) := by decide +kernel
theorem d_Ta_perform_24 : decode c_Ta_perform 24 = .ok (.aload_n 0, 1) := by decide +kernel
theorem d_Ta_perform_25 : decode c_Ta_perform 25 = .ok (.lconst 0, 1) := by decide +kernel
theorem d_Ta_perform_26 : decode c_Ta_perform 26 = .ok (.invokevirtual 34, 3) := by decide +kernel
theorem d_Ta_perform_29 : decode c_Ta_perform 29 = .ok (.goto 39, 3) := by decide +kernel
theorem d_Ta_perform_32 : decode c_Ta_perform 32 = .ok (.iload_n 1, 1) := by decide +kernel
theorem d_Ta_perform_33 : decode c_Ta_perform 33 = .ok (.iconst 2, 1) := by decide +kernel
theorem d_Ta_perform_34 : decode c_Ta_perform 34 = .ok (.if_icmp .ne 30, 3) := by decide +kernel
theorem d_Ta_perform_37 : decode c_Ta_perform 37 = .ok (.iload 4, 2) := by decide +kernel
theorem d_Ta_perform_39 : decode c_Ta_perform 39 = .ok (.iconst (-1), 1) := by decide +kernel
theorem d_Ta_perform_40 : decode c_Ta_perform 40 = .ok (.if_icmp .eq 24, 3) := by decide +kernel
theorem d_Ta_perform_43 : decode c_Ta_perform 43 = .ok (.aload_n 0, 1) := by decide +kernel
theorem d_Ta_perform_44 : decode c_Ta_perform 44 = .ok (.aload_n 0, 1) := by decide +kernel
theorem d_Ta_perform_45 : decode c_Ta_perform 45 = .ok (.getfield 15, 3) := by decide +kernel
theorem d_Ta_perform_48 : decode c_Ta_perform 48 = .ok (.iload 4, 2) := by decide +kernel
theorem d_Ta_perform_50 : decode c_Ta_perform 50 = .ok (.iaload, 1) := by decide +kernel
theorem d_Ta_perform_51 : decode c_Ta_perform 51 = .ok (.i2l, 1) := by decide +kernel
theorem d_Ta_perform_52 : decode c_Ta_perform 52 = .ok (.invokevirtual 34, 3) := by decide +kernel
theorem d_Ta_perform_55 : decode c_Ta_perform 55 = .ok (.aload_n 0, 1) := by decide +kernel
theorem d_Ta_perform_56 : decode c_Ta_perform 56 = .ok (.iload 4, 2) := by decide +kernel
theorem d_Ta_perform_58 : decode c_Ta_perform 58 = .ok (.invokevirtual 38, 3) := by decide +kernel
theorem d_Ta_perform_61 : decode c_Ta_perform 61 = .ok (.goto 7, 3) := by decide +kernel
theorem d_Ta_perform_64 : decode c_Ta_perform 64 = .ok (.aload_n 0, 1) := by decide +kernel
theorem d_Ta_perform_65 : decode c_Ta_perform 65 = .ok (.invokevirtual 42, 3) := by decide +kernel
theorem d_Ta_perform_68 : decode c_Ta_perform 68 = .ok (.return_, 1) := by decide +kernel
theorem d_Ta_placeOf_0 : decode c_Ta_placeOf 0 = .ok (.iconst 0, 1) := by decide +kernel
theorem d_Ta_placeOf_1 : decode c_Ta_placeOf 1 = .ok (.istore_n 2, 1) := by decide +kernel
theorem d_Ta_placeOf_2 : decode c_Ta_placeOf 2 = .ok (.iload_n 2, 1) := by decide +kernel
theorem d_Ta_placeOf_3 : decode c_Ta_placeOf 3 = .ok (.aload_n 0, 1) := by decide +kernel
theorem d_Ta_placeOf_4 : decode c_Ta_placeOf 4 = .ok (.getfield 18, 3) := by decide +kernel
theorem d_Ta_placeOf_7 : decode c_Ta_placeOf 7 = .ok (.if_icmp .ge 21, 3) := by decide +kernel
theorem d_Ta_placeOf_10 : decode c_Ta_placeOf 10 = .ok (.aload_n 0, 1) := by decide +kernel
theorem d_Ta_placeOf_11 : decode c_Ta_placeOf 11 = .ok (.getfield 9, 3) := by decide +kernel
theorem d_Ta_placeOf_14 : decode c_Ta_placeOf 14 = .ok (.iload_n 2, 1) := by decide +kernel
theorem d_Ta_placeOf_15 : decode c_Ta_placeOf 15 = .ok (.iaload, 1) := by decide +kernel
theorem d_Ta_placeOf_16 : decode c_Ta_placeOf 16 = .ok (.iload_n 1, 1) := by decide +kernel
theorem d_Ta_placeOf_17 : decode c_Ta_placeOf 17 = .ok (.if_icmp .ne 5, 3) := by decide +kernel
theorem d_Ta_placeOf_20 : decode c_Ta_placeOf 20 = .ok (.iload_n 2, 1) := by decide +kernel
theorem d_Ta_placeOf_21 : decode c_Ta_placeOf 21 = .ok (.ireturn, 1) := by decide +kernel
theorem d_Ta_placeOf_22 : decode c_Ta_placeOf 22 = .ok (.iinc 2 1, 3) := by decide +kernel
theorem d_Ta_placeOf_25 : decode c_Ta_placeOf 25 = .ok (.goto (-23), 3) := by decide +kernel
theorem d_Ta_placeOf_28 : decode c_Ta_placeOf 28 = .ok (.iconst (-1), 1) := by decide +kernel
theorem d_Ta_placeOf_29 : decode c_Ta_placeOf 29 = .ok (.ireturn, 1) := by decide +kernel
theorem d_Ta_add_0 : decode c_Ta_add 0 = .ok (.aload_n 0, 1) := by decide +kernel
theorem d_Ta_add_1 : decode c_Ta_add 1 = .ok (.getfield 9, 3) := by decide +kernel
theorem d_Ta_add_4 : decode c_Ta_add 4 = .ok (.aload_n 0, 1) := by decide +kernel
theorem d_Ta_add_5 : decode c_Ta_add 5 = .ok (.getfield 18, 3) := by decide +kernel
theorem d_Ta_add_8 : decode c_Ta_add 8 = .ok (.iload_n 1, 1) := by decide +kernel
theorem d_Ta_add_9 : decode c_Ta_add 9 = .ok (.iastore, 1) := by decide +kernel
theorem d_Ta_add_10 : decode c_Ta_add 10 = .ok (.aload_n 0, 1) := by decide +kernel
theorem d_Ta_add_11 : decode c_Ta_add 11 = .ok (.getfield 15, 3) := by decide +kernel
theorem d_Ta_add_14 : decode c_Ta_add 14 = .ok (.aload_n 0, 1) := by decide +kernel
theorem d_Ta_add_15 : decode c_Ta_add 15 = .ok (.getfield 18, 3) := by decide +kernel
theorem d_Ta_add_18 : decode c_Ta_add 18 = .ok (.iload_n 2, 1) := by decide +kernel
theorem d_Ta_add_19 : decode c_Ta_add 19 = .ok (.iastore, 1) := by decide +kernel
theorem d_Ta_add_20 : decode c_Ta_add 20 = .ok (.aload_n 0, 1) := by decide +kernel
theorem d_Ta_add_21 : decode c_Ta_add 21 = .ok (.dup, 1) := by decide +kernel
theorem d_Ta_add_22 : decode c_Ta_add 22 = .ok (.getfield 18, 3) := by decide +kernel
theorem d_Ta_add_25 : decode c_Ta_add 25 = .ok (.iconst 1, 1) := by decide +kernel
theorem d_Ta_add_26 : decode c_Ta_add 26 = .ok (.iadd, 1) := by decide +kernel
theorem d_Ta_add_27 : decode c_Ta_add 27 = .ok (.putfield 18, 3) := by decide +kernel
theorem d_Ta_add_30 : decode c_Ta_add 30 = .ok (.return_, 1) := by decide +kernel
theorem d_Ta_remove_0 : decode c_Ta_remove 0 = .ok (.aload_n 0, 1) := by decide +kernel
theorem d_Ta_remove_1 : decode c_Ta_remove 1 = .ok (.dup, 1) := by decide +kernel
theorem d_Ta_remove_2 : decode c_Ta_remove 2 = .ok (.getfield 18, 3) := by decide +kernel
theorem d_Ta_remove_5 : decode c_Ta_remove 5 = .ok (.iconst 1, 1) := by decide +kernel
theorem d_Ta_remove_6 : decode c_Ta_remove 6 = .ok (.isub, 1) := by decide +kernel
theorem d_Ta_remove_7 : decode c_Ta_remove 7 = .ok (.putfield 18, 3) := by decide +kernel
theorem d_Ta_remove_10 : decode c_Ta_remove 10 = .ok (.aload_n 0, 1) := by decide +kernel
theorem d_Ta_remove_11 : decode c_Ta_remove 11 = .ok (.getfield 9, 3) := by decide +kernel
theorem d_Ta_remove_14 : decode c_Ta_remove 14 = .ok (.iload_n 1, 1) := by decide +kernel
theorem d_Ta_remove_15 : decode c_Ta_remove 15 = .ok (.aload_n 0, 1) := by decide +kernel
theorem d_Ta_remove_16 : decode c_Ta_remove 16 = .ok (.getfield 9, 3) := by decide +kernel
theorem d_Ta_remove_19 : decode c_Ta_remove 19 = .ok (.aload_n 0, 1) := by decide +kernel
theorem d_Ta_remove_20 : decode c_Ta_remove 20 = .ok (.getfield 18, 3) := by decide +kernel
theorem d_Ta_remove_23 : decode c_Ta_remove 23 = .ok (.iaload, 1) := by decide +kernel
theorem d_Ta_remove_24 : decode c_Ta_remove 24 = .ok (.iastore, 1) := by decide +kernel
theorem d_Ta_remove_25 : decode c_Ta_remove 25 = .ok (.aload_n 0, 1) := by decide +kernel
theorem d_Ta_remove_26 : decode c_Ta_remove 26 = .ok (.getfield 15, 3) := by decide +kernel
theorem d_Ta_remove_29 : decode c_Ta_remove 29 = .ok (.iload_n 1, 1) := by decide +kernel
theorem d_Ta_remove_30 : decode c_Ta_remove 30 = .ok (.aload_n 0, 1) := by decide +kernel
theorem d_Ta_remove_31 : decode c_Ta_remove 31 = .ok (.getfield 15, 3) := by decide +kernel
theorem d_Ta_remove_34 : decode c_Ta_remove 34 = .ok (.aload_n 0, 1) := by decide +kernel
theorem d_Ta_remove_35 : decode c_Ta_remove 35 = .ok (.getfield 18, 3) := by decide +kernel
theorem d_Ta_remove_38 : decode c_Ta_remove 38 = .ok (.iaload, 1) := by decide +kernel
theorem d_Ta_remove_39 : decode c_Ta_remove 39 = .ok (.iastore, 1) := by decide +kernel
theorem d_Ta_remove_40 : decode c_Ta_remove 40 = .ok (.return_, 1) := by decide +kernel
theorem d_EP_strike_0 : decode c_EP_strike 0 = .ok (.iload_n 2, 1) := by decide +kernel
theorem d_EP_strike_1 : decode c_EP_strike 1 = .ok (.invokestatic 93, 3) := by decide +kernel
theorem d_EP_strike_4 : decode c_EP_strike 4 = .ok (.aload_n 0, 1) := by decide +kernel
theorem d_EP_strike_5 : decode c_EP_strike 5 = .ok (.iload_n 1, 1) := by decide +kernel
theorem d_EP_strike_6 : decode c_EP_strike 6 = .ok (.invokevirtual 90, 3) := by decide +kernel
theorem d_EP_strike_9 : decode c_EP_strike 9 = .ok (.astore_n 3, 1) := by decide +kernel
theorem d_EP_strike_10 : decode c_EP_strike 10 = .ok (.aload_n 3, 1) := by decide +kernel
theorem d_EP_strike_11 : decode c_EP_strike 11 = .ok (.getfield 87, 3) := by decide +kernel
theorem d_EP_strike_14 : decode c_EP_strike 14 = .ok (.iload_n 2, 1) := by decide +kernel
theorem d_EP_strike_15 : decode c_EP_strike 15 = .ok (.invokevirtual 130, 3) := by decide +kernel
theorem d_EP_strike_18 : decode c_EP_strike 18 = .ok (.istore 4, 2) := by decide +kernel
theorem d_EP_strike_20 : decode c_EP_strike 20 = .ok (.iload 4, 2) := by decide +kernel
theorem d_EP_strike_22 : decode c_EP_strike 22 = .ok (.iconst (-1), 1) := by decide +kernel
theorem d_EP_strike_23 : decode c_EP_strike 23 = .ok (.if_icmp .ne 5, 3) := by decide +kernel
theorem d_EP_strike_26 : decode c_EP_strike 26 = .ok (.iconst 0, 1) := by decide +kernel
theorem d_EP_strike_27 : decode c_EP_strike 27 = .ok (.ireturn, 1) := by decide +kernel
theorem d_EP_strike_28 : decode c_EP_strike 28 = .ok (.aload_n 3, 1) := by decide +kernel
theorem d_EP_strike_29 : decode c_EP_strike 29 = .ok (.getfield 78, 3) := by decide +kernel
theorem d_EP_strike_32 : decode c_EP_strike 32 = .ok (.aload_n 3, 1) := by decide +kernel
theorem d_EP_strike_33 : decode c_EP_strike 33 = .ok (.getfield 87, 3) := by decide +kernel
theorem d_EP_strike_36 : decode c_EP_strike 36 = .ok (.invokevirtual 118, 3) := by decide +kernel
theorem d_EP_strike_39 : decode c_EP_strike 39 = .ok (.aload_n 3, 1) := by decide +kernel
theorem d_EP_strike_40 : decode c_EP_strike 40 = .ok (.getfield 87, 3) := by decide +kernel
theorem d_EP_strike_43 : decode c_EP_strike 43 = .ok (.iload 4, 2) := by decide +kernel
theorem d_EP_strike_45 : decode c_EP_strike 45 = .ok (.invokevirtual 134, 3) := by decide +kernel
theorem d_EP_strike_48 : decode c_EP_strike 48 = .ok (.aload_n 3, 1) := by decide +kernel
theorem d_EP_strike_49 : decode c_EP_strike 49 = .ok (.getfield 87, 3) := by decide +kernel
theorem d_EP_strike_52 : decode c_EP_strike 52 = .ok (.aload_n 0, 1) := by decide +kernel
theorem d_EP_strike_53 : decode c_EP_strike 53 = .ok (.aload_n 3, 1) := by decide +kernel
theorem d_EP_strike_54 : decode c_EP_strike 54 = .ok (.getfield 69, 3) := by decide +kernel
theorem d_EP_strike_57 : decode c_EP_strike 57 = .ok (.invokevirtual 103, 3) := by decide +kernel
theorem d_EP_strike_60 : decode c_EP_strike 60 = .ok (.invokevirtual 126, 3) := by decide +kernel
theorem d_EP_strike_63 : decode c_EP_strike 63 = .ok (.iconst 1, 1) := by decide +kernel
theorem d_EP_strike_64 : decode c_EP_strike 64 = .ok (.ireturn, 1) := by decide +kernel
theorem d_Li_remove_0 : decode c_Li_remove 0 = .ok (.aload_n 0, 1) := by decide +kernel
theorem d_Li_remove_1 : decode c_Li_remove 1 = .ok (.dup, 1) := by decide +kernel
theorem d_Li_remove_2 : decode c_Li_remove 2 = .ok (.getfield 32, 3) := by decide +kernel
theorem d_Li_remove_5 : decode c_Li_remove 5 = .ok (.iconst 1, 1) := by decide +kernel
theorem d_Li_remove_6 : decode c_Li_remove 6 = .ok (.isub, 1) := by decide +kernel
theorem d_Li_remove_7 : decode c_Li_remove 7 = .ok (.putfield 32, 3) := by decide +kernel
theorem d_Li_remove_10 : decode c_Li_remove 10 = .ok (.iload_n 1, 1) := by decide +kernel
theorem d_Li_remove_11 : decode c_Li_remove 11 = .ok (.istore_n 2, 1) := by decide +kernel
theorem d_Li_remove_12 : decode c_Li_remove 12 = .ok (.iload_n 2, 1) := by decide +kernel
theorem d_Li_remove_13 : decode c_Li_remove 13 = .ok (.aload_n 0, 1) := by decide +kernel
theorem d_Li_remove_14 : decode c_Li_remove 14 = .ok (.getfield 32, 3) := by decide +kernel
theorem d_Li_remove_17 : decode c_Li_remove 17 = .ok (.if_icmp .ge 18, 3) := by decide +kernel
theorem d_Li_remove_20 : decode c_Li_remove 20 = .ok (.aload_n 0, 1) := by decide +kernel
theorem d_Li_remove_21 : decode c_Li_remove 21 = .ok (.aload_n 0, 1) := by decide +kernel
theorem d_Li_remove_22 : decode c_Li_remove 22 = .ok (.iload_n 2, 1) := by decide +kernel
theorem d_Li_remove_23 : decode c_Li_remove 23 = .ok (.iconst 1, 1) := by decide +kernel
theorem d_Li_remove_24 : decode c_Li_remove 24 = .ok (.iadd, 1) := by decide +kernel
theorem d_Li_remove_25 : decode c_Li_remove 25 = .ok (.iload_n 2, 1) := by decide +kernel
theorem d_Li_remove_26 : decode c_Li_remove 26 = .ok (.invokevirtual 40, 3) := by decide +kernel
theorem d_Li_remove_29 : decode c_Li_remove 29 = .ok (.iinc 2 1, 3) := by decide +kernel
theorem d_Li_remove_32 : decode c_Li_remove 32 = .ok (.goto (-20), 3) := by decide +kernel
theorem d_Li_remove_35 : decode c_Li_remove 35 = .ok (.return_, 1) := by decide +kernel
theorem d_EP_shift_0 : decode c_EP_shift 0 = .ok (.iload_n 2, 1) := by decide +kernel
theorem d_EP_shift_1 : decode c_EP_shift 1 = .ok (.invokestatic 93, 3) := by decide +kernel
theorem d_EP_shift_4 : decode c_EP_shift 4 = .ok (.iload_n 3, 1) := by decide +kernel
theorem d_EP_shift_5 : decode c_EP_shift 5 = .ok (.invokestatic 93, 3) := by decide +kernel
theorem d_EP_shift_8 : decode c_EP_shift 8 = .ok (.aload_n 0, 1) := by decide +kernel
theorem d_EP_shift_9 : decode c_EP_shift 9 = .ok (.iload_n 1, 1) := by decide +kernel
theorem d_EP_shift_10 : decode c_EP_shift 10 = .ok (.invokevirtual 90, 3) := by decide +kernel
theorem d_EP_shift_13 : decode c_EP_shift 13 = .ok (.astore 4, 2) := by decide +kernel
theorem d_EP_shift_15 : decode c_EP_shift 15 = .ok (.aload 4, 2) := by decide +kernel
theorem d_EP_shift_17 : decode c_EP_shift 17 = .ok (.getfield 87, 3) := by decide +kernel
theorem d_EP_shift_20 : decode c_EP_shift 20 = .ok (.iload_n 3, 1) := by decide +kernel
theorem d_EP_shift_21 : decode c_EP_shift 21 = .ok (.invokestatic 97, 3) := by decide +kernel
theorem d_EP_shift_24 : decode c_EP_shift 24 = .ok (.aload 4, 2) := by decide +kernel
theorem d_EP_shift_26 : decode c_EP_shift 26 = .ok (.getfield 87, 3) := by decide +kernel
theorem d_EP_shift_29 : decode c_EP_shift 29 = .ok (.iload_n 2, 1) := by decide +kernel
theorem d_EP_shift_30 : decode c_EP_shift 30 = .ok (.invokestatic 137, 3) := by decide +kernel
theorem d_EP_shift_33 : decode c_EP_shift 33 = .ok (.istore 5, 2) := by decide +kernel
theorem d_EP_shift_35 : decode c_EP_shift 35 = .ok (.aload 4, 2) := by decide +kernel
theorem d_EP_shift_37 : decode c_EP_shift 37 = .ok (.getfield 78, 3) := by decide +kernel
theorem d_EP_shift_40 : decode c_EP_shift 40 = .ok (.aload 4, 2) := by decide +kernel
theorem d_EP_shift_42 : decode c_EP_shift 42 = .ok (.getfield 87, 3) := by decide +kernel
theorem d_EP_shift_45 : decode c_EP_shift 45 = .ok (.invokevirtual 118, 3) := by decide +kernel
theorem d_EP_shift_48 : decode c_EP_shift 48 = .ok (.aload 4, 2) := by decide +kernel
theorem d_EP_shift_50 : decode c_EP_shift 50 = .ok (.getfield 87, 3) := by decide +kernel
theorem d_EP_shift_53 : decode c_EP_shift 53 = .ok (.iload 5, 2) := by decide +kernel
theorem d_EP_shift_55 : decode c_EP_shift 55 = .ok (.iload_n 3, 1) := by decide +kernel
theorem d_EP_shift_56 : decode c_EP_shift 56 = .ok (.invokevirtual 141, 3) := by decide +kernel
theorem d_EP_shift_59 : decode c_EP_shift 59 = .ok (.aload 4, 2) := by decide +kernel
theorem d_EP_shift_61 : decode c_EP_shift 61 = .ok (.getfield 87, 3) := by decide +kernel
theorem d_EP_shift_64 : decode c_EP_shift 64 = .ok (.aload_n 0, 1) := by decide +kernel
theorem d_EP_shift_65 : decode c_EP_shift 65 = .ok (.aload 4, 2) := by decide +kernel
theorem d_EP_shift_67 : decode c_EP_shift 67 = .ok (.getfield 69, 3) := by decide +kernel
theorem d_EP_shift_70 : decode c_EP_shift 70 = .ok (.invokevirtual 103, 3) := by decide +kernel
theorem d_EP_shift_73 : decode c_EP_shift 73 = .ok (.invokevirtual 126, 3) := by decide +kernel
theorem d_EP_shift_76 : decode c_EP_shift 76 = .ok (.return_, 1) := by decide +kernel
theorem d_EP_takenPlace_0 : decode c_EP_takenPlace 0 = .ok (.aload_n 0, 1) := by decide +kernel
theorem d_EP_takenPlace_1 : decode c_EP_takenPlace 1 = .ok (.iload_n 1, 1) := by decide +kernel
theorem d_EP_takenPlace_2 : decode c_EP_takenPlace 2 = .ok (.invokevirtual 130, 3) := by decide +kernel
theorem d_EP_takenPlace_5 : decode c_EP_takenPlace 5 = .ok (.istore_n 2, 1) := by decide +kernel
theorem d_EP_takenPlace_6 : decode c_EP_takenPlace 6 = .ok (.iload_n 2, 1) := by decide +kernel
theorem d_EP_takenPlace_7 : decode c_EP_takenPlace 7 = .ok (.iconst (-1), 1) := by decide +kernel
theorem d_EP_takenPlace_8 : decode c_EP_takenPlace 8 = .ok (.if_icmp .ne 13, 3) := by decide +kernel
theorem d_EP_takenPlace_11 : decode c_EP_takenPlace 11 = .ok (.new 156, 3) := by decide +kernel
theorem d_EP_takenPlace_14 : decode c_EP_takenPlace 14 = .ok (.dup, 1) := by decide +kernel
theorem d_EP_takenPlace_15 : decode c_EP_takenPlace 15 = .ok (.ldc 234, 2) := by decide +kernel
theorem d_EP_takenPlace_17 : decode c_EP_takenPlace 17 = .ok (.invokespecial 160, 3) := by decide +kernel
theorem d_EP_takenPlace_20 : decode c_EP_takenPlace 20 = .ok (.athrow, 1) := by decide +kernel
theorem d_EP_takenPlace_21 : decode c_EP_takenPlace 21 = .ok (.iload_n 2, 1) := by decide +kernel
theorem d_EP_takenPlace_22 : decode c_EP_takenPlace 22 = .ok (.ireturn, 1) := by decide +kernel
theorem d_Li_relocate_0 : decode c_Li_relocate 0 = .ok (.aload_n 0, 1) := by decide +kernel
theorem d_Li_relocate_1 : decode c_Li_relocate 1 = .ok (.getfield 15, 3) := by decide +kernel
theorem d_Li_relocate_4 : decode c_Li_relocate 4 = .ok (.iload_n 1, 1) := by decide +kernel
theorem d_Li_relocate_5 : decode c_Li_relocate 5 = .ok (.iaload, 1) := by decide +kernel
theorem d_Li_relocate_6 : decode c_Li_relocate 6 = .ok (.istore_n 3, 1) := by decide +kernel
theorem d_Li_relocate_7 : decode c_Li_relocate 7 = .ok (.aload_n 0, 1) := by decide +kernel
theorem d_Li_relocate_8 : decode c_Li_relocate 8 = .ok (.getfield 18, 3) := by decide +kernel
theorem d_Li_relocate_11 : decode c_Li_relocate 11 = .ok (.iload_n 1, 1) := by decide +kernel
theorem d_Li_relocate_12 : decode c_Li_relocate 12 = .ok (.iaload, 1) := by decide +kernel
theorem d_Li_relocate_13 : decode c_Li_relocate 13 = .ok (.istore 4, 2) := by decide +kernel
theorem d_Li_relocate_15 : decode c_Li_relocate 15 = .ok (.aload_n 0, 1) := by decide +kernel
theorem d_Li_relocate_16 : decode c_Li_relocate 16 = .ok (.getfield 21, 3) := by decide +kernel
theorem d_Li_relocate_19 : decode c_Li_relocate 19 = .ok (.iload_n 1, 1) := by decide +kernel
theorem d_Li_relocate_20 : decode c_Li_relocate 20 = .ok (.iaload, 1) := by decide +kernel
theorem d_Li_relocate_21 : decode c_Li_relocate 21 = .ok (.istore 5, 2) := by decide +kernel
theorem d_Li_relocate_23 : decode c_Li_relocate 23 = .ok (.aload_n 0, 1) := by decide +kernel
theorem d_Li_relocate_24 : decode c_Li_relocate 24 = .ok (.iload_n 1, 1) := by decide +kernel
theorem d_Li_relocate_25 : decode c_Li_relocate 25 = .ok (.invokevirtual 44, 3) := by decide +kernel
theorem d_Li_relocate_28 : decode c_Li_relocate 28 = .ok (.aload_n 0, 1) := by decide +kernel
theorem d_Li_relocate_29 : decode c_Li_relocate 29 = .ok (.iload_n 2, 1) := by decide +kernel
theorem d_Li_relocate_30 : decode c_Li_relocate 30 = .ok (.iload_n 3, 1) := by decide +kernel
theorem d_Li_relocate_31 : decode c_Li_relocate 31 = .ok (.iload 4, 2) := by decide +kernel
theorem d_Li_relocate_33 : decode c_Li_relocate 33 = .ok (.iload 5, 2) := by decide +kernel
theorem d_Li_relocate_35 : decode c_Li_relocate 35 = .ok (.invokevirtual 48, 3) := by decide +kernel
theorem d_Li_relocate_38 : decode c_Li_relocate 38 = .ok (.return_, 1) := by decide +kernel
theorem d_EP_front_0 : decode c_EP_front 0 = .ok (.iload_n 2, 1) := by decide +kernel
theorem d_EP_front_1 : decode c_EP_front 1 = .ok (.invokestatic 93, 3) := by decide +kernel
theorem d_EP_front_4 : decode c_EP_front 4 = .ok (.aload_n 0, 1) := by decide +kernel
theorem d_EP_front_5 : decode c_EP_front 5 = .ok (.iload_n 1, 1) := by decide +kernel
theorem d_EP_front_6 : decode c_EP_front 6 = .ok (.invokevirtual 90, 3) := by decide +kernel
theorem d_EP_front_9 : decode c_EP_front 9 = .ok (.astore_n 3, 1) := by decide +kernel
theorem d_EP_front_10 : decode c_EP_front 10 = .ok (.aload_n 3, 1) := by decide +kernel
theorem d_EP_front_11 : decode c_EP_front 11 = .ok (.getfield 69, 3) := by decide +kernel
theorem d_EP_front_14 : decode c_EP_front 14 = .ok (.ifCond .eq 11, 3) := by decide +kernel
theorem d_EP_front_17 : decode c_EP_front 17 = .ok (.aload_n 3, 1) := by decide +kernel
theorem d_EP_front_18 : decode c_EP_front 18 = .ok (.getfield 69, 3) := by decide +kernel
theorem d_EP_front_21 : decode c_EP_front 21 = .ok (.iconst 1, 1) := by decide +kernel
theorem d_EP_front_22 : decode c_EP_front 22 = .ok (.if_icmp .ne 7, 3) := by decide +kernel
theorem d_EP_front_25 : decode c_EP_front 25 = .ok (.iconst 1, 1) := by decide +kernel
theorem d_EP_front_26 : decode c_EP_front 26 = .ok (.goto 4, 3) := by decide +kernel
theorem d_EP_front_29 : decode c_EP_front 29 = .ok (.iconst 0, 1) := by decide +kernel
theorem d_EP_front_30 : decode c_EP_front 30 = .ok (.invokestatic 145, 3) := by decide +kernel
theorem d_EP_front_33 : decode c_EP_front 33 = .ok (.aload_n 3, 1) := by decide +kernel
theorem d_EP_front_34 : decode c_EP_front 34 = .ok (.getfield 69, 3) := by decide +kernel
theorem d_EP_front_37 : decode c_EP_front 37 = .ok (.ifCond .ne 10, 3) := by decide +kernel
theorem d_EP_front_40 : decode c_EP_front 40 = .ok (.aload_n 0, 1) := by decide +kernel
theorem d_EP_front_41 : decode c_EP_front 41 = .ok (.getfield 19, 3) := by decide +kernel
theorem d_EP_front_44 : decode c_EP_front 44 = .ok (.goto 7, 3) := by decide +kernel
theorem d_EP_front_47 : decode c_EP_front 47 = .ok (.aload_n 0, 1) := by decide +kernel
theorem d_EP_front_48 : decode c_EP_front 48 = .ok (.getfield 26, 3) := by decide +kernel
theorem d_EP_front_51 : decode c_EP_front 51 = .ok (.astore 4, 2) := by decide +kernel
theorem d_EP_front_53 : decode c_EP_front 53 = .ok (.aload_n 3, 1) := by decide +kernel
theorem d_EP_front_54 : decode c_EP_front 54 = .ok (.getfield 87, 3) := by decide +kernel
theorem d_EP_front_57 : decode c_EP_front 57 = .ok (.iload_n 2, 1) := by decide +kernel
theorem d_EP_front_58 : decode c_EP_front 58 = .ok (.aload 4, 2) := by decide +kernel
theorem d_EP_front_60 : decode c_EP_front 60 = .ok (.invokevirtual 149, 3) := by decide +kernel
theorem d_EP_front_63 : decode c_EP_front 63 = .ok (.aload 4, 2) := by decide +kernel
theorem d_EP_front_65 : decode c_EP_front 65 = .ok (.getfield 153, 3) := by decide +kernel
theorem d_EP_front_68 : decode c_EP_front 68 = .ok (.ifCond .ne 13, 3) := by decide +kernel
theorem d_EP_front_71 : decode c_EP_front 71 = .ok (.new 156, 3) := by decide +kernel
theorem d_EP_front_74 : decode c_EP_front 74 = .ok (.dup, 1) := by decide +kernel
theorem d_EP_front_75 : decode c_EP_front 75 = .ok (.ldc 158, 2) := by decide +kernel
theorem d_EP_front_77 : decode c_EP_front 77 = .ok (.invokespecial 160, 3) := by decide +kernel
theorem d_EP_front_80 : decode c_EP_front 80 = .ok (.athrow, 1) := by decide +kernel
theorem d_EP_front_81 : decode c_EP_front 81 = .ok (.aload 4, 2) := by decide +kernel
theorem d_EP_front_83 : decode c_EP_front 83 = .ok (.getfield 161, 3) := by decide +kernel
theorem d_EP_front_86 : decode c_EP_front 86 = .ok (.iconst 0, 1) := by decide +kernel
theorem d_EP_front_87 : decode c_EP_front 87 = .ok (.iaload, 1) := by decide +kernel
theorem d_EP_front_88 : decode c_EP_front 88 = .ok (.ireturn, 1) := by decide +kernel
theorem d_EP_checkKind_0 : decode c_EP_checkKind 0 = .ok (.iload_n 0, 1) := by decide +kernel
theorem d_EP_checkKind_1 : decode c_EP_checkKind 1 = .ok (.ifCond .ne 13, 3) := by decide +kernel
theorem d_EP_checkKind_4 : decode c_EP_checkKind 4 = .ok (.new 73, 3) := by decide +kernel
theorem d_EP_checkKind_7 : decode c_EP_checkKind 7 = .ok (.dup, 1) := by decide +kernel
theorem d_EP_checkKind_8 : decode c_EP_checkKind 8 = .ok (.ldc 230, 2) := by decide +kernel
theorem d_EP_checkKind_10 : decode c_EP_checkKind 10 = .ok (.invokespecial 77, 3) := by decide +kernel
theorem d_EP_checkKind_13 : decode c_EP_checkKind 13 = .ok (.athrow, 1) := by decide +kernel
theorem d_EP_checkKind_14 : decode c_EP_checkKind 14 = .ok (.return_, 1) := by decide +kernel
theorem d_Li_runUpTo_0 : decode c_Li_runUpTo 0 = .ok (.aload_n 2, 1) := by decide +kernel
theorem d_Li_runUpTo_1 : decode c_Li_runUpTo 1 = .ok (.invokevirtual 52, 3) := by decide +kernel
theorem d_Li_runUpTo_4 : decode c_Li_runUpTo 4 = .ok (.iconst 0, 1) := by decide +kernel
theorem d_Li_runUpTo_5 : decode c_Li_runUpTo 5 = .ok (.istore_n 3, 1) := by decide +kernel
theorem d_Li_runUpTo_6 : decode c_Li_runUpTo 6 = .ok (.iload_n 3, 1) := by decide +kernel
theorem d_Li_runUpTo_7 : decode c_Li_runUpTo 7 = .ok (.aload_n 0, 1) := by decide +kernel
theorem d_Li_runUpTo_8 : decode c_Li_runUpTo 8 = .ok (.getfield 32, 3) := by decide +kernel
theorem d_Li_runUpTo_11 : decode c_Li_runUpTo 11 = .ok (.if_icmp .ge 41, 3) := by decide +kernel
theorem d_Li_runUpTo_14 : decode c_Li_runUpTo 14 = .ok (.aload_n 0, 1) := by decide +kernel
theorem d_Li_runUpTo_15 : decode c_Li_runUpTo 15 = .ok (.getfield 9, 3) := by decide +kernel
theorem d_Li_runUpTo_18 : decode c_Li_runUpTo 18 = .ok (.iload_n 3, 1) := by decide +kernel
theorem d_Li_runUpTo_19 : decode c_Li_runUpTo 19 = .ok (.iaload, 1) := by decide +kernel
theorem d_Li_runUpTo_20 : decode c_Li_runUpTo 20 = .ok (.iload_n 1, 1) := by decide +kernel
theorem d_Li_runUpTo_21 : decode c_Li_runUpTo 21 = .ok (.if_icmp .gt 31, 3) := by decide +kernel
theorem d_Li_runUpTo_24 : decode c_Li_runUpTo 24 = .ok (.aload_n 2, 1) := by decide +kernel
theorem d_Li_runUpTo_25 : decode c_Li_runUpTo 25 = .ok (.aload_n 0, 1) := by decide +kernel
theorem d_Li_runUpTo_26 : decode c_Li_runUpTo 26 = .ok (.getfield 15, 3) := by decide +kernel
theorem d_Li_runUpTo_29 : decode c_Li_runUpTo 29 = .ok (.iload_n 3, 1) := by decide +kernel
theorem d_Li_runUpTo_30 : decode c_Li_runUpTo 30 = .ok (.iaload, 1) := by decide +kernel
theorem d_Li_runUpTo_31 : decode c_Li_runUpTo 31 = .ok (.aload_n 0, 1) := by decide +kernel
theorem d_Li_runUpTo_32 : decode c_Li_runUpTo 32 = .ok (.getfield 18, 3) := by decide +kernel
theorem d_Li_runUpTo_35 : decode c_Li_runUpTo 35 = .ok (.iload_n 3, 1) := by decide +kernel
theorem d_Li_runUpTo_36 : decode c_Li_runUpTo 36 = .ok (.iaload, 1) := by decide +kernel
theorem d_Li_runUpTo_37 : decode c_Li_runUpTo 37 = .ok (.aload_n 0, 1) := by decide +kernel
theorem d_Li_runUpTo_38 : decode c_Li_runUpTo 38 = .ok (.getfield 21, 3) := by decide +kernel
theorem d_Li_runUpTo_41 : decode c_Li_runUpTo 41 = .ok (.iload_n 3, 1) := by decide +kernel
theorem d_Li_runUpTo_42 : decode c_Li_runUpTo 42 = .ok (.iaload, 1) := by decide +kernel
theorem d_Li_runUpTo_43 : decode c_Li_runUpTo 43 = .ok (.invokevirtual 57, 3) := by decide +kernel
theorem d_Li_runUpTo_46 : decode c_Li_runUpTo 46 = .ok (.iinc 3 1, 3) := by decide +kernel
theorem d_Li_runUpTo_49 : decode c_Li_runUpTo 49 = .ok (.goto (-43), 3) := by decide +kernel
theorem d_Li_runUpTo_52 : decode c_Li_runUpTo 52 = .ok (.return_, 1) := by decide +kernel
theorem d_EP_size_0 : decode c_EP_size 0 = .ok (.iload_n 2, 1) := by decide +kernel
theorem d_EP_size_1 : decode c_EP_size 1 = .ok (.invokestatic 93, 3) := by decide +kernel
theorem d_EP_size_4 : decode c_EP_size 4 = .ok (.aload_n 0, 1) := by decide +kernel
theorem d_EP_size_5 : decode c_EP_size 5 = .ok (.iload_n 1, 1) := by decide +kernel
theorem d_EP_size_6 : decode c_EP_size 6 = .ok (.invokevirtual 90, 3) := by decide +kernel
theorem d_EP_size_9 : decode c_EP_size 9 = .ok (.astore_n 3, 1) := by decide +kernel
theorem d_EP_size_10 : decode c_EP_size 10 = .ok (.aload_n 3, 1) := by decide +kernel
theorem d_EP_size_11 : decode c_EP_size 11 = .ok (.getfield 69, 3) := by decide +kernel
theorem d_EP_size_14 : decode c_EP_size 14 = .ok (.iconst 4, 1) := by decide +kernel
theorem d_EP_size_15 : decode c_EP_size 15 = .ok (.if_icmp .eq 7, 3) := by decide +kernel
theorem d_EP_size_18 : decode c_EP_size 18 = .ok (.iconst 1, 1) := by decide +kernel
theorem d_EP_size_19 : decode c_EP_size 19 = .ok (.goto 4, 3) := by decide +kernel
theorem d_EP_size_22 : decode c_EP_size 22 = .ok (.iconst 0, 1) := by decide +kernel
theorem d_EP_size_23 : decode c_EP_size 23 = .ok (.invokestatic 145, 3) := by decide +kernel
theorem d_EP_size_26 : decode c_EP_size 26 = .ok (.aload_n 0, 1) := by decide +kernel
theorem d_EP_size_27 : decode c_EP_size 27 = .ok (.aload_n 3, 1) := by decide +kernel
theorem d_EP_size_28 : decode c_EP_size 28 = .ok (.getfield 69, 3) := by decide +kernel
theorem d_EP_size_31 : decode c_EP_size 31 = .ok (.invokevirtual 103, 3) := by decide +kernel
theorem d_EP_size_34 : decode c_EP_size 34 = .ok (.astore 4, 2) := by decide +kernel
theorem d_EP_size_36 : decode c_EP_size 36 = .ok (.aload_n 3, 1) := by decide +kernel
theorem d_EP_size_37 : decode c_EP_size 37 = .ok (.getfield 87, 3) := by decide +kernel
theorem d_EP_size_40 : decode c_EP_size 40 = .ok (.iload_n 2, 1) := by decide +kernel
theorem d_EP_size_41 : decode c_EP_size 41 = .ok (.aload 4, 2) := by decide +kernel
theorem d_EP_size_43 : decode c_EP_size 43 = .ok (.invokevirtual 149, 3) := by decide +kernel
theorem d_EP_size_46 : decode c_EP_size 46 = .ok (.aload 4, 2) := by decide +kernel
theorem d_EP_size_48 : decode c_EP_size 48 = .ok (.getfield 165, 3) := by decide +kernel
theorem d_EP_size_51 : decode c_EP_size 51 = .ok (.ireturn, 1) := by decide +kernel
theorem d_EP_at_0 : decode c_EP_at 0 = .ok (.iload_n 2, 1) := by decide +kernel
theorem d_EP_at_1 : decode c_EP_at 1 = .ok (.invokestatic 93, 3) := by decide +kernel
theorem d_EP_at_4 : decode c_EP_at 4 = .ok (.aload_n 0, 1) := by decide +kernel
theorem d_EP_at_5 : decode c_EP_at 5 = .ok (.iload_n 1, 1) := by decide +kernel
theorem d_EP_at_6 : decode c_EP_at 6 = .ok (.invokevirtual 90, 3) := by decide +kernel
theorem d_EP_at_9 : decode c_EP_at 9 = .ok (.astore 4, 2) := by decide +kernel
theorem d_EP_at_11 : decode c_EP_at 11 = .ok (.aload 4, 2) := by decide +kernel
theorem d_EP_at_13 : decode c_EP_at 13 = .ok (.getfield 69, 3) := by decide +kernel
theorem d_EP_at_16 : decode c_EP_at 16 = .ok (.iconst 2, 1) := by decide +kernel
theorem d_EP_at_17 : decode c_EP_at 17 = .ok (.if_icmp .ne 7, 3) := by decide +kernel
theorem d_EP_at_20 : decode c_EP_at 20 = .ok (.iconst 1, 1) := by decide +kernel
theorem d_EP_at_21 : decode c_EP_at 21 = .ok (.goto 4, 3) := by decide +kernel
theorem d_EP_at_24 : decode c_EP_at 24 = .ok (.iconst 0, 1) := by decide +kernel
theorem d_EP_at_25 : decode c_EP_at 25 = .ok (.invokestatic 145, 3) := by decide +kernel
theorem d_EP_at_28 : decode c_EP_at 28 = .ok (.aload 4, 2) := by decide +kernel
theorem d_EP_at_30 : decode c_EP_at 30 = .ok (.getfield 87, 3) := by decide +kernel
theorem d_EP_at_33 : decode c_EP_at 33 = .ok (.iload_n 2, 1) := by decide +kernel
theorem d_EP_at_34 : decode c_EP_at 34 = .ok (.aload_n 0, 1) := by decide +kernel
theorem d_EP_at_35 : decode c_EP_at 35 = .ok (.getfield 33, 3) := by decide +kernel
theorem d_EP_at_38 : decode c_EP_at 38 = .ok (.invokevirtual 149, 3) := by decide +kernel
theorem d_EP_at_41 : decode c_EP_at 41 = .ok (.aload_n 0, 1) := by decide +kernel
theorem d_EP_at_42 : decode c_EP_at 42 = .ok (.getfield 33, 3) := by decide +kernel
theorem d_EP_at_45 : decode c_EP_at 45 = .ok (.iload_n 3, 1) := by decide +kernel
theorem d_EP_at_46 : decode c_EP_at 46 = .ok (.invokevirtual 166, 3) := by decide +kernel
theorem d_EP_at_49 : decode c_EP_at 49 = .ok (.istore 5, 2) := by decide +kernel
theorem d_EP_at_51 : decode c_EP_at 51 = .ok (.iload 5, 2) := by decide +kernel
theorem d_EP_at_53 : decode c_EP_at 53 = .ok (.iconst (-1), 1) := by decide +kernel
theorem d_EP_at_54 : decode c_EP_at 54 = .ok (.if_icmp .ne 13, 3) := by decide +kernel
theorem d_EP_at_57 : decode c_EP_at 57 = .ok (.new 156, 3) := by decide +kernel
theorem d_EP_at_60 : decode c_EP_at 60 = .ok (.dup, 1) := by decide +kernel
theorem d_EP_at_61 : decode c_EP_at 61 = .ok (.ldc 169, 2) := by decide +kernel
theorem d_EP_at_63 : decode c_EP_at 63 = .ok (.invokespecial 160, 3) := by decide +kernel
theorem d_EP_at_66 : decode c_EP_at 66 = .ok (.athrow, 1) := by decide +kernel
theorem d_EP_at_67 : decode c_EP_at 67 = .ok (.aload_n 0, 1) := by decide +kernel
theorem d_EP_at_68 : decode c_EP_at 68 = .ok (.getfield 33, 3) := by decide +kernel
theorem d_EP_at_71 : decode c_EP_at 71 = .ok (.getfield 171, 3) := by decide +kernel
theorem d_EP_at_74 : decode c_EP_at 74 = .ok (.iload 5, 2) := by decide +kernel
theorem d_EP_at_76 : decode c_EP_at 76 = .ok (.iaload, 1) := by decide +kernel
theorem d_EP_at_77 : decode c_EP_at 77 = .ok (.ireturn, 1) := by decide +kernel
theorem d_EP_least_0 : decode c_EP_least 0 = .ok (.iload_n 2, 1) := by decide +kernel
theorem d_EP_least_1 : decode c_EP_least 1 = .ok (.invokestatic 93, 3) := by decide +kernel
theorem d_EP_least_4 : decode c_EP_least 4 = .ok (.aload_n 0, 1) := by decide +kernel
theorem d_EP_least_5 : decode c_EP_least 5 = .ok (.iload_n 1, 1) := by decide +kernel
theorem d_EP_least_6 : decode c_EP_least 6 = .ok (.invokevirtual 90, 3) := by decide +kernel
theorem d_EP_least_9 : decode c_EP_least 9 = .ok (.astore 4, 2) := by decide +kernel
theorem d_EP_least_11 : decode c_EP_least 11 = .ok (.aload 4, 2) := by decide +kernel
theorem d_EP_least_13 : decode c_EP_least 13 = .ok (.getfield 69, 3) := by decide +kernel
theorem d_EP_least_16 : decode c_EP_least 16 = .ok (.iconst 3, 1) := by decide +kernel
theorem d_EP_least_17 : decode c_EP_least 17 = .ok (.if_icmp .ne 7, 3) := by decide +kernel
theorem d_EP_least_20 : decode c_EP_least 20 = .ok (.iconst 1, 1) := by decide +kernel
theorem d_EP_least_21 : decode c_EP_least 21 = .ok (.goto 4, 3) := by decide +kernel
theorem d_EP_least_24 : decode c_EP_least 24 = .ok (.iconst 0, 1) := by decide +kernel
theorem d_EP_least_25 : decode c_EP_least 25 = .ok (.invokestatic 145, 3) := by decide +kernel
theorem d_EP_least_28 : decode c_EP_least 28 = .ok (.aload 4, 2) := by decide +kernel
theorem d_EP_least_30 : decode c_EP_least 30 = .ok (.getfield 87, 3) := by decide +kernel
theorem d_EP_least_33 : decode c_EP_least 33 = .ok (.iload_n 2, 1) := by decide +kernel
theorem d_EP_least_34 : decode c_EP_least 34 = .ok (.aload_n 0, 1) := by decide +kernel
theorem d_EP_least_35 : decode c_EP_least 35 = .ok (.getfield 40, 3) := by decide +kernel
theorem d_EP_least_38 : decode c_EP_least 38 = .ok (.invokevirtual 149, 3) := by decide +kernel
theorem d_EP_least_41 : decode c_EP_least 41 = .ok (.iload_n 3, 1) := by decide +kernel
theorem d_EP_least_42 : decode c_EP_least 42 = .ok (.ifCond .lt 14, 3) := by decide +kernel
theorem d_EP_least_45 : decode c_EP_least 45 = .ok (.iload_n 3, 1) := by decide +kernel
theorem d_EP_least_46 : decode c_EP_least 46 = .ok (.aload_n 0, 1) := by decide +kernel
theorem d_EP_least_47 : decode c_EP_least 47 = .ok (.getfield 40, 3) := by decide +kernel
theorem d_EP_least_50 : decode c_EP_least 50 = .ok (.getfield 172, 3) := by decide +kernel
theorem d_EP_least_53 : decode c_EP_least 53 = .ok (.if_icmp .lt 13, 3) := by decide +kernel
theorem d_EP_least_56 : decode c_EP_least 56 = .ok (.new 173, 3) := by decide +kernel
theorem d_EP_least_59 : decode c_EP_least 59 = .ok (.dup, 1) := by decide +kernel
theorem d_EP_least_60 : decode c_EP_least 60 = .ok (.ldc 175, 2) := by decide +kernel
theorem d_EP_least_62 : decode c_EP_least 62 = .ok (.invokespecial 177, 3) := by decide +kernel
theorem d_EP_least_65 : decode c_EP_least 65 = .ok (.athrow, 1) := by decide +kernel
theorem d_EP_least_66 : decode c_EP_least 66 = .ok (.aload_n 0, 1) := by decide +kernel
theorem d_EP_least_67 : decode c_EP_least 67 = .ok (.getfield 40, 3) := by decide +kernel
theorem d_EP_least_70 : decode c_EP_least 70 = .ok (.getfield 178, 3) := by decide +kernel
theorem d_EP_least_73 : decode c_EP_least 73 = .ok (.iload_n 3, 1) := by decide +kernel
theorem d_EP_least_74 : decode c_EP_least 74 = .ok (.iaload, 1) := by decide +kernel
theorem d_EP_least_75 : decode c_EP_least 75 = .ok (.ireturn, 1) := by decide +kernel
theorem d_EP_sum_0 : decode c_EP_sum 0 = .ok (.iload_n 2, 1) := by decide +kernel
theorem d_EP_sum_1 : decode c_EP_sum 1 = .ok (.invokestatic 93, 3) := by decide +kernel
theorem d_EP_sum_4 : decode c_EP_sum 4 = .ok (.aload_n 0, 1) := by decide +kernel
theorem d_EP_sum_5 : decode c_EP_sum 5 = .ok (.iload_n 1, 1) := by decide +kernel
theorem d_EP_sum_6 : decode c_EP_sum 6 = .ok (.invokevirtual 90, 3) := by decide +kernel
theorem d_EP_sum_9 : decode c_EP_sum 9 = .ok (.astore_n 3, 1) := by decide +kernel
theorem d_EP_sum_10 : decode c_EP_sum 10 = .ok (.aload_n 3, 1) := by decide +kernel
theorem d_EP_sum_11 : decode c_EP_sum 11 = .ok (.getfield 69, 3) := by decide +kernel
theorem d_EP_sum_14 : decode c_EP_sum 14 = .ok (.iconst 4, 1) := by decide +kernel
theorem d_EP_sum_15 : decode c_EP_sum 15 = .ok (.if_icmp .ne 7, 3) := by decide +kernel
theorem d_EP_sum_18 : decode c_EP_sum 18 = .ok (.iconst 1, 1) := by decide +kernel
theorem d_EP_sum_19 : decode c_EP_sum 19 = .ok (.goto 4, 3) := by decide +kernel
theorem d_EP_sum_22 : decode c_EP_sum 22 = .ok (.iconst 0, 1) := by decide +kernel
theorem d_EP_sum_23 : decode c_EP_sum 23 = .ok (.invokestatic 145, 3) := by decide +kernel
theorem d_EP_sum_26 : decode c_EP_sum 26 = .ok (.aload_n 3, 1) := by decide +kernel
theorem d_EP_sum_27 : decode c_EP_sum 27 = .ok (.getfield 87, 3) := by decide +kernel
theorem d_EP_sum_30 : decode c_EP_sum 30 = .ok (.iload_n 2, 1) := by decide +kernel
theorem d_EP_sum_31 : decode c_EP_sum 31 = .ok (.aload_n 0, 1) := by decide +kernel
theorem d_EP_sum_32 : decode c_EP_sum 32 = .ok (.getfield 47, 3) := by decide +kernel
theorem d_EP_sum_35 : decode c_EP_sum 35 = .ok (.invokevirtual 149, 3) := by decide +kernel
theorem d_EP_sum_38 : decode c_EP_sum 38 = .ok (.aload_n 0, 1) := by decide +kernel
theorem d_EP_sum_39 : decode c_EP_sum 39 = .ok (.getfield 47, 3) := by decide +kernel
theorem d_EP_sum_42 : decode c_EP_sum 42 = .ok (.getfield 179, 3) := by decide +kernel
theorem d_EP_sum_45 : decode c_EP_sum 45 = .ok (.lreturn, 1) := by decide +kernel
theorem d_EP_together_0 : decode c_EP_together 0 = .ok (.iload_n 2, 1) := by decide +kernel
theorem d_EP_together_1 : decode c_EP_together 1 = .ok (.invokestatic 93, 3) := by decide +kernel
theorem d_EP_together_4 : decode c_EP_together 4 = .ok (.iload_n 3, 1) := by decide +kernel
theorem d_EP_together_5 : decode c_EP_together 5 = .ok (.invokestatic 183, 3) := by decide +kernel
theorem d_EP_together_8 : decode c_EP_together 8 = .ok (.ifCond .eq 11, 3) := by decide +kernel
theorem d_EP_together_11 : decode c_EP_together 11 = .ok (.iload 4, 2) := by decide +kernel
theorem d_EP_together_13 : decode c_EP_together 13 = .ok (.invokestatic 183, 3) := by decide +kernel
theorem d_EP_together_16 : decode c_EP_together 16 = .ok (.ifCond .ne 13, 3) := by decide +kernel
theorem d_EP_together_19 : decode c_EP_together 19 = .ok (.new 58, 3) := by decide +kernel
theorem d_EP_together_22 : decode c_EP_together 22 = .ok (.dup, 1) := by decide +kernel
theorem d_EP_together_23 : decode c_EP_together 23 = .ok (.ldc 187, 2) := by decide +kernel
theorem d_EP_together_25 : decode c_EP_together 25 = .ok (.invokespecial 62, 3) := by decide +kernel
theorem d_EP_together_28 : decode c_EP_together 28 = .ok (.athrow, 1) := by decide +kernel
theorem d_EP_together_29 : decode c_EP_together 29 = .ok (.aload_n 0, 1) := by decide +kernel
theorem d_EP_together_30 : decode c_EP_together 30 = .ok (.iload_n 1, 1) := by decide +kernel
theorem d_EP_together_31 : decode c_EP_together 31 = .ok (.invokevirtual 90, 3) := by decide +kernel
theorem d_EP_together_34 : decode c_EP_together 34 = .ok (.astore 5, 2) := by decide +kernel
theorem d_EP_together_36 : decode c_EP_together 36 = .ok (.aload 5, 2) := by decide +kernel
theorem d_EP_together_38 : decode c_EP_together 38 = .ok (.getfield 69, 3) := by decide +kernel
theorem d_EP_together_41 : decode c_EP_together 41 = .ok (.iconst 5, 1) := by decide +kernel
theorem d_EP_together_42 : decode c_EP_together 42 = .ok (.if_icmp .ne 7, 3) := by decide +kernel
theorem d_EP_together_45 : decode c_EP_together 45 = .ok (.iconst 1, 1) := by decide +kernel
theorem d_EP_together_46 : decode c_EP_together 46 = .ok (.goto 4, 3) := by decide +kernel
theorem d_EP_together_49 : decode c_EP_together 49 = .ok (.iconst 0, 1) := by decide +kernel
theorem d_EP_together_50 : decode c_EP_together 50 = .ok (.invokestatic 145, 3) := by decide +kernel
theorem d_EP_together_53 : decode c_EP_together 53 = .ok (.aload 5, 2) := by decide +kernel
theorem d_EP_together_55 : decode c_EP_together 55 = .ok (.getfield 87, 3) := by decide +kernel
theorem d_EP_together_58 : decode c_EP_together 58 = .ok (.iload_n 2, 1) := by decide +kernel
theorem d_EP_together_59 : decode c_EP_together 59 = .ok (.aload_n 0, 1) := by decide +kernel
theorem d_EP_together_60 : decode c_EP_together 60 = .ok (.getfield 54, 3) := by decide +kernel
theorem d_EP_together_63 : decode c_EP_together 63 = .ok (.invokevirtual 149, 3) := by decide +kernel
theorem d_EP_together_66 : decode c_EP_together 66 = .ok (.aload_n 0, 1) := by decide +kernel
theorem d_EP_together_67 : decode c_EP_together 67 = .ok (.getfield 54, 3) := by decide +kernel
theorem d_EP_together_70 : decode c_EP_together 70 = .ok (.getfield 189, 3) := by decide +kernel
theorem d_EP_together_73 : decode c_EP_together 73 = .ok (.iload_n 3, 1) := by decide +kernel
theorem d_EP_together_74 : decode c_EP_together 74 = .ok (.iaload, 1) := by decide +kernel
theorem d_EP_together_75 : decode c_EP_together 75 = .ok (.aload_n 0, 1) := by decide +kernel
theorem d_EP_together_76 : decode c_EP_together 76 = .ok (.getfield 54, 3) := by decide +kernel
theorem d_EP_together_79 : decode c_EP_together 79 = .ok (.getfield 189, 3) := by decide +kernel
theorem d_EP_together_82 : decode c_EP_together 82 = .ok (.iload 4, 2) := by decide +kernel
theorem d_EP_together_84 : decode c_EP_together 84 = .ok (.iaload, 1) := by decide +kernel
theorem d_EP_together_85 : decode c_EP_together 85 = .ok (.if_icmp .ne 7, 3) := by decide +kernel
theorem d_EP_together_88 : decode c_EP_together 88 = .ok (.iconst 1, 1) := by decide +kernel
theorem d_EP_together_89 : decode c_EP_together 89 = .ok (.goto 4, 3) := by decide +kernel
theorem d_EP_together_92 : decode c_EP_together 92 = .ok (.iconst 0, 1) := by decide +kernel
theorem d_EP_together_93 : decode c_EP_together 93 = .ok (.ireturn, 1) := by decide +kernel
theorem d_EP_result_0 : decode c_EP_result 0 = .ok (.iload_n 2, 1) := by decide +kernel
theorem d_EP_result_1 : decode c_EP_result 1 = .ok (.invokestatic 93, 3) := by decide +kernel
theorem d_EP_result_4 : decode c_EP_result 4 = .ok (.aload_n 0, 1) := by decide +kernel
theorem d_EP_result_5 : decode c_EP_result 5 = .ok (.iload_n 1, 1) := by decide +kernel
theorem d_EP_result_6 : decode c_EP_result 6 = .ok (.invokevirtual 90, 3) := by decide +kernel
theorem d_EP_result_9 : decode c_EP_result 9 = .ok (.getfield 87, 3) := by decide +kernel
theorem d_EP_result_12 : decode c_EP_result 12 = .ok (.astore_n 3, 1) := by decide +kernel
theorem d_EP_result_13 : decode c_EP_result 13 = .ok (.aload_n 3, 1) := by decide +kernel
theorem d_EP_result_14 : decode c_EP_result 14 = .ok (.getfield 192, 3) := by decide +kernel
theorem d_EP_result_17 : decode c_EP_result 17 = .ok (.aload_n 3, 1) := by decide +kernel
theorem d_EP_result_18 : decode c_EP_result 18 = .ok (.iload_n 2, 1) := by decide +kernel
theorem d_EP_result_19 : decode c_EP_result 19 = .ok (.invokestatic 137, 3) := by decide +kernel
theorem d_EP_result_22 : decode c_EP_result 22 = .ok (.laload, 1) := by decide +kernel
theorem d_EP_result_23 : decode c_EP_result 23 = .ok (.lreturn, 1) := by decide +kernel
theorem d_EP_works_0 : decode c_EP_works 0 = .ok (.iload_n 2, 1) := by decide +kernel
theorem d_EP_works_1 : decode c_EP_works 1 = .ok (.invokestatic 93, 3) := by decide +kernel
theorem d_EP_works_4 : decode c_EP_works 4 = .ok (.aload_n 0, 1) := by decide +kernel
theorem d_EP_works_5 : decode c_EP_works 5 = .ok (.iload_n 1, 1) := by decide +kernel
theorem d_EP_works_6 : decode c_EP_works 6 = .ok (.invokevirtual 90, 3) := by decide +kernel
theorem d_EP_works_9 : decode c_EP_works 9 = .ok (.getfield 87, 3) := by decide +kernel
theorem d_EP_works_12 : decode c_EP_works 12 = .ok (.astore_n 3, 1) := by decide +kernel
theorem d_EP_works_13 : decode c_EP_works 13 = .ok (.aload_n 3, 1) := by decide +kernel
theorem d_EP_works_14 : decode c_EP_works 14 = .ok (.getfield 196, 3) := by decide +kernel
theorem d_EP_works_17 : decode c_EP_works 17 = .ok (.aload_n 3, 1) := by decide +kernel
theorem d_EP_works_18 : decode c_EP_works 18 = .ok (.iload_n 2, 1) := by decide +kernel
theorem d_EP_works_19 : decode c_EP_works 19 = .ok (.invokestatic 137, 3) := by decide +kernel
theorem d_EP_works_22 : decode c_EP_works 22 = .ok (.baload, 1) := by decide +kernel
theorem d_EP_works_23 : decode c_EP_works 23 = .ok (.ireturn, 1) := by decide +kernel
theorem d_EP_effective_0 : decode c_EP_effective 0 = .ok (.iload_n 2, 1) := by decide +kernel
theorem d_EP_effective_1 : decode c_EP_effective 1 = .ok (.invokestatic 93, 3) := by decide +kernel
theorem d_EP_effective_4 : decode c_EP_effective 4 = .ok (.iload_n 3, 1) := by decide +kernel
theorem d_EP_effective_5 : decode c_EP_effective 5 = .ok (.invokestatic 93, 3) := by decide +kernel
theorem d_EP_effective_8 : decode c_EP_effective 8 = .ok (.aload_n 0, 1) := by decide +kernel
theorem d_EP_effective_9 : decode c_EP_effective 9 = .ok (.iload_n 1, 1) := by decide +kernel
theorem d_EP_effective_10 : decode c_EP_effective 10 = .ok (.invokevirtual 90, 3) := by decide +kernel
theorem d_EP_effective_13 : decode c_EP_effective 13 = .ok (.getfield 87, 3) := by decide +kernel
theorem d_EP_effective_16 : decode c_EP_effective 16 = .ok (.iload_n 2, 1) := by decide +kernel
theorem d_EP_effective_17 : decode c_EP_effective 17 = .ok (.iload_n 3, 1) := by decide +kernel
theorem d_EP_effective_18 : decode c_EP_effective 18 = .ok (.invokevirtual 200, 3) := by decide +kernel
theorem d_EP_effective_21 : decode c_EP_effective 21 = .ok (.ireturn, 1) := by decide +kernel
theorem d_Li_countEffects_0 : decode c_Li_countEffects 0 = .ok (.iconst 0, 1) := by decide +kernel
theorem d_Li_countEffects_1 : decode c_Li_countEffects 1 = .ok (.istore_n 3, 1) := by decide +kernel
theorem d_Li_countEffects_2 : decode c_Li_countEffects 2 = .ok (.aload_n 0, 1) := by decide +kernel
theorem d_Li_countEffects_3 : decode c_Li_countEffects 3 = .ok (.iload_n 1, 1) := by decide +kernel
theorem d_Li_countEffects_4 : decode c_Li_countEffects 4 = .ok (.invokevirtual 36, 3) := by decide +kernel
theorem d_Li_countEffects_7 : decode c_Li_countEffects 7 = .ok (.istore 4, 2) := by decide +kernel
theorem d_Li_countEffects_9 : decode c_Li_countEffects 9 = .ok (.iload 4, 2) := by decide +kernel
theorem d_Li_countEffects_11 : decode c_Li_countEffects 11 = .ok (.aload_n 0, 1) := by decide +kernel
theorem d_Li_countEffects_12 : decode c_Li_countEffects 12 = .ok (.getfield 32, 3) := by decide +kernel
theorem d_Li_countEffects_15 : decode c_Li_countEffects 15 = .ok (.if_icmp .ge 33, 3) := by decide +kernel
theorem d_Li_countEffects_18 : decode c_Li_countEffects 18 = .ok (.aload_n 0, 1) := by decide +kernel
theorem d_Li_countEffects_19 : decode c_Li_countEffects 19 = .ok (.getfield 9, 3) := by decide +kernel
theorem d_Li_countEffects_22 : decode c_Li_countEffects 22 = .ok (.iload 4, 2) := by decide +kernel
theorem d_Li_countEffects_24 : decode c_Li_countEffects 24 = .ok (.iaload, 1) := by decide +kernel
theorem d_Li_countEffects_25 : decode c_Li_countEffects 25 = .ok (.iload_n 2, 1) := by decide +kernel
theorem d_Li_countEffects_26 : decode c_Li_countEffects 26 = .ok (.if_icmp .gt 22, 3) := by decide +kernel
theorem d_Li_countEffects_29 : decode c_Li_countEffects 29 = .ok (.aload_n 0, 1) := by decide +kernel
theorem d_Li_countEffects_30 : decode c_Li_countEffects 30 = .ok (.getfield 28, 3) := by decide +kernel
theorem d_Li_countEffects_33 : decode c_Li_countEffects 33 = .ok (.iload 4, 2) := by decide +kernel
theorem d_Li_countEffects_35 : decode c_Li_countEffects 35 = .ok (.baload, 1) := by decide +kernel
theorem d_Li_countEffects_36 : decode c_Li_countEffects 36 = .ok (.ifCond .eq 6, 3) := by decide +kernel
theorem d_Li_countEffects_39 : decode c_Li_countEffects 39 = .ok (.iinc 3 1, 3) := by decide +kernel
theorem d_Li_countEffects_42 : decode c_Li_countEffects 42 = .ok (.iinc 4 1, 3) := by decide +kernel
theorem d_Li_countEffects_45 : decode c_Li_countEffects 45 = .ok (.goto (-36), 3) := by decide +kernel
theorem d_Li_countEffects_48 : decode c_Li_countEffects 48 = .ok (.iload_n 3, 1) := by decide +kernel
theorem d_Li_countEffects_49 : decode c_Li_countEffects 49 = .ok (.ireturn, 1) := by decide +kernel
theorem d_EP_firstChange_0 : decode c_EP_firstChange 0 = .ok (.iload_n 2, 1) := by decide +kernel
theorem d_EP_firstChange_1 : decode c_EP_firstChange 1 = .ok (.invokestatic 93, 3) := by decide +kernel
theorem d_EP_firstChange_4 : decode c_EP_firstChange 4 = .ok (.iload_n 3, 1) := by decide +kernel
theorem d_EP_firstChange_5 : decode c_EP_firstChange 5 = .ok (.invokestatic 93, 3) := by decide +kernel
theorem d_EP_firstChange_8 : decode c_EP_firstChange 8 = .ok (.aload_n 0, 1) := by decide +kernel
theorem d_EP_firstChange_9 : decode c_EP_firstChange 9 = .ok (.iload_n 1, 1) := by decide +kernel
theorem d_EP_firstChange_10 : decode c_EP_firstChange 10 = .ok (.invokevirtual 90, 3) := by decide +kernel
theorem d_EP_firstChange_13 : decode c_EP_firstChange 13 = .ok (.astore 4, 2) := by decide +kernel
theorem d_EP_firstChange_15 : decode c_EP_firstChange 15 = .ok (.aload 4, 2) := by decide +kernel
theorem d_EP_firstChange_17 : decode c_EP_firstChange 17 = .ok (.getfield 87, 3) := by decide +kernel
theorem d_EP_firstChange_20 : decode c_EP_firstChange 20 = .ok (.aload 4, 2) := by decide +kernel
theorem d_EP_firstChange_22 : decode c_EP_firstChange 22 = .ok (.getfield 78, 3) := by decide +kernel
theorem d_EP_firstChange_25 : decode c_EP_firstChange 25 = .ok (.iload_n 2, 1) := by decide +kernel
theorem d_EP_firstChange_26 : decode c_EP_firstChange 26 = .ok (.invokevirtual 204, 3) := by decide +kernel
theorem d_EP_firstChange_29 : decode c_EP_firstChange 29 = .ok (.istore 5, 2) := by decide +kernel
theorem d_EP_firstChange_31 : decode c_EP_firstChange 31 = .ok (.iload 5, 2) := by decide +kernel
theorem d_EP_firstChange_33 : decode c_EP_firstChange 33 = .ok (.iload_n 3, 1) := by decide +kernel
theorem d_EP_firstChange_34 : decode c_EP_firstChange 34 = .ok (.if_icmp .gt 8, 3) := by decide +kernel
theorem d_EP_firstChange_37 : decode c_EP_firstChange 37 = .ok (.iload 5, 2) := by decide +kernel
theorem d_EP_firstChange_39 : decode c_EP_firstChange 39 = .ok (.goto 4, 3) := by decide +kernel
theorem d_EP_firstChange_42 : decode c_EP_firstChange 42 = .ok (.iconst 0, 1) := by decide +kernel
theorem d_EP_firstChange_43 : decode c_EP_firstChange 43 = .ok (.ireturn, 1) := by decide +kernel
theorem d_Li_firstDifference_0 : decode c_Li_firstDifference 0 = .ok (.aload_n 0, 1) := by decide +kernel
theorem d_Li_firstDifference_1 : decode c_Li_firstDifference 1 = .ok (.iload_n 2, 1) := by decide +kernel
theorem d_Li_firstDifference_2 : decode c_Li_firstDifference 2 = .ok (.invokevirtual 36, 3) := by decide +kernel
theorem d_Li_firstDifference_5 : decode c_Li_firstDifference 5 = .ok (.istore_n 3, 1) := by decide +kernel
theorem d_Li_firstDifference_6 : decode c_Li_firstDifference 6 = .ok (.aload_n 1, 1) := by decide +kernel
theorem d_Li_firstDifference_7 : decode c_Li_firstDifference 7 = .ok (.iload_n 2, 1) := by decide +kernel
theorem d_Li_firstDifference_8 : decode c_Li_firstDifference 8 = .ok (.invokevirtual 36, 3) := by decide +kernel
theorem d_Li_firstDifference_11 : decode c_Li_firstDifference 11 = .ok (.istore 4, 2) := by decide +kernel
theorem d_Li_firstDifference_13 : decode c_Li_firstDifference 13 = .ok (.iload_n 3, 1) := by decide +kernel
theorem d_Li_firstDifference_14 : decode c_Li_firstDifference 14 = .ok (.aload_n 0, 1) := by decide +kernel
theorem d_Li_firstDifference_15 : decode c_Li_firstDifference 15 = .ok (.getfield 32, 3) := by decide +kernel
theorem d_Li_firstDifference_18 : decode c_Li_firstDifference 18 = .ok (.if_icmp .ge 32, 3) := by decide +kernel
theorem d_Li_firstDifference_21 : decode c_Li_firstDifference 21 = .ok (.iload 4, 2) := by decide +kernel
theorem d_Li_firstDifference_23 : decode c_Li_firstDifference 23 = .ok (.aload_n 1, 1) := by decide +kernel
theorem d_Li_firstDifference_24 : decode c_Li_firstDifference 24 = .ok (.getfield 32, 3) := by decide +kernel
theorem d_Li_firstDifference_27 : decode c_Li_firstDifference 27 = .ok (.if_icmp .ge 23, 3) := by decide +kernel
theorem d_Li_firstDifference_30 : decode c_Li_firstDifference 30 = .ok (.aload_n 0, 1) := by decide +kernel
theorem d_Li_firstDifference_31 : decode c_Li_firstDifference 31 = .ok (.iload_n 3, 1) := by decide +kernel
theorem d_Li_firstDifference_32 : decode c_Li_firstDifference 32 = .ok (.aload_n 1, 1) := by decide +kernel
theorem d_Li_firstDifference_33 : decode c_Li_firstDifference 33 = .ok (.iload 4, 2) := by decide +kernel
theorem d_Li_firstDifference_35 : decode c_Li_firstDifference 35 = .ok (.invokevirtual 69, 3) := by decide +kernel
theorem d_Li_firstDifference_38 : decode c_Li_firstDifference 38 = .ok (.ifCond .eq 12, 3) := by decide +kernel
theorem d_Li_firstDifference_41 : decode c_Li_firstDifference 41 = .ok (.iinc 3 1, 3) := by decide +kernel
theorem d_Li_firstDifference_44 : decode c_Li_firstDifference 44 = .ok (.iinc 4 1, 3) := by decide +kernel
theorem d_Li_firstDifference_47 : decode c_Li_firstDifference 47 = .ok (.goto (-34), 3) := by decide +kernel
theorem d_Li_firstDifference_50 : decode c_Li_firstDifference 50 = .ok (.aload_n 0, 1) := by decide +kernel
theorem d_Li_firstDifference_51 : decode c_Li_firstDifference 51 = .ok (.iload_n 3, 1) := by decide +kernel
theorem d_Li_firstDifference_52 : decode c_Li_firstDifference 52 = .ok (.invokevirtual 73, 3) := by decide +kernel
theorem d_Li_firstDifference_55 : decode c_Li_firstDifference 55 = .ok (.aload_n 1, 1) := by decide +kernel
theorem d_Li_firstDifference_56 : decode c_Li_firstDifference 56 = .ok (.iload 4, 2) := by decide +kernel
theorem d_Li_firstDifference_58 : decode c_Li_firstDifference 58 = .ok (.invokevirtual 73, 3) := by decide +kernel
theorem d_Li_firstDifference_61 : decode c_Li_firstDifference 61 = .ok (.invokestatic 76, 3) := by decide +kernel
theorem d_Li_firstDifference_64 : decode c_Li_firstDifference 64 = .ok (.ireturn, 1) := by decide +kernel
theorem d_Li_isSame_0 : decode c_Li_isSame 0 = .ok (.aload_n 0, 1) := by decide +kernel
theorem d_Li_isSame_1 : decode c_Li_isSame 1 = .ok (.getfield 9, 3) := by decide +kernel
theorem d_Li_isSame_4 : decode c_Li_isSame 4 = .ok (.iload_n 1, 1) := by decide +kernel
theorem d_Li_isSame_5 : decode c_Li_isSame 5 = .ok (.iaload, 1) := by decide +kernel
theorem d_Li_isSame_6 : decode c_Li_isSame 6 = .ok (.aload_n 2, 1) := by decide +kernel
theorem d_Li_isSame_7 : decode c_Li_isSame 7 = .ok (.getfield 9, 3) := by decide +kernel
theorem d_Li_isSame_10 : decode c_Li_isSame 10 = .ok (.iload_n 3, 1) := by decide +kernel
theorem d_Li_isSame_11 : decode c_Li_isSame 11 = .ok (.iaload, 1) := by decide +kernel
theorem d_Li_isSame_12 : decode c_Li_isSame 12 = .ok (.if_icmp .ne 38, 3) := by decide +kernel
theorem d_Li_isSame_15 : decode c_Li_isSame 15 = .ok (.aload_n 0, 1) := by decide +kernel
theorem d_Li_isSame_16 : decode c_Li_isSame 16 = .ok (.getfield 24, 3) := by decide +kernel
theorem d_Li_isSame_19 : decode c_Li_isSame 19 = .ok (.iload_n 1, 1) := by decide +kernel
theorem d_Li_isSame_20 : decode c_Li_isSame 20 = .ok (.laload, 1) := by decide +kernel
theorem d_Li_isSame_21 : decode c_Li_isSame 21 = .ok (.aload_n 2, 1) := by decide +kernel
theorem d_Li_isSame_22 : decode c_Li_isSame 22 = .ok (.getfield 24, 3) := by decide +kernel
theorem d_Li_isSame_25 : decode c_Li_isSame 25 = .ok (.iload_n 3, 1) := by decide +kernel
theorem d_Li_isSame_26 : decode c_Li_isSame 26 = .ok (.laload, 1) := by decide +kernel
theorem d_Li_isSame_27 : decode c_Li_isSame 27 = .ok (.lcmp, 1) := by decide +kernel
theorem d_Li_isSame_28 : decode c_Li_isSame 28 = .ok (.ifCond .ne 22, 3) := by decide +kernel
theorem d_Li_isSame_31 : decode c_Li_isSame 31 = .ok (.aload_n 0, 1) := by decide +kernel
theorem d_Li_isSame_32 : decode c_Li_isSame 32 = .ok (.getfield 28, 3) := by decide +kernel
theorem d_Li_isSame_35 : decode c_Li_isSame 35 = .ok (.iload_n 1, 1) := by decide +kernel
theorem d_Li_isSame_36 : decode c_Li_isSame 36 = .ok (.baload, 1) := by decide +kernel
theorem d_Li_isSame_37 : decode c_Li_isSame 37 = .ok (.aload_n 2, 1) := by decide +kernel
theorem d_Li_isSame_38 : decode c_Li_isSame 38 = .ok (.getfield 28, 3) := by decide +kernel
theorem d_Li_isSame_41 : decode c_Li_isSame 41 = .ok (.iload_n 3, 1) := by decide +kernel
theorem d_Li_isSame_42 : decode c_Li_isSame 42 = .ok (.baload, 1) := by decide +kernel
theorem d_Li_isSame_43 : decode c_Li_isSame 43 = .ok (.if_icmp .ne 7, 3) := by decide +kernel
theorem d_Li_isSame_46 : decode c_Li_isSame 46 = .ok (.iconst 1, 1) := by decide +kernel
theorem d_Li_isSame_47 : decode c_Li_isSame 47 = .ok (.goto 4, 3) := by decide +kernel
theorem d_Li_isSame_50 : decode c_Li_isSame 50 = .ok (.iconst 0, 1) := by decide +kernel
theorem d_Li_isSame_51 : decode c_Li_isSame 51 = .ok (.ireturn, 1) := by decide +kernel
theorem d_Li_momentOrNever_0 : decode c_Li_momentOrNever 0 = .ok (.iload_n 1, 1) := by decide +kernel
theorem d_Li_momentOrNever_1 : decode c_Li_momentOrNever 1 = .ok (.aload_n 0, 1) := by decide +kernel
theorem d_Li_momentOrNever_2 : decode c_Li_momentOrNever 2 = .ok (.getfield 32, 3) := by decide +kernel
theorem d_Li_momentOrNever_5 : decode c_Li_momentOrNever 5 = .ok (.if_icmp .ge 12, 3) := by decide +kernel
theorem d_Li_momentOrNever_8 : decode c_Li_momentOrNever 8 = .ok (.aload_n 0, 1) := by decide +kernel
theorem d_Li_momentOrNever_9 : decode c_Li_momentOrNever 9 = .ok (.getfield 9, 3) := by decide +kernel
theorem d_Li_momentOrNever_12 : decode c_Li_momentOrNever 12 = .ok (.iload_n 1, 1) := by decide +kernel
theorem d_Li_momentOrNever_13 : decode c_Li_momentOrNever 13 = .ok (.iaload, 1) := by decide +kernel
theorem d_Li_momentOrNever_14 : decode c_Li_momentOrNever 14 = .ok (.goto 5, 3) := by decide +kernel
theorem d_Li_momentOrNever_17 : decode c_Li_momentOrNever 17 = .ok (.ldc 82, 2) := by decide +kernel
theorem d_Li_momentOrNever_19 : decode c_Li_momentOrNever 19 = .ok (.ireturn, 1) := by decide +kernel
theorem d_Ma_min_0 : decode c_Ma_min 0 = .ok (.iload_n 0, 1) := by decide +kernel
theorem d_Ma_min_1 : decode c_Ma_min 1 = .ok (.iload_n 1, 1) := by decide +kernel
theorem d_Ma_min_2 : decode c_Ma_min 2 = .ok (.if_icmp .gt 7, 3) := by decide +kernel
theorem d_Ma_min_5 : decode c_Ma_min 5 = .ok (.iload_n 0, 1) := by decide +kernel
theorem d_Ma_min_6 : decode c_Ma_min 6 = .ok (.goto 4, 3) := by decide +kernel
theorem d_Ma_min_9 : decode c_Ma_min 9 = .ok (.iload_n 1, 1) := by decide +kernel
theorem d_Ma_min_10 : decode c_Ma_min 10 = .ok (.ireturn, 1) := by decide +kernel
theorem d_EP_operations_0 : decode c_EP_operations 0 = .ok (.aload_n 0, 1) := by decide +kernel
theorem d_EP_operations_1 : decode c_EP_operations 1 = .ok (.iload_n 1, 1) := by decide +kernel
theorem d_EP_operations_2 : decode c_EP_operations 2 = .ok (.invokevirtual 90, 3) := by decide +kernel
theorem d_EP_operations_5 : decode c_EP_operations 5 = .ok (.getfield 87, 3) := by decide +kernel
theorem d_EP_operations_8 : decode c_EP_operations 8 = .ok (.getfield 82, 3) := by decide +kernel
theorem d_EP_operations_11 : decode c_EP_operations 11 = .ok (.ireturn, 1) := by decide +kernel
theorem d_EP_operation_0 : decode c_EP_operation 0 = .ok (.iload_n 3, 1) := by decide +kernel
theorem d_EP_operation_1 : decode c_EP_operation 1 = .ok (.ifCond .lt 8, 3) := by decide +kernel
theorem d_EP_operation_4 : decode c_EP_operation 4 = .ok (.iload_n 3, 1) := by decide +kernel
theorem d_EP_operation_5 : decode c_EP_operation 5 = .ok (.iconst 3, 1) := by decide +kernel
theorem d_EP_operation_6 : decode c_EP_operation 6 = .ok (.if_icmp .le 13, 3) := by decide +kernel
theorem d_EP_operation_9 : decode c_EP_operation 9 = .ok (.new 58, 3) := by decide +kernel
theorem d_EP_operation_12 : decode c_EP_operation 12 = .ok (.dup, 1) := by decide +kernel
theorem d_EP_operation_13 : decode c_EP_operation 13 = .ok (.ldc 207, 2) := by decide +kernel
theorem d_EP_operation_15 : decode c_EP_operation 15 = .ok (.invokespecial 62, 3) := by decide +kernel
theorem d_EP_operation_18 : decode c_EP_operation 18 = .ok (.athrow, 1) := by decide +kernel
theorem d_EP_operation_19 : decode c_EP_operation 19 = .ok (.aload_n 0, 1) := by decide +kernel
theorem d_EP_operation_20 : decode c_EP_operation 20 = .ok (.iload_n 1, 1) := by decide +kernel
theorem d_EP_operation_21 : decode c_EP_operation 21 = .ok (.invokevirtual 90, 3) := by decide +kernel
theorem d_EP_operation_24 : decode c_EP_operation 24 = .ok (.getfield 87, 3) := by decide +kernel
theorem d_EP_operation_27 : decode c_EP_operation 27 = .ok (.astore 4, 2) := by decide +kernel
theorem d_EP_operation_29 : decode c_EP_operation 29 = .ok (.iload_n 2, 1) := by decide +kernel
theorem d_EP_operation_30 : decode c_EP_operation 30 = .ok (.ifCond .lt 12, 3) := by decide +kernel
theorem d_EP_operation_33 : decode c_EP_operation 33 = .ok (.iload_n 2, 1) := by decide +kernel
theorem d_EP_operation_34 : decode c_EP_operation 34 = .ok (.aload 4, 2) := by decide +kernel
theorem d_EP_operation_36 : decode c_EP_operation 36 = .ok (.getfield 82, 3) := by decide +kernel
theorem d_EP_operation_39 : decode c_EP_operation 39 = .ok (.if_icmp .lt 13, 3) := by decide +kernel
theorem d_EP_operation_42 : decode c_EP_operation 42 = .ok (.new 173, 3) := by decide +kernel
theorem d_EP_operation_45 : decode c_EP_operation 45 = .ok (.dup, 1) := by decide +kernel
theorem d_EP_operation_46 : decode c_EP_operation 46 = .ok (.ldc 209, 2) := by decide +kernel
theorem d_EP_operation_48 : decode c_EP_operation 48 = .ok (.invokespecial 177, 3) := by decide +kernel
theorem d_EP_operation_51 : decode c_EP_operation 51 = .ok (.athrow, 1) := by decide +kernel
theorem d_EP_operation_52 : decode c_EP_operation 52 = .ok (.iload_n 3, 1) := by decide +kernel
theorem d_EP_operation_53 : decode c_EP_operation 53 = .ok (.tableswitch 51 0 2 #[27, 35, 43], 27) := by decide +kernel
theorem d_EP_operation_80 : decode c_EP_operation 80 = .ok (.aload 4, 2) := by decide +kernel
theorem d_EP_operation_82 : decode c_EP_operation 82 = .ok (.getfield 211, 3) := by decide +kernel
theorem d_EP_operation_85 : decode c_EP_operation 85 = .ok (.iload_n 2, 1) := by decide +kernel
theorem d_EP_operation_86 : decode c_EP_operation 86 = .ok (.iaload, 1) := by decide +kernel
theorem d_EP_operation_87 : decode c_EP_operation 87 = .ok (.ireturn, 1) := by decide +kernel
theorem d_EP_operation_88 : decode c_EP_operation 88 = .ok (.aload 4, 2) := by decide +kernel
theorem d_EP_operation_90 : decode c_EP_operation 90 = .ok (.getfield 214, 3) := by decide +kernel
theorem d_EP_operation_93 : decode c_EP_operation 93 = .ok (.iload_n 2, 1) := by decide +kernel
theorem d_EP_operation_94 : decode c_EP_operation 94 = .ok (.iaload, 1) := by decide +kernel
theorem d_EP_operation_95 : decode c_EP_operation 95 = .ok (.ireturn, 1) := by decide +kernel
theorem d_EP_operation_96 : decode c_EP_operation 96 = .ok (.aload 4, 2) := by decide +kernel
theorem d_EP_operation_98 : decode c_EP_operation 98 = .ok (.getfield 217, 3) := by decide +kernel
theorem d_EP_operation_101 : decode c_EP_operation 101 = .ok (.iload_n 2, 1) := by decide +kernel
theorem d_EP_operation_102 : decode c_EP_operation 102 = .ok (.iaload, 1) := by decide +kernel
theorem d_EP_operation_103 : decode c_EP_operation 103 = .ok (.ireturn, 1) := by decide +kernel
theorem d_EP_operation_104 : decode c_EP_operation 104 = .ok (.aload 4, 2) := by decide +kernel
theorem d_EP_operation_106 : decode c_EP_operation 106 = .ok (.getfield 220, 3) := by decide +kernel
theorem d_EP_operation_109 : decode c_EP_operation 109 = .ok (.iload_n 2, 1) := by decide +kernel
theorem d_EP_operation_110 : decode c_EP_operation 110 = .ok (.iaload, 1) := by decide +kernel
theorem d_EP_operation_111 : decode c_EP_operation 111 = .ok (.ireturn, 1) := by decide +kernel
