theorem dX10_readTwo_50 : decode cX10_readTwo 50 = .ok (.ifCond .ne 6, 3) := by decide +kernel
theorem dX10_readTwo_53 : decode cX10_readTwo 53 = .ok (.goto 56, 3) := by decide +kernel
theorem dX10_readTwo_56 : decode cX10_readTwo 56 = .ok (.aload_n 1, 1) := by decide +kernel
theorem dX10_readTwo_57 : decode cX10_readTwo 57 = .ok (.iload_n 2, 1) := by decide +kernel
theorem dX10_readTwo_58 : decode cX10_readTwo 58 = .ok (.iload 4, 2) := by decide +kernel
theorem dX10_readTwo_60 : decode cX10_readTwo 60 = .ok (.iconst 1, 1) := by decide +kernel
theorem dX10_readTwo_61 : decode cX10_readTwo 61 = .ok (.isub, 1) := by decide +kernel
theorem dX10_readTwo_62 : decode cX10_readTwo 62 = .ok (.invokevirtual 48, 3) := by decide +kernel
theorem dX10_readTwo_65 : decode cX10_readTwo 65 = .ok (.ifCond .ne 22, 3) := by decide +kernel
theorem dX10_readTwo_68 : decode cX10_readTwo 68 = .ok (.aload_n 0, 1) := by decide +kernel
theorem dX10_readTwo_69 : decode cX10_readTwo 69 = .ok (.iload 5, 2) := by decide +kernel
theorem dX10_readTwo_71 : decode cX10_readTwo 71 = .ok (.ifCond .eq 7, 3) := by decide +kernel
theorem dX10_readTwo_74 : decode cX10_readTwo 74 = .ok (.iconst 1, 1) := by decide +kernel
theorem dX10_readTwo_75 : decode cX10_readTwo 75 = .ok (.goto 4, 3) := by decide +kernel
theorem dX10_readTwo_78 : decode cX10_readTwo 78 = .ok (.iconst 0, 1) := by decide +kernel
theorem dX10_readTwo_79 : decode cX10_readTwo 79 = .ok (.iload 4, 2) := by decide +kernel
theorem dX10_readTwo_81 : decode cX10_readTwo 81 = .ok (.invokevirtual 60, 3) := by decide +kernel
theorem dX10_readTwo_84 : decode cX10_readTwo 84 = .ok (.goto 25, 3) := by decide +kernel
theorem dX10_readTwo_87 : decode cX10_readTwo 87 = .ok (.iload 5, 2) := by decide +kernel
theorem dX10_readTwo_89 : decode cX10_readTwo 89 = .ok (.aload_n 1, 1) := by decide +kernel
theorem dX10_readTwo_90 : decode cX10_readTwo 90 = .ok (.iload_n 3, 1) := by decide +kernel
theorem dX10_readTwo_91 : decode cX10_readTwo 91 = .ok (.iload 4, 2) := by decide +kernel
theorem dX10_readTwo_93 : decode cX10_readTwo 93 = .ok (.iconst 1, 1) := by decide +kernel
theorem dX10_readTwo_94 : decode cX10_readTwo 94 = .ok (.isub, 1) := by decide +kernel
theorem dX10_readTwo_95 : decode cX10_readTwo 95 = .ok (.invokevirtual 48, 3) := by decide +kernel
theorem dX10_readTwo_98 : decode cX10_readTwo 98 = .ok (.if_icmp .eq 11, 3) := by decide +kernel
theorem dX10_readTwo_101 : decode cX10_readTwo 101 = .ok (.aload_n 0, 1) := by decide +kernel
theorem dX10_readTwo_102 : decode cX10_readTwo 102 = .ok (.iload 5, 2) := by decide +kernel
theorem dX10_readTwo_104 : decode cX10_readTwo 104 = .ok (.iload 4, 2) := by decide +kernel
theorem dX10_readTwo_106 : decode cX10_readTwo 106 = .ok (.invokevirtual 63, 3) := by decide +kernel
theorem dX10_readTwo_109 : decode cX10_readTwo 109 = .ok (.iinc 4 1, 3) := by decide +kernel
theorem dX10_readTwo_112 : decode cX10_readTwo 112 = .ok (.goto (-105), 3) := by decide +kernel
theorem dX10_readTwo_115 : decode cX10_readTwo 115 = .ok (.return_, 1) := by decide +kernel
theorem dX10_startOrStop_0 : decode cX10_startOrStop 0 = .ok (.iload_n 1, 1) := by decide +kernel
theorem dX10_startOrStop_1 : decode cX10_startOrStop 1 = .ok (.ifCond .eq 23, 3) := by decide +kernel
theorem dX10_startOrStop_4 : decode cX10_startOrStop 4 = .ok (.aload_n 0, 1) := by decide +kernel
theorem dX10_startOrStop_5 : decode cX10_startOrStop 5 = .ok (.getfield 29, 3) := by decide +kernel
theorem dX10_startOrStop_8 : decode cX10_startOrStop 8 = .ok (.ifCond .eq 11, 3) := by decide +kernel
theorem dX10_startOrStop_11 : decode cX10_startOrStop 11 = .ok (.aload_n 0, 1) := by decide +kernel
theorem dX10_startOrStop_12 : decode cX10_startOrStop 12 = .ok (.getfield 33, 3) := by decide +kernel
theorem dX10_startOrStop_15 : decode cX10_startOrStop 15 = .ok (.iconst 2, 1) := by decide +kernel
theorem dX10_startOrStop_16 : decode cX10_startOrStop 16 = .ok (.if_icmp .lt 8, 3) := by decide +kernel
theorem dX10_startOrStop_19 : decode cX10_startOrStop 19 = .ok (.aload_n 0, 1) := by decide +kernel
theorem dX10_startOrStop_20 : decode cX10_startOrStop 20 = .ok (.iload_n 2, 1) := by decide +kernel
theorem dX10_startOrStop_21 : decode cX10_startOrStop 21 = .ok (.putfield 18, 3) := by decide +kernel
theorem dX10_startOrStop_24 : decode cX10_startOrStop 24 = .ok (.aload_n 0, 1) := by decide +kernel
theorem dX10_startOrStop_25 : decode cX10_startOrStop 25 = .ok (.iload_n 1, 1) := by decide +kernel
theorem dX10_startOrStop_26 : decode cX10_startOrStop 26 = .ok (.ifCond .ne 7, 3) := by decide +kernel
theorem dX10_startOrStop_29 : decode cX10_startOrStop 29 = .ok (.iconst 1, 1) := by decide +kernel
theorem dX10_startOrStop_30 : decode cX10_startOrStop 30 = .ok (.goto 4, 3) := by decide +kernel
theorem dX10_startOrStop_33 : decode cX10_startOrStop 33 = .ok (.iconst 0, 1) := by decide +kernel
theorem dX10_startOrStop_34 : decode cX10_startOrStop 34 = .ok (.putfield 29, 3) := by decide +kernel
theorem dX10_startOrStop_37 : decode cX10_startOrStop 37 = .ok (.aload_n 0, 1) := by decide +kernel
theorem dX10_startOrStop_38 : decode cX10_startOrStop 38 = .ok (.iconst 0, 1) := by decide +kernel
theorem dX10_startOrStop_39 : decode cX10_startOrStop 39 = .ok (.putfield 33, 3) := by decide +kernel
theorem dX10_startOrStop_42 : decode cX10_startOrStop 42 = .ok (.return_, 1) := by decide +kernel
theorem dX10_takeBit_0 : decode cX10_takeBit 0 = .ok (.aload_n 0, 1) := by decide +kernel
theorem dX10_takeBit_1 : decode cX10_takeBit 1 = .ok (.getfield 29, 3) := by decide +kernel
theorem dX10_takeBit_4 : decode cX10_takeBit 4 = .ok (.ifCond .ne 4, 3) := by decide +kernel
theorem dX10_takeBit_7 : decode cX10_takeBit 7 = .ok (.return_, 1) := by decide +kernel
theorem dX10_takeBit_8 : decode cX10_takeBit 8 = .ok (.aload_n 0, 1) := by decide +kernel
theorem dX10_takeBit_9 : decode cX10_takeBit 9 = .ok (.getfield 33, 3) := by decide +kernel
theorem dX10_takeBit_12 : decode cX10_takeBit 12 = .ok (.ifCond .ne 13, 3) := by decide +kernel
theorem dX10_takeBit_15 : decode cX10_takeBit 15 = .ok (.aload_n 0, 1) := by decide +kernel
theorem dX10_takeBit_16 : decode cX10_takeBit 16 = .ok (.iload_n 2, 1) := by decide +kernel
theorem dX10_takeBit_17 : decode cX10_takeBit 17 = .ok (.putfield 67, 3) := by decide +kernel
theorem dX10_takeBit_20 : decode cX10_takeBit 20 = .ok (.aload_n 0, 1) := by decide +kernel
theorem dX10_takeBit_21 : decode cX10_takeBit 21 = .ok (.iconst 0, 1) := by decide +kernel
theorem dX10_takeBit_22 : decode cX10_takeBit 22 = .ok (.putfield 70, 3) := by decide +kernel
theorem dX10_takeBit_25 : decode cX10_takeBit 25 = .ok (.aload_n 0, 1) := by decide +kernel
theorem dX10_takeBit_26 : decode cX10_takeBit 26 = .ok (.dup, 1) := by decide +kernel
theorem dX10_takeBit_27 : decode cX10_takeBit 27 = .ok (.getfield 33, 3) := by decide +kernel
theorem dX10_takeBit_30 : decode cX10_takeBit 30 = .ok (.iconst 1, 1) := by decide +kernel
theorem dX10_takeBit_31 : decode cX10_takeBit 31 = .ok (.iadd, 1) := by decide +kernel
theorem dX10_takeBit_32 : decode cX10_takeBit 32 = .ok (.putfield 33, 3) := by decide +kernel
theorem dX10_takeBit_35 : decode cX10_takeBit 35 = .ok (.aload_n 0, 1) := by decide +kernel
theorem dX10_takeBit_36 : decode cX10_takeBit 36 = .ok (.getfield 33, 3) := by decide +kernel
theorem dX10_takeBit_39 : decode cX10_takeBit 39 = .ok (.bipush 8, 2) := by decide +kernel
theorem dX10_takeBit_41 : decode cX10_takeBit 41 = .ok (.if_icmp .gt 18, 3) := by decide +kernel
theorem dX10_takeBit_44 : decode cX10_takeBit 44 = .ok (.aload_n 0, 1) := by decide +kernel
theorem dX10_takeBit_45 : decode cX10_takeBit 45 = .ok (.iconst 2, 1) := by decide +kernel
theorem dX10_takeBit_46 : decode cX10_takeBit 46 = .ok (.aload_n 0, 1) := by decide +kernel
theorem dX10_takeBit_47 : decode cX10_takeBit 47 = .ok (.getfield 70, 3) := by decide +kernel
theorem dX10_takeBit_50 : decode cX10_takeBit 50 = .ok (.imul, 1) := by decide +kernel
theorem dX10_takeBit_51 : decode cX10_takeBit 51 = .ok (.iload_n 1, 1) := by decide +kernel
theorem dX10_takeBit_52 : decode cX10_takeBit 52 = .ok (.iadd, 1) := by decide +kernel
theorem dX10_takeBit_53 : decode cX10_takeBit 53 = .ok (.putfield 70, 3) := by decide +kernel
theorem dX10_takeBit_56 : decode cX10_takeBit 56 = .ok (.goto 26, 3) := by decide +kernel
theorem dX10_takeBit_59 : decode cX10_takeBit 59 = .ok (.aload_n 0, 1) := by decide +kernel
theorem dX10_takeBit_60 : decode cX10_takeBit 60 = .ok (.aload_n 0, 1) := by decide +kernel
theorem dX10_takeBit_61 : decode cX10_takeBit 61 = .ok (.getfield 70, 3) := by decide +kernel
theorem dX10_takeBit_64 : decode cX10_takeBit 64 = .ok (.sipush 256, 3) := by decide +kernel
theorem dX10_takeBit_67 : decode cX10_takeBit 67 = .ok (.iload_n 1, 1) := by decide +kernel
theorem dX10_takeBit_68 : decode cX10_takeBit 68 = .ok (.imul, 1) := by decide +kernel
theorem dX10_takeBit_69 : decode cX10_takeBit 69 = .ok (.iadd, 1) := by decide +kernel
theorem dX10_takeBit_70 : decode cX10_takeBit 70 = .ok (.aload_n 0, 1) := by decide +kernel
theorem dX10_takeBit_71 : decode cX10_takeBit 71 = .ok (.getfield 67, 3) := by decide +kernel
theorem dX10_takeBit_74 : decode cX10_takeBit 74 = .ok (.invokevirtual 56, 3) := by decide +kernel
theorem dX10_takeBit_77 : decode cX10_takeBit 77 = .ok (.aload_n 0, 1) := by decide +kernel
theorem dX10_takeBit_78 : decode cX10_takeBit 78 = .ok (.iconst 0, 1) := by decide +kernel
theorem dX10_takeBit_79 : decode cX10_takeBit 79 = .ok (.putfield 33, 3) := by decide +kernel
theorem dX10_takeBit_82 : decode cX10_takeBit 82 = .ok (.return_, 1) := by decide +kernel
theorem dX10_findFrame_0 : decode cX10_findFrame 0 = .ok (.iload_n 1, 1) := by decide +kernel
theorem dX10_findFrame_1 : decode cX10_findFrame 1 = .ok (.iconst 0, 1) := by decide +kernel
theorem dX10_findFrame_2 : decode cX10_findFrame 2 = .ok (.invokestatic 73, 3) := by decide +kernel
theorem dX10_findFrame_5 : decode cX10_findFrame 5 = .ok (.istore_n 2, 1) := by decide +kernel
theorem dX10_findFrame_6 : decode cX10_findFrame 6 = .ok (.iload_n 2, 1) := by decide +kernel
theorem dX10_findFrame_7 : decode cX10_findFrame 7 = .ok (.aload_n 0, 1) := by decide +kernel
theorem dX10_findFrame_8 : decode cX10_findFrame 8 = .ok (.getfield 22, 3) := by decide +kernel
theorem dX10_findFrame_11 : decode cX10_findFrame 11 = .ok (.if_icmp .ge 19, 3) := by decide +kernel
theorem dX10_findFrame_14 : decode cX10_findFrame 14 = .ok (.aload_n 0, 1) := by decide +kernel
theorem dX10_findFrame_15 : decode cX10_findFrame 15 = .ok (.iload_n 2, 1) := by decide +kernel
theorem dX10_findFrame_16 : decode cX10_findFrame 16 = .ok (.invokevirtual 79, 3) := by decide +kernel
theorem dX10_findFrame_19 : decode cX10_findFrame 19 = .ok (.ifCond .eq 5, 3) := by decide +kernel
theorem dX10_findFrame_22 : decode cX10_findFrame 22 = .ok (.iload_n 2, 1) := by decide +kernel
theorem dX10_findFrame_23 : decode cX10_findFrame 23 = .ok (.ireturn, 1) := by decide +kernel
theorem dX10_findFrame_24 : decode cX10_findFrame 24 = .ok (.iinc 2 1, 3) := by decide +kernel
theorem dX10_findFrame_27 : decode cX10_findFrame 27 = .ok (.goto (-21), 3) := by decide +kernel
theorem dX10_findFrame_30 : decode cX10_findFrame 30 = .ok (.bipush (-4), 2) := by decide +kernel
theorem dX10_findFrame_32 : decode cX10_findFrame 32 = .ok (.ireturn, 1) := by decide +kernel
theorem dX10_lowByte_0 : decode cX10_lowByte 0 = .ok (.aload_n 0, 1) := by decide +kernel
theorem dX10_lowByte_1 : decode cX10_lowByte 1 = .ok (.iload_n 1, 1) := by decide +kernel
theorem dX10_lowByte_2 : decode cX10_lowByte 2 = .ok (.invokevirtual 83, 3) := by decide +kernel
theorem dX10_lowByte_5 : decode cX10_lowByte 5 = .ok (.ifCond .eq 16, 3) := by decide +kernel
theorem dX10_lowByte_8 : decode cX10_lowByte 8 = .ok (.aload_n 0, 1) := by decide +kernel
theorem dX10_lowByte_9 : decode cX10_lowByte 9 = .ok (.getfield 9, 3) := by decide +kernel
theorem dX10_lowByte_12 : decode cX10_lowByte 12 = .ok (.iload_n 1, 1) := by decide +kernel
theorem dX10_lowByte_13 : decode cX10_lowByte 13 = .ok (.iaload, 1) := by decide +kernel
theorem dX10_lowByte_14 : decode cX10_lowByte 14 = .ok (.sipush 255, 3) := by decide +kernel
theorem dX10_lowByte_17 : decode cX10_lowByte 17 = .ok (.iand, 1) := by decide +kernel
theorem dX10_lowByte_18 : decode cX10_lowByte 18 = .ok (.goto 4, 3) := by decide +kernel
theorem dX10_lowByte_21 : decode cX10_lowByte 21 = .ok (.iconst 0, 1) := by decide +kernel
theorem dX10_lowByte_22 : decode cX10_lowByte 22 = .ok (.ireturn, 1) := by decide +kernel
theorem dX10_beginsFrame_0 : decode cX10_beginsFrame 0 = .ok (.aload_n 0, 1) := by decide +kernel
theorem dX10_beginsFrame_1 : decode cX10_beginsFrame 1 = .ok (.iload_n 1, 1) := by decide +kernel
theorem dX10_beginsFrame_2 : decode cX10_beginsFrame 2 = .ok (.iconst 1, 1) := by decide +kernel
theorem dX10_beginsFrame_3 : decode cX10_beginsFrame 3 = .ok (.iadd, 1) := by decide +kernel
theorem dX10_beginsFrame_4 : decode cX10_beginsFrame 4 = .ok (.invokevirtual 86, 3) := by decide +kernel
theorem dX10_beginsFrame_7 : decode cX10_beginsFrame 7 = .ok (.istore_n 2, 1) := by decide +kernel
theorem dX10_beginsFrame_8 : decode cX10_beginsFrame 8 = .ok (.aload_n 0, 1) := by decide +kernel
theorem dX10_beginsFrame_9 : decode cX10_beginsFrame 9 = .ok (.iload_n 1, 1) := by decide +kernel
theorem dX10_beginsFrame_10 : decode cX10_beginsFrame 10 = .ok (.invokevirtual 86, 3) := by decide +kernel
theorem dX10_beginsFrame_13 : decode cX10_beginsFrame 13 = .ok (.bipush 85, 2) := by decide +kernel
theorem dX10_beginsFrame_15 : decode cX10_beginsFrame 15 = .ok (.if_icmp .ne 25, 3) := by decide +kernel
theorem dX10_beginsFrame_18 : decode cX10_beginsFrame 18 = .ok (.iload_n 2, 1) := by decide +kernel
theorem dX10_beginsFrame_19 : decode cX10_beginsFrame 19 = .ok (.iconst 1, 1) := by decide +kernel
theorem dX10_beginsFrame_20 : decode cX10_beginsFrame 20 = .ok (.bipush 8, 2) := by decide +kernel
theorem dX10_beginsFrame_22 : decode cX10_beginsFrame 22 = .ok (.invokestatic 25, 3) := by decide +kernel
theorem dX10_beginsFrame_25 : decode cX10_beginsFrame 25 = .ok (.ifCond .eq 15, 3) := by decide +kernel
theorem dX10_beginsFrame_28 : decode cX10_beginsFrame 28 = .ok (.aload_n 0, 1) := by decide +kernel
theorem dX10_beginsFrame_29 : decode cX10_beginsFrame 29 = .ok (.iload_n 1, 1) := by decide +kernel
theorem dX10_beginsFrame_30 : decode cX10_beginsFrame 30 = .ok (.iload_n 2, 1) := by decide +kernel
theorem dX10_beginsFrame_31 : decode cX10_beginsFrame 31 = .ok (.iadd, 1) := by decide +kernel
theorem dX10_beginsFrame_32 : decode cX10_beginsFrame 32 = .ok (.iconst 2, 1) := by decide +kernel
theorem dX10_beginsFrame_33 : decode cX10_beginsFrame 33 = .ok (.iadd, 1) := by decide +kernel
theorem dX10_beginsFrame_34 : decode cX10_beginsFrame 34 = .ok (.invokevirtual 83, 3) := by decide +kernel
theorem dX10_beginsFrame_37 : decode cX10_beginsFrame 37 = .ok (.ifCond .ne 5, 3) := by decide +kernel
theorem dX10_beginsFrame_40 : decode cX10_beginsFrame 40 = .ok (.iconst 0, 1) := by decide +kernel
theorem dX10_beginsFrame_41 : decode cX10_beginsFrame 41 = .ok (.ireturn, 1) := by decide +kernel
theorem dX10_beginsFrame_42 : decode cX10_beginsFrame 42 = .ok (.iload_n 2, 1) := by decide +kernel
theorem dX10_beginsFrame_43 : decode cX10_beginsFrame 43 = .ok (.istore_n 3, 1) := by decide +kernel
theorem dX10_beginsFrame_44 : decode cX10_beginsFrame 44 = .ok (.iconst 0, 1) := by decide +kernel
theorem dX10_beginsFrame_45 : decode cX10_beginsFrame 45 = .ok (.istore 4, 2) := by decide +kernel
theorem dX10_beginsFrame_47 : decode cX10_beginsFrame 47 = .ok (.iload 4, 2) := by decide +kernel
theorem dX10_beginsFrame_49 : decode cX10_beginsFrame 49 = .ok (.iload_n 2, 1) := by decide +kernel
theorem dX10_beginsFrame_50 : decode cX10_beginsFrame 50 = .ok (.if_icmp .ge 22, 3) := by decide +kernel
theorem dX10_beginsFrame_53 : decode cX10_beginsFrame 53 = .ok (.iload_n 3, 1) := by decide +kernel
theorem dX10_beginsFrame_54 : decode cX10_beginsFrame 54 = .ok (.aload_n 0, 1) := by decide +kernel
theorem dX10_beginsFrame_55 : decode cX10_beginsFrame 55 = .ok (.iload_n 1, 1) := by decide +kernel
theorem dX10_beginsFrame_56 : decode cX10_beginsFrame 56 = .ok (.iconst 2, 1) := by decide +kernel
theorem dX10_beginsFrame_57 : decode cX10_beginsFrame 57 = .ok (.iadd, 1) := by decide +kernel
theorem dX10_beginsFrame_58 : decode cX10_beginsFrame 58 = .ok (.iload 4, 2) := by decide +kernel
theorem dX10_beginsFrame_60 : decode cX10_beginsFrame 60 = .ok (.iadd, 1) := by decide +kernel
theorem dX10_beginsFrame_61 : decode cX10_beginsFrame 61 = .ok (.invokevirtual 86, 3) := by decide +kernel
theorem dX10_beginsFrame_64 : decode cX10_beginsFrame 64 = .ok (.iadd, 1) := by decide +kernel
theorem dX10_beginsFrame_65 : decode cX10_beginsFrame 65 = .ok (.istore_n 3, 1) := by decide +kernel
theorem dX10_beginsFrame_66 : decode cX10_beginsFrame 66 = .ok (.iinc 4 1, 3) := by decide +kernel
theorem dX10_beginsFrame_69 : decode cX10_beginsFrame 69 = .ok (.goto (-22), 3) := by decide +kernel
theorem dX10_beginsFrame_72 : decode cX10_beginsFrame 72 = .ok (.aload_n 0, 1) := by decide +kernel
theorem dX10_beginsFrame_73 : decode cX10_beginsFrame 73 = .ok (.iload_n 1, 1) := by decide +kernel
theorem dX10_beginsFrame_74 : decode cX10_beginsFrame 74 = .ok (.iload_n 2, 1) := by decide +kernel
theorem dX10_beginsFrame_75 : decode cX10_beginsFrame 75 = .ok (.iadd, 1) := by decide +kernel
theorem dX10_beginsFrame_76 : decode cX10_beginsFrame 76 = .ok (.iconst 2, 1) := by decide +kernel
theorem dX10_beginsFrame_77 : decode cX10_beginsFrame 77 = .ok (.iadd, 1) := by decide +kernel
theorem dX10_beginsFrame_78 : decode cX10_beginsFrame 78 = .ok (.invokevirtual 86, 3) := by decide +kernel
theorem dX10_beginsFrame_81 : decode cX10_beginsFrame 81 = .ok (.iload_n 3, 1) := by decide +kernel
theorem dX10_beginsFrame_82 : decode cX10_beginsFrame 82 = .ok (.sipush 255, 3) := by decide +kernel
theorem dX10_beginsFrame_85 : decode cX10_beginsFrame 85 = .ok (.iand, 1) := by decide +kernel
theorem dX10_beginsFrame_86 : decode cX10_beginsFrame 86 = .ok (.if_icmp .ne 7, 3) := by decide +kernel
theorem dX10_beginsFrame_89 : decode cX10_beginsFrame 89 = .ok (.iconst 1, 1) := by decide +kernel
theorem dX10_beginsFrame_90 : decode cX10_beginsFrame 90 = .ok (.goto 4, 3) := by decide +kernel
theorem dX10_beginsFrame_93 : decode cX10_beginsFrame 93 = .ok (.iconst 0, 1) := by decide +kernel
theorem dX10_beginsFrame_94 : decode cX10_beginsFrame 94 = .ok (.ireturn, 1) := by decide +kernel
theorem dX11_init_0 : decode cX11_init 0 = .ok (.aload_n 0, 1) := by decide +kernel
theorem dX11_init_1 : decode cX11_init 1 = .ok (.invokespecial 3, 3) := by decide +kernel
theorem dX11_init_4 : decode cX11_init 4 = .ok (.aload_n 0, 1) := by decide +kernel
theorem dX11_init_5 : decode cX11_init 5 = .ok (.new 9, 3) := by decide +kernel
theorem dX11_init_8 : decode cX11_init 8 = .ok (.dup, 1) := by decide +kernel
theorem dX11_init_9 : decode cX11_init 9 = .ok (.invokespecial 11, 3) := by decide +kernel
theorem dX11_init_12 : decode cX11_init 12 = .ok (.putfield 12, 3) := by decide +kernel
theorem dX11_init_15 : decode cX11_init 15 = .ok (.aload_n 0, 1) := by decide +kernel
theorem dX11_init_16 : decode cX11_init 16 = .ok (.new 16, 3) := by decide +kernel
theorem dX11_init_19 : decode cX11_init 19 = .ok (.dup, 1) := by decide +kernel
theorem dX11_init_20 : decode cX11_init 20 = .ok (.aload_n 0, 1) := by decide +kernel
theorem dX11_init_21 : decode cX11_init 21 = .ok (.getfield 12, 3) := by decide +kernel
theorem dX11_init_24 : decode cX11_init 24 = .ok (.invokespecial 18, 3) := by decide +kernel
theorem dX11_init_27 : decode cX11_init 27 = .ok (.putfield 21, 3) := by decide +kernel
theorem dX11_init_30 : decode cX11_init 30 = .ok (.aload_n 0, 1) := by decide +kernel
theorem dX11_init_31 : decode cX11_init 31 = .ok (.new 25, 3) := by decide +kernel
theorem dX11_init_34 : decode cX11_init 34 = .ok (.dup, 1) := by decide +kernel
theorem dX11_init_35 : decode cX11_init 35 = .ok (.invokespecial 27, 3) := by decide +kernel
theorem dX11_init_38 : decode cX11_init 38 = .ok (.putfield 28, 3) := by decide +kernel
theorem dX11_init_41 : decode cX11_init 41 = .ok (.aload_n 0, 1) := by decide +kernel
theorem dX11_init_42 : decode cX11_init 42 = .ok (.iconst 4, 1) := by decide +kernel
theorem dX11_init_43 : decode cX11_init 43 = .ok (.anewarray 32, 3) := by decide +kernel
theorem dX11_init_46 : decode cX11_init 46 = .ok (.putfield 34, 3) := by decide +kernel
theorem dX11_init_49 : decode cX11_init 49 = .ok (.iconst 0, 1) := by decide +kernel
theorem dX11_init_50 : decode cX11_init 50 = .ok (.istore_n 1, 1) := by decide +kernel
theorem dX11_init_51 : decode cX11_init 51 = .ok (.iload_n 1, 1) := by decide +kernel
theorem dX11_init_52 : decode cX11_init 52 = .ok (.iconst 4, 1) := by decide +kernel
theorem dX11_init_53 : decode cX11_init 53 = .ok (.if_icmp .ge 22, 3) := by decide +kernel
theorem dX11_init_56 : decode cX11_init 56 = .ok (.aload_n 0, 1) := by decide +kernel
theorem dX11_init_57 : decode cX11_init 57 = .ok (.getfield 34, 3) := by decide +kernel
theorem dX11_init_60 : decode cX11_init 60 = .ok (.iload_n 1, 1) := by decide +kernel
theorem dX11_init_61 : decode cX11_init 61 = .ok (.new 32, 3) := by decide +kernel
theorem dX11_init_64 : decode cX11_init 64 = .ok (.dup, 1) := by decide +kernel
theorem dX11_init_65 : decode cX11_init 65 = .ok (.invokespecial 38, 3) := by decide +kernel
theorem dX11_init_68 : decode cX11_init 68 = .ok (.aastore, 1) := by decide +kernel
theorem dX11_init_69 : decode cX11_init 69 = .ok (.iinc 1 1, 3) := by decide +kernel
theorem dX11_init_72 : decode cX11_init 72 = .ok (.goto (-21), 3) := by decide +kernel
theorem dX11_init_75 : decode cX11_init 75 = .ok (.aload_n 0, 1) := by decide +kernel
theorem dX11_init_76 : decode cX11_init 76 = .ok (.iconst 4, 1) := by decide +kernel
theorem dX11_init_77 : decode cX11_init 77 = .ok (.anewarray 39, 3) := by decide +kernel
theorem dX11_init_80 : decode cX11_init 80 = .ok (.putfield 41, 3) := by decide +kernel
theorem dX11_init_83 : decode cX11_init 83 = .ok (.iconst 0, 1) := by decide +kernel
theorem dX11_init_84 : decode cX11_init 84 = .ok (.istore_n 1, 1) := by decide +kernel
theorem dX11_init_85 : decode cX11_init 85 = .ok (.iload_n 1, 1) := by decide +kernel
theorem dX11_init_86 : decode cX11_init 86 = .ok (.iconst 4, 1) := by decide +kernel
theorem dX11_init_87 : decode cX11_init 87 = .ok (.if_icmp .ge 22, 3) := by decide +kernel
theorem dX11_init_90 : decode cX11_init 90 = .ok (.aload_n 0, 1) := by decide +kernel
theorem dX11_init_91 : decode cX11_init 91 = .ok (.getfield 41, 3) := by decide +kernel
theorem dX11_init_94 : decode cX11_init 94 = .ok (.iload_n 1, 1) := by decide +kernel
theorem dX11_init_95 : decode cX11_init 95 = .ok (.new 39, 3) := by decide +kernel
theorem dX11_init_98 : decode cX11_init 98 = .ok (.dup, 1) := by decide +kernel
theorem dX11_init_99 : decode cX11_init 99 = .ok (.invokespecial 45, 3) := by decide +kernel
theorem dX11_init_102 : decode cX11_init 102 = .ok (.aastore, 1) := by decide +kernel
theorem dX11_init_103 : decode cX11_init 103 = .ok (.iinc 1 1, 3) := by decide +kernel
theorem dX11_init_106 : decode cX11_init 106 = .ok (.goto (-21), 3) := by decide +kernel
theorem dX11_init_109 : decode cX11_init 109 = .ok (.aload_n 0, 1) := by decide +kernel
theorem dX11_init_110 : decode cX11_init 110 = .ok (.new 46, 3) := by decide +kernel
theorem dX11_init_113 : decode cX11_init 113 = .ok (.dup, 1) := by decide +kernel
theorem dX11_init_114 : decode cX11_init 114 = .ok (.invokespecial 48, 3) := by decide +kernel
theorem dX11_init_117 : decode cX11_init 117 = .ok (.putfield 49, 3) := by decide +kernel
theorem dX11_init_120 : decode cX11_init 120 = .ok (.aload_n 0, 1) := by decide +kernel
theorem dX11_init_121 : decode cX11_init 121 = .ok (.bipush (-4), 2) := by decide +kernel
theorem dX11_init_123 : decode cX11_init 123 = .ok (.putfield 53, 3) := by decide +kernel
theorem dX11_init_126 : decode cX11_init 126 = .ok (.return_, 1) := by decide +kernel
theorem dX11_feed_0 : decode cX11_feed 0 = .ok (.aload_n 0, 1) := by decide +kernel
theorem dX11_feed_1 : decode cX11_feed 1 = .ok (.getfield 12, 3) := by decide +kernel
theorem dX11_feed_4 : decode cX11_feed 4 = .ok (.lload_n 1, 1) := by decide +kernel
theorem dX11_feed_5 : decode cX11_feed 5 = .ok (.invokevirtual 57, 3) := by decide +kernel
theorem dX11_feed_8 : decode cX11_feed 8 = .ok (.ifCond .eq 13, 3) := by decide +kernel
theorem dX11_feed_11 : decode cX11_feed 11 = .ok (.aload_n 0, 1) := by decide +kernel
theorem dX11_feed_12 : decode cX11_feed 12 = .ok (.getfield 12, 3) := by decide +kernel
theorem dX11_feed_15 : decode cX11_feed 15 = .ok (.getfield 61, 3) := by decide +kernel
theorem dX11_feed_18 : decode cX11_feed 18 = .ok (.goto 5, 3) := by decide +kernel
theorem dX11_feed_21 : decode cX11_feed 21 = .ok (.bipush (-3), 2) := by decide +kernel
theorem dX11_feed_23 : decode cX11_feed 23 = .ok (.ireturn, 1) := by decide +kernel
theorem dX11_end_0 : decode cX11_end 0 = .ok (.aload_n 0, 1) := by decide +kernel
theorem dX11_end_1 : decode cX11_end 1 = .ok (.getfield 12, 3) := by decide +kernel
theorem dX11_end_4 : decode cX11_end 4 = .ok (.getfield 61, 3) := by decide +kernel
theorem dX11_end_7 : decode cX11_end 7 = .ok (.istore_n 2, 1) := by decide +kernel
theorem dX11_end_8 : decode cX11_end 8 = .ok (.aload_n 0, 1) := by decide +kernel
theorem dX11_end_9 : decode cX11_end 9 = .ok (.getfield 12, 3) := by decide +kernel
theorem dX11_end_12 : decode cX11_end 12 = .ok (.iload_n 1, 1) := by decide +kernel
theorem dX11_end_13 : decode cX11_end 13 = .ok (.invokevirtual 64, 3) := by decide +kernel
theorem dX11_end_16 : decode cX11_end 16 = .ok (.ifCond .eq 7, 3) := by decide +kernel
theorem dX11_end_19 : decode cX11_end 19 = .ok (.iload_n 2, 1) := by decide +kernel
theorem dX11_end_20 : decode cX11_end 20 = .ok (.goto 4, 3) := by decide +kernel
theorem dX11_end_23 : decode cX11_end 23 = .ok (.iconst (-1), 1) := by decide +kernel
theorem dX11_end_24 : decode cX11_end 24 = .ok (.ireturn, 1) := by decide +kernel
theorem dX11_trigger_0 : decode cX11_trigger 0 = .ok (.aload_n 0, 1) := by decide +kernel
theorem dX11_trigger_1 : decode cX11_trigger 1 = .ok (.getfield 12, 3) := by decide +kernel
theorem dX11_trigger_4 : decode cX11_trigger 4 = .ok (.invokevirtual 68, 3) := by decide +kernel
theorem dX11_trigger_7 : decode cX11_trigger 7 = .ok (.aload_n 0, 1) := by decide +kernel
theorem dX11_trigger_8 : decode cX11_trigger 8 = .ok (.getfield 21, 3) := by decide +kernel
theorem dX11_trigger_11 : decode cX11_trigger 11 = .ok (.aload_n 0, 1) := by decide +kernel
theorem dX11_trigger_12 : decode cX11_trigger 12 = .ok (.getfield 28, 3) := by decide +kernel
theorem dX11_trigger_15 : decode cX11_trigger 15 = .ok (.getfield 71, 3) := by decide +kernel
theorem dX11_trigger_18 : decode cX11_trigger 18 = .ok (.invokevirtual 75, 3) := by decide +kernel
theorem dX11_trigger_21 : decode cX11_trigger 21 = .ok (.istore_n 1, 1) := by decide +kernel
theorem dX11_trigger_22 : decode cX11_trigger 22 = .ok (.aload_n 0, 1) := by decide +kernel
theorem dX11_trigger_23 : decode cX11_trigger 23 = .ok (.getfield 12, 3) := by decide +kernel
theorem dX11_trigger_26 : decode cX11_trigger 26 = .ok (.iconst 0, 1) := by decide +kernel
theorem dX11_trigger_27 : decode cX11_trigger 27 = .ok (.invokevirtual 64, 3) := by decide +kernel
theorem dX11_trigger_30 : decode cX11_trigger 30 = .ok (.pop, 1) := by decide +kernel
theorem dX11_trigger_31 : decode cX11_trigger 31 = .ok (.iload_n 1, 1) := by decide +kernel
theorem dX11_trigger_32 : decode cX11_trigger 32 = .ok (.ifCond .ne 14, 3) := by decide +kernel
theorem dX11_trigger_35 : decode cX11_trigger 35 = .ok (.bipush (-10), 2) := by decide +kernel
theorem dX11_trigger_37 : decode cX11_trigger 37 = .ok (.aload_n 0, 1) := by decide +kernel
theorem dX11_trigger_38 : decode cX11_trigger 38 = .ok (.getfield 21, 3) := by decide +kernel
theorem dX11_trigger_41 : decode cX11_trigger 41 = .ok (.getfield 79, 3) := by decide +kernel
theorem dX11_trigger_44 : decode cX11_trigger 44 = .ok (.isub, 1) := by decide +kernel
theorem dX11_trigger_45 : decode cX11_trigger 45 = .ok (.ireturn, 1) := by decide +kernel
theorem dX11_trigger_46 : decode cX11_trigger 46 = .ok (.aload_n 0, 1) := by decide +kernel
theorem dX11_trigger_47 : decode cX11_trigger 47 = .ok (.getfield 28, 3) := by decide +kernel
theorem dX11_trigger_50 : decode cX11_trigger 50 = .ok (.invokevirtual 82, 3) := by decide +kernel
theorem dX11_trigger_53 : decode cX11_trigger 53 = .ok (.aload_n 0, 1) := by decide +kernel
theorem dX11_trigger_54 : decode cX11_trigger 54 = .ok (.getfield 28, 3) := by decide +kernel
theorem dX11_trigger_57 : decode cX11_trigger 57 = .ok (.getfield 85, 3) := by decide +kernel
theorem dX11_trigger_60 : decode cX11_trigger 60 = .ok (.getfield 88, 3) := by decide +kernel
theorem dX11_trigger_63 : decode cX11_trigger 63 = .ok (.ireturn, 1) := by decide +kernel
theorem dX11_fault_0 : decode cX11_fault 0 = .ok (.aload_n 0, 1) := by decide +kernel
theorem dX11_fault_1 : decode cX11_fault 1 = .ok (.getfield 21, 3) := by decide +kernel
theorem dX11_fault_4 : decode cX11_fault 4 = .ok (.getfield 93, 3) := by decide +kernel
theorem dX11_fault_7 : decode cX11_fault 7 = .ok (.ireturn, 1) := by decide +kernel
theorem dX11_keep_0 : decode cX11_keep 0 = .ok (.iload_n 1, 1) := by decide +kernel
theorem dX11_keep_1 : decode cX11_keep 1 = .ok (.iconst 0, 1) := by decide +kernel
theorem dX11_keep_2 : decode cX11_keep 2 = .ok (.bipush 100, 2) := by decide +kernel
theorem dX11_keep_4 : decode cX11_keep 4 = .ok (.invokestatic 96, 3) := by decide +kernel
theorem dX11_keep_7 : decode cX11_keep 7 = .ok (.ifCond .eq 13, 3) := by decide +kernel
theorem dX11_keep_10 : decode cX11_keep 10 = .ok (.iload_n 2, 1) := by decide +kernel
theorem dX11_keep_11 : decode cX11_keep 11 = .ok (.iconst 0, 1) := by decide +kernel
theorem dX11_keep_12 : decode cX11_keep 12 = .ok (.bipush 100, 2) := by decide +kernel
theorem dX11_keep_14 : decode cX11_keep 14 = .ok (.invokestatic 96, 3) := by decide +kernel
theorem dX11_keep_17 : decode cX11_keep 17 = .ok (.ifCond .ne 5, 3) := by decide +kernel
theorem dX11_keep_20 : decode cX11_keep 20 = .ok (.iconst (-1), 1) := by decide +kernel
theorem dX11_keep_21 : decode cX11_keep 21 = .ok (.ireturn, 1) := by decide +kernel
theorem dX11_keep_22 : decode cX11_keep 22 = .ok (.aload_n 0, 1) := by decide +kernel
theorem dX11_keep_23 : decode cX11_keep 23 = .ok (.getfield 28, 3) := by decide +kernel
theorem dX11_keep_26 : decode cX11_keep 26 = .ok (.getfield 100, 3) := by decide +kernel
theorem dX11_keep_29 : decode cX11_keep 29 = .ok (.iconst 1, 1) := by decide +kernel
theorem dX11_keep_30 : decode cX11_keep 30 = .ok (.if_icmp .eq 14, 3) := by decide +kernel
theorem dX11_keep_33 : decode cX11_keep 33 = .ok (.aload_n 0, 1) := by decide +kernel
theorem dX11_keep_34 : decode cX11_keep 34 = .ok (.getfield 28, 3) := by decide +kernel
theorem dX11_keep_37 : decode cX11_keep 37 = .ok (.getfield 100, 3) := by decide +kernel
theorem dX11_keep_40 : decode cX11_keep 40 = .ok (.iconst 2, 1) := by decide +kernel
theorem dX11_keep_41 : decode cX11_keep 41 = .ok (.if_icmp .ne 6, 3) := by decide +kernel
theorem dX11_keep_44 : decode cX11_keep 44 = .ok (.bipush (-2), 2) := by decide +kernel
theorem dX11_keep_46 : decode cX11_keep 46 = .ok (.ireturn, 1) := by decide +kernel
theorem dX11_keep_47 : decode cX11_keep 47 = .ok (.aload_n 0, 1) := by decide +kernel
theorem dX11_keep_48 : decode cX11_keep 48 = .ok (.getfield 28, 3) := by decide +kernel
theorem dX11_keep_51 : decode cX11_keep 51 = .ok (.iload_n 1, 1) := by decide +kernel
theorem dX11_keep_52 : decode cX11_keep 52 = .ok (.putfield 103, 3) := by decide +kernel
theorem dX11_keep_55 : decode cX11_keep 55 = .ok (.aload_n 0, 1) := by decide +kernel
theorem dX11_keep_56 : decode cX11_keep 56 = .ok (.getfield 28, 3) := by decide +kernel
theorem dX11_keep_59 : decode cX11_keep 59 = .ok (.iload_n 2, 1) := by decide +kernel
theorem dX11_keep_60 : decode cX11_keep 60 = .ok (.putfield 106, 3) := by decide +kernel
theorem dX11_keep_63 : decode cX11_keep 63 = .ok (.iconst 1, 1) := by decide +kernel
theorem dX11_keep_64 : decode cX11_keep 64 = .ok (.ireturn, 1) := by decide +kernel
theorem dX11_arm_0 : decode cX11_arm 0 = .ok (.aload_n 0, 1) := by decide +kernel
theorem dX11_arm_1 : decode cX11_arm 1 = .ok (.getfield 28, 3) := by decide +kernel
theorem dX11_arm_4 : decode cX11_arm 4 = .ok (.getfield 85, 3) := by decide +kernel
theorem dX11_arm_7 : decode cX11_arm 7 = .ok (.getfield 88, 3) := by decide +kernel
theorem dX11_arm_10 : decode cX11_arm 10 = .ok (.ifCond .ne 6, 3) := by decide +kernel
theorem dX11_arm_13 : decode cX11_arm 13 = .ok (.bipush (-2), 2) := by decide +kernel
theorem dX11_arm_15 : decode cX11_arm 15 = .ok (.ireturn, 1) := by decide +kernel
theorem dX11_arm_16 : decode cX11_arm 16 = .ok (.aload_n 0, 1) := by decide +kernel
theorem dX11_arm_17 : decode cX11_arm 17 = .ok (.getfield 28, 3) := by decide +kernel
theorem dX11_arm_20 : decode cX11_arm 20 = .ok (.getfield 109, 3) := by decide +kernel
theorem dX11_arm_23 : decode cX11_arm 23 = .ok (.invokevirtual 113, 3) := by decide +kernel
theorem dX11_arm_26 : decode cX11_arm 26 = .ok (.ifCond .eq 6, 3) := by decide +kernel
theorem dX11_arm_29 : decode cX11_arm 29 = .ok (.bipush (-3), 2) := by decide +kernel
theorem dX11_arm_31 : decode cX11_arm 31 = .ok (.ireturn, 1) := by decide +kernel
theorem dX11_arm_32 : decode cX11_arm 32 = .ok (.aload_n 0, 1) := by decide +kernel
theorem dX11_arm_33 : decode cX11_arm 33 = .ok (.getfield 28, 3) := by decide +kernel
theorem dX11_arm_36 : decode cX11_arm 36 = .ok (.invokevirtual 119, 3) := by decide +kernel
theorem dX11_arm_39 : decode cX11_arm 39 = .ok (.iconst 1, 1) := by decide +kernel
theorem dX11_arm_40 : decode cX11_arm 40 = .ok (.ireturn, 1) := by decide +kernel
theorem dX11_come_0 : decode cX11_come 0 = .ok (.aload_n 0, 1) := by decide +kernel
theorem dX11_come_1 : decode cX11_come 1 = .ok (.getfield 28, 3) := by decide +kernel
theorem dX11_come_4 : decode cX11_come 4 = .ok (.lload_n 1, 1) := by decide +kernel
theorem dX11_come_5 : decode cX11_come 5 = .ok (.bipush 32, 2) := by decide +kernel
theorem dX11_come_7 : decode cX11_come 7 = .ok (.lshr, 1) := by decide +kernel
theorem dX11_come_8 : decode cX11_come 8 = .ok (.l2i, 1) := by decide +kernel
theorem dX11_come_9 : decode cX11_come 9 = .ok (.invokevirtual 122, 3) := by decide +kernel
theorem dX11_come_12 : decode cX11_come 12 = .ok (.aload_n 0, 1) := by decide +kernel
theorem dX11_come_13 : decode cX11_come 13 = .ok (.getfield 28, 3) := by decide +kernel
theorem dX11_come_16 : decode cX11_come 16 = .ok (.lload_n 1, 1) := by decide +kernel
theorem dX11_come_17 : decode cX11_come 17 = .ok (.l2i, 1) := by decide +kernel
theorem dX11_come_18 : decode cX11_come 18 = .ok (.invokevirtual 122, 3) := by decide +kernel
theorem dX11_come_21 : decode cX11_come 21 = .ok (.aload_n 0, 1) := by decide +kernel
theorem dX11_come_22 : decode cX11_come 22 = .ok (.getfield 28, 3) := by decide +kernel
theorem dX11_come_25 : decode cX11_come 25 = .ok (.getfield 109, 3) := by decide +kernel
theorem dX11_come_28 : decode cX11_come 28 = .ok (.getfield 126, 3) := by decide +kernel
theorem dX11_come_31 : decode cX11_come 31 = .ok (.ireturn, 1) := by decide +kernel
theorem dX11_play_0 : decode cX11_play 0 = .ok (.iload_n 1, 1) := by decide +kernel
theorem dX11_play_1 : decode cX11_play 1 = .ok (.iconst 0, 1) := by decide +kernel
theorem dX11_play_2 : decode cX11_play 2 = .ok (.iconst 3, 1) := by decide +kernel
theorem dX11_play_3 : decode cX11_play 3 = .ok (.invokestatic 96, 3) := by decide +kernel
theorem dX11_play_6 : decode cX11_play 6 = .ok (.ifCond .eq 21, 3) := by decide +kernel
theorem dX11_play_9 : decode cX11_play 9 = .ok (.iload_n 2, 1) := by decide +kernel
theorem dX11_play_10 : decode cX11_play 10 = .ok (.invokestatic 127, 3) := by decide +kernel
theorem dX11_play_13 : decode cX11_play 13 = .ok (.ifCond .eq 14, 3) := by decide +kernel
theorem dX11_play_16 : decode cX11_play 16 = .ok (.iload 4, 2) := by decide +kernel
theorem dX11_play_18 : decode cX11_play 18 = .ok (.iconst 0, 1) := by decide +kernel
theorem dX11_play_19 : decode cX11_play 19 = .ok (.bipush 64, 2) := by decide +kernel
theorem dX11_play_21 : decode cX11_play 21 = .ok (.invokestatic 96, 3) := by decide +kernel
theorem dX11_play_24 : decode cX11_play 24 = .ok (.ifCond .ne 5, 3) := by decide +kernel
theorem dX11_play_27 : decode cX11_play 27 = .ok (.iconst (-1), 1) := by decide +kernel
theorem dX11_play_28 : decode cX11_play 28 = .ok (.ireturn, 1) := by decide +kernel
theorem dX11_play_29 : decode cX11_play 29 = .ok (.aload_n 0, 1) := by decide +kernel
theorem dX11_play_30 : decode cX11_play 30 = .ok (.getfield 41, 3) := by decide +kernel
theorem dX11_play_33 : decode cX11_play 33 = .ok (.iload_n 1, 1) := by decide +kernel
theorem dX11_play_34 : decode cX11_play 34 = .ok (.aaload, 1) := by decide +kernel
theorem dX11_play_35 : decode cX11_play 35 = .ok (.astore 5, 2) := by decide +kernel
theorem dX11_play_37 : decode cX11_play 37 = .ok (.aload 5, 2) := by decide +kernel
theorem dX11_play_39 : decode cX11_play 39 = .ok (.getfield 130, 3) := by decide +kernel
theorem dX11_play_42 : decode cX11_play 42 = .ok (.ifCond .eq 19, 3) := by decide +kernel
theorem dX11_play_45 : decode cX11_play 45 = .ok (.iload_n 3, 1) := by decide +kernel
theorem dX11_play_46 : decode cX11_play 46 = .ok (.iconst 0, 1) := by decide +kernel
theorem dX11_play_47 : decode cX11_play 47 = .ok (.aload 5, 2) := by decide +kernel
theorem dX11_play_49 : decode cX11_play 49 = .ok (.getfield 130, 3) := by decide +kernel
theorem dX11_play_52 : decode cX11_play 52 = .ok (.iload 4, 2) := by decide +kernel
theorem dX11_play_54 : decode cX11_play 54 = .ok (.isub, 1) := by decide +kernel
theorem dX11_play_55 : decode cX11_play 55 = .ok (.invokestatic 96, 3) := by decide +kernel
theorem dX11_play_58 : decode cX11_play 58 = .ok (.ifCond .ne 5, 3) := by decide +kernel
theorem dX11_play_61 : decode cX11_play 61 = .ok (.iconst (-1), 1) := by decide +kernel
theorem dX11_play_62 : decode cX11_play 62 = .ok (.ireturn, 1) := by decide +kernel
theorem dX11_play_63 : decode cX11_play 63 = .ok (.iconst 0, 1) := by decide +kernel
theorem dX11_play_64 : decode cX11_play 64 = .ok (.istore 6, 2) := by decide +kernel
theorem dX11_play_66 : decode cX11_play 66 = .ok (.iload 6, 2) := by decide +kernel
theorem dX11_play_68 : decode cX11_play 68 = .ok (.iload 4, 2) := by decide +kernel
theorem dX11_play_70 : decode cX11_play 70 = .ok (.if_icmp .ge 30, 3) := by decide +kernel
theorem dX11_play_73 : decode cX11_play 73 = .ok (.aload_n 0, 1) := by decide +kernel
theorem dX11_play_74 : decode cX11_play 74 = .ok (.getfield 28, 3) := by decide +kernel
theorem dX11_play_77 : decode cX11_play 77 = .ok (.iload_n 2, 1) := by decide +kernel
theorem dX11_play_78 : decode cX11_play 78 = .ok (.aload 5, 2) := by decide +kernel
theorem dX11_play_80 : decode cX11_play 80 = .ok (.iload_n 3, 1) := by decide +kernel
theorem dX11_play_81 : decode cX11_play 81 = .ok (.iload 6, 2) := by decide +kernel
theorem dX11_play_83 : decode cX11_play 83 = .ok (.iadd, 1) := by decide +kernel
theorem dX11_play_84 : decode cX11_play 84 = .ok (.invokevirtual 131, 3) := by decide +kernel
theorem dX11_play_87 : decode cX11_play 87 = .ok (.l2i, 1) := by decide +kernel
theorem dX11_play_88 : decode cX11_play 88 = .ok (.invokestatic 135, 3) := by decide +kernel
theorem dX11_play_91 : decode cX11_play 91 = .ok (.invokevirtual 122, 3) := by decide +kernel
theorem dX11_play_94 : decode cX11_play 94 = .ok (.iinc 6 1, 3) := by decide +kernel
theorem dX11_play_97 : decode cX11_play 97 = .ok (.goto (-31), 3) := by decide +kernel
theorem dX11_play_100 : decode cX11_play 100 = .ok (.aload_n 0, 1) := by decide +kernel
theorem dX11_play_101 : decode cX11_play 101 = .ok (.getfield 28, 3) := by decide +kernel
theorem dX11_play_104 : decode cX11_play 104 = .ok (.getfield 109, 3) := by decide +kernel
theorem dX11_play_107 : decode cX11_play 107 = .ok (.getfield 126, 3) := by decide +kernel
theorem dX11_play_110 : decode cX11_play 110 = .ok (.ireturn, 1) := by decide +kernel
theorem dX11_sample_0 : decode cX11_sample 0 = .ok (.iload_n 2, 1) := by decide +kernel
theorem dX11_sample_1 : decode cX11_sample 1 = .ok (.invokestatic 127, 3) := by decide +kernel
theorem dX11_sample_4 : decode cX11_sample 4 = .ok (.ifCond .eq 17, 3) := by decide +kernel
theorem dX11_sample_7 : decode cX11_sample 7 = .ok (.aload_n 0, 1) := by decide +kernel
theorem dX11_sample_8 : decode cX11_sample 8 = .ok (.getfield 28, 3) := by decide +kernel
theorem dX11_sample_11 : decode cX11_sample 11 = .ok (.getfield 139, 3) := by decide +kernel
theorem dX11_sample_14 : decode cX11_sample 14 = .ok (.iload_n 1, 1) := by decide +kernel
theorem dX11_sample_15 : decode cX11_sample 15 = .ok (.invokevirtual 143, 3) := by decide +kernel
theorem dX11_sample_18 : decode cX11_sample 18 = .ok (.ifCond .ne 7, 3) := by decide +kernel
theorem dX11_sample_21 : decode cX11_sample 21 = .ok (.sipush 1000, 3) := by decide +kernel
theorem dX11_sample_24 : decode cX11_sample 24 = .ok (.ireturn, 1) := by decide +kernel
theorem dX11_sample_25 : decode cX11_sample 25 = .ok (.iload_n 2, 1) := by decide +kernel
theorem dX11_sample_26 : decode cX11_sample 26 = .ok (.aload_n 0, 1) := by decide +kernel
theorem dX11_sample_27 : decode cX11_sample 27 = .ok (.getfield 28, 3) := by decide +kernel
theorem dX11_sample_30 : decode cX11_sample 30 = .ok (.getfield 139, 3) := by decide +kernel
theorem dX11_sample_33 : decode cX11_sample 33 = .ok (.iload_n 1, 1) := by decide +kernel
theorem dX11_sample_34 : decode cX11_sample 34 = .ok (.invokevirtual 148, 3) := by decide +kernel
theorem dX11_sample_37 : decode cX11_sample 37 = .ok (.invokestatic 152, 3) := by decide +kernel
theorem dX11_sample_40 : decode cX11_sample 40 = .ok (.ireturn, 1) := by decide +kernel
theorem dX11_told_0 : decode cX11_told 0 = .ok (.iload_n 1, 1) := by decide +kernel
theorem dX11_told_1 : decode cX11_told 1 = .ok (.iconst 1, 1) := by decide +kernel
theorem dX11_told_2 : decode cX11_told 2 = .ok (.iconst 3, 1) := by decide +kernel
theorem dX11_told_3 : decode cX11_told 3 = .ok (.invokestatic 96, 3) := by decide +kernel
theorem dX11_told_6 : decode cX11_told 6 = .ok (.ifCond .eq 17, 3) := by decide +kernel
theorem dX11_told_9 : decode cX11_told 9 = .ok (.aload_n 0, 1) := by decide +kernel
theorem dX11_told_10 : decode cX11_told 10 = .ok (.getfield 28, 3) := by decide +kernel
theorem dX11_told_13 : decode cX11_told 13 = .ok (.getfield 100, 3) := by decide +kernel
theorem dX11_told_16 : decode cX11_told 16 = .ok (.iconst 1, 1) := by decide +kernel
theorem dX11_told_17 : decode cX11_told 17 = .ok (.if_icmp .eq 6, 3) := by decide +kernel
theorem dX11_told_20 : decode cX11_told 20 = .ok (.bipush (-4), 2) := by decide +kernel
theorem dX11_told_22 : decode cX11_told 22 = .ok (.ireturn, 1) := by decide +kernel
theorem dX11_told_23 : decode cX11_told 23 = .ok (.iload_n 1, 1) := by decide +kernel
theorem dX11_told_24 : decode cX11_told 24 = .ok (.tableswitch 145 0 9 #[56, 64, 72, 80, 88, 99, 110, 118, 126, 137], 56) := by decide +kernel
theorem dX11_told_80 : decode cX11_told 80 = .ok (.aload_n 0, 1) := by decide +kernel
theorem dX11_told_81 : decode cX11_told 81 = .ok (.getfield 28, 3) := by decide +kernel
theorem dX11_told_84 : decode cX11_told 84 = .ok (.getfield 100, 3) := by decide +kernel
theorem dX11_told_87 : decode cX11_told 87 = .ok (.ireturn, 1) := by decide +kernel
theorem dX11_told_88 : decode cX11_told 88 = .ok (.aload_n 0, 1) := by decide +kernel
theorem dX11_told_89 : decode cX11_told 89 = .ok (.getfield 28, 3) := by decide +kernel
theorem dX11_told_92 : decode cX11_told 92 = .ok (.getfield 155, 3) := by decide +kernel
theorem dX11_told_95 : decode cX11_told 95 = .ok (.ireturn, 1) := by decide +kernel
theorem dX11_told_96 : decode cX11_told 96 = .ok (.aload_n 0, 1) := by decide +kernel
theorem dX11_told_97 : decode cX11_told 97 = .ok (.getfield 28, 3) := by decide +kernel
theorem dX11_told_100 : decode cX11_told 100 = .ok (.getfield 158, 3) := by decide +kernel
theorem dX11_told_103 : decode cX11_told 103 = .ok (.ireturn, 1) := by decide +kernel
theorem dX11_told_104 : decode cX11_told 104 = .ok (.aload_n 0, 1) := by decide +kernel
theorem dX11_told_105 : decode cX11_told 105 = .ok (.getfield 28, 3) := by decide +kernel
theorem dX11_told_108 : decode cX11_told 108 = .ok (.getfield 161, 3) := by decide +kernel
theorem dX11_told_111 : decode cX11_told 111 = .ok (.ireturn, 1) := by decide +kernel
theorem dX11_told_112 : decode cX11_told 112 = .ok (.aload_n 0, 1) := by decide +kernel
theorem dX11_told_113 : decode cX11_told 113 = .ok (.getfield 28, 3) := by decide +kernel
theorem dX11_told_116 : decode cX11_told 116 = .ok (.getfield 139, 3) := by decide +kernel
theorem dX11_told_119 : decode cX11_told 119 = .ok (.getfield 164, 3) := by decide +kernel
theorem dX11_told_122 : decode cX11_told 122 = .ok (.ireturn, 1) := by decide +kernel
theorem dX11_told_123 : decode cX11_told 123 = .ok (.aload_n 0, 1) := by decide +kernel
theorem dX11_told_124 : decode cX11_told 124 = .ok (.getfield 28, 3) := by decide +kernel
theorem dX11_told_127 : decode cX11_told 127 = .ok (.getfield 109, 3) := by decide +kernel
theorem dX11_told_130 : decode cX11_told 130 = .ok (.getfield 126, 3) := by decide +kernel
theorem dX11_told_133 : decode cX11_told 133 = .ok (.ireturn, 1) := by decide +kernel
theorem dX11_told_134 : decode cX11_told 134 = .ok (.aload_n 0, 1) := by decide +kernel
theorem dX11_told_135 : decode cX11_told 135 = .ok (.getfield 28, 3) := by decide +kernel
theorem dX11_told_138 : decode cX11_told 138 = .ok (.getfield 103, 3) := by decide +kernel
theorem dX11_told_141 : decode cX11_told 141 = .ok (.ireturn, 1) := by decide +kernel
theorem dX11_told_142 : decode cX11_told 142 = .ok (.aload_n 0, 1) := by decide +kernel
theorem dX11_told_143 : decode cX11_told 143 = .ok (.getfield 28, 3) := by decide +kernel
theorem dX11_told_146 : decode cX11_told 146 = .ok (.getfield 106, 3) := by decide +kernel
theorem dX11_told_149 : decode cX11_told 149 = .ok (.ireturn, 1) := by decide +kernel
theorem dX11_told_150 : decode cX11_told 150 = .ok (.aload_n 0, 1) := by decide +kernel
theorem dX11_told_151 : decode cX11_told 151 = .ok (.getfield 28, 3) := by decide +kernel
theorem dX11_told_154 : decode cX11_told 154 = .ok (.getfield 85, 3) := by decide +kernel
theorem dX11_told_157 : decode cX11_told 157 = .ok (.getfield 88, 3) := by decide +kernel
theorem dX11_told_160 : decode cX11_told 160 = .ok (.ireturn, 1) := by decide +kernel
theorem dX11_told_161 : decode cX11_told 161 = .ok (.aload_n 0, 1) := by decide +kernel
theorem dX11_told_162 : decode cX11_told 162 = .ok (.getfield 28, 3) := by decide +kernel
theorem dX11_told_165 : decode cX11_told 165 = .ok (.getfield 165, 3) := by decide +kernel
theorem dX11_told_168 : decode cX11_told 168 = .ok (.ireturn, 1) := by decide +kernel
theorem dX11_told_169 : decode cX11_told 169 = .ok (.iconst (-1), 1) := by decide +kernel
theorem dX11_told_170 : decode cX11_told 170 = .ok (.ireturn, 1) := by decide +kernel
theorem dX11_segment_0 : decode cX11_segment 0 = .ok (.aload_n 0, 1) := by decide +kernel
theorem dX11_segment_1 : decode cX11_segment 1 = .ok (.getfield 28, 3) := by decide +kernel
theorem dX11_segment_4 : decode cX11_segment 4 = .ok (.getfield 109, 3) := by decide +kernel
theorem dX11_segment_7 : decode cX11_segment 7 = .ok (.iload_n 1, 1) := by decide +kernel
theorem dX11_segment_8 : decode cX11_segment 8 = .ok (.invokevirtual 168, 3) := by decide +kernel
theorem dX11_segment_11 : decode cX11_segment 11 = .ok (.ifCond .ne 5, 3) := by decide +kernel
theorem dX11_segment_14 : decode cX11_segment 14 = .ok (.iconst (-1), 1) := by decide +kernel
theorem dX11_segment_15 : decode cX11_segment 15 = .ok (.ireturn, 1) := by decide +kernel
theorem dX11_segment_16 : decode cX11_segment 16 = .ok (.aload_n 0, 1) := by decide +kernel
theorem dX11_segment_17 : decode cX11_segment 17 = .ok (.getfield 28, 3) := by decide +kernel
theorem dX11_segment_20 : decode cX11_segment 20 = .ok (.getfield 109, 3) := by decide +kernel
theorem dX11_segment_23 : decode cX11_segment 23 = .ok (.iload_n 1, 1) := by decide +kernel
theorem dX11_segment_24 : decode cX11_segment 24 = .ok (.invokevirtual 169, 3) := by decide +kernel
theorem dX11_segment_27 : decode cX11_segment 27 = .ok (.astore_n 3, 1) := by decide +kernel
theorem dX11_segment_28 : decode cX11_segment 28 = .ok (.iload_n 2, 1) := by decide +kernel
theorem dX11_segment_29 : decode cX11_segment 29 = .ok (.tableswitch 42 0 2 #[27, 32, 37], 27) := by decide +kernel
theorem dX11_segment_56 : decode cX11_segment 56 = .ok (.aload_n 3, 1) := by decide +kernel
theorem dX11_segment_57 : decode cX11_segment 57 = .ok (.getfield 172, 3) := by decide +kernel
theorem dX11_segment_60 : decode cX11_segment 60 = .ok (.ireturn, 1) := by decide +kernel
theorem dX11_segment_61 : decode cX11_segment 61 = .ok (.aload_n 3, 1) := by decide +kernel
theorem dX11_segment_62 : decode cX11_segment 62 = .ok (.getfield 177, 3) := by decide +kernel
theorem dX11_segment_65 : decode cX11_segment 65 = .ok (.ireturn, 1) := by decide +kernel
theorem dX11_segment_66 : decode cX11_segment 66 = .ok (.aload_n 3, 1) := by decide +kernel
theorem dX11_segment_67 : decode cX11_segment 67 = .ok (.getfield 178, 3) := by decide +kernel
theorem dX11_segment_70 : decode cX11_segment 70 = .ok (.ireturn, 1) := by decide +kernel
theorem dX11_segment_71 : decode cX11_segment 71 = .ok (.iconst (-1), 1) := by decide +kernel
theorem dX11_segment_72 : decode cX11_segment 72 = .ok (.ireturn, 1) := by decide +kernel
theorem dX11_at_0 : decode cX11_at 0 = .ok (.aload_n 0, 1) := by decide +kernel
theorem dX11_at_1 : decode cX11_at 1 = .ok (.iload_n 1, 1) := by decide +kernel
theorem dX11_at_2 : decode cX11_at 2 = .ok (.iload_n 2, 1) := by decide +kernel
theorem dX11_at_3 : decode cX11_at 3 = .ok (.invokevirtual 181, 3) := by decide +kernel
theorem dX11_at_6 : decode cX11_at 6 = .ok (.ifCond .ne 7, 3) := by decide +kernel
theorem dX11_at_9 : decode cX11_at 9 = .ok (.sipush 1000, 3) := by decide +kernel
theorem dX11_at_12 : decode cX11_at 12 = .ok (.ireturn, 1) := by decide +kernel
theorem dX11_at_13 : decode cX11_at 13 = .ok (.aload_n 0, 1) := by decide +kernel
theorem dX11_at_14 : decode cX11_at 14 = .ok (.getfield 28, 3) := by decide +kernel
theorem dX11_at_17 : decode cX11_at 17 = .ok (.getfield 109, 3) := by decide +kernel
theorem dX11_at_20 : decode cX11_at 20 = .ok (.iload_n 1, 1) := by decide +kernel
theorem dX11_at_21 : decode cX11_at 21 = .ok (.invokevirtual 169, 3) := by decide +kernel
theorem dX11_at_24 : decode cX11_at 24 = .ok (.astore 4, 2) := by decide +kernel
theorem dX11_at_26 : decode cX11_at 26 = .ok (.aload 4, 2) := by decide +kernel
theorem dX11_at_28 : decode cX11_at 28 = .ok (.iload_n 3, 1) := by decide +kernel
theorem dX11_at_29 : decode cX11_at 29 = .ok (.invokevirtual 185, 3) := by decide +kernel
theorem dX11_at_32 : decode cX11_at 32 = .ok (.ifCond .eq 13, 3) := by decide +kernel
theorem dX11_at_35 : decode cX11_at 35 = .ok (.aload 4, 2) := by decide +kernel
theorem dX11_at_37 : decode cX11_at 37 = .ok (.iload_n 2, 1) := by decide +kernel
theorem dX11_at_38 : decode cX11_at 38 = .ok (.iload_n 3, 1) := by decide +kernel
theorem dX11_at_39 : decode cX11_at 39 = .ok (.invokevirtual 186, 3) := by decide +kernel
theorem dX11_at_42 : decode cX11_at 42 = .ok (.goto 6, 3) := by decide +kernel
theorem dX11_at_45 : decode cX11_at 45 = .ok (.sipush 1000, 3) := by decide +kernel
theorem dX11_at_48 : decode cX11_at 48 = .ok (.ireturn, 1) := by decide +kernel
theorem dX11_drop_0 : decode cX11_drop 0 = .ok (.aload_n 0, 1) := by decide +kernel
theorem dX11_drop_1 : decode cX11_drop 1 = .ok (.getfield 28, 3) := by decide +kernel
theorem dX11_drop_4 : decode cX11_drop 4 = .ok (.getfield 109, 3) := by decide +kernel
theorem dX11_drop_7 : decode cX11_drop 7 = .ok (.invokevirtual 189, 3) := by decide +kernel
theorem dX11_drop_10 : decode cX11_drop 10 = .ok (.ifCond .eq 16, 3) := by decide +kernel
theorem dX11_drop_13 : decode cX11_drop 13 = .ok (.aload_n 0, 1) := by decide +kernel
theorem dX11_drop_14 : decode cX11_drop 14 = .ok (.getfield 28, 3) := by decide +kernel
theorem dX11_drop_17 : decode cX11_drop 17 = .ok (.getfield 109, 3) := by decide +kernel
theorem dX11_drop_20 : decode cX11_drop 20 = .ok (.getfield 126, 3) := by decide +kernel
theorem dX11_drop_23 : decode cX11_drop 23 = .ok (.goto 5, 3) := by decide +kernel
theorem dX11_drop_26 : decode cX11_drop 26 = .ok (.bipush (-4), 2) := by decide +kernel
theorem dX11_drop_28 : decode cX11_drop 28 = .ok (.ireturn, 1) := by decide +kernel
theorem dX11_sheet_0 : decode cX11_sheet 0 = .ok (.iload_n 1, 1) := by decide +kernel
theorem dX11_sheet_1 : decode cX11_sheet 1 = .ok (.iconst 0, 1) := by decide +kernel
theorem dX11_sheet_2 : decode cX11_sheet 2 = .ok (.iconst 3, 1) := by decide +kernel
theorem dX11_sheet_3 : decode cX11_sheet 3 = .ok (.invokestatic 96, 3) := by decide +kernel
theorem dX11_sheet_6 : decode cX11_sheet 6 = .ok (.ifCond .eq 18, 3) := by decide +kernel
theorem dX11_sheet_9 : decode cX11_sheet 9 = .ok (.iload_n 2, 1) := by decide +kernel
theorem dX11_sheet_10 : decode cX11_sheet 10 = .ok (.iconst 0, 1) := by decide +kernel
theorem dX11_sheet_11 : decode cX11_sheet 11 = .ok (.iconst 2, 1) := by decide +kernel
theorem dX11_sheet_12 : decode cX11_sheet 12 = .ok (.invokestatic 96, 3) := by decide +kernel
theorem dX11_sheet_15 : decode cX11_sheet 15 = .ok (.ifCond .eq 9, 3) := by decide +kernel
theorem dX11_sheet_18 : decode cX11_sheet 18 = .ok (.iload_n 3, 1) := by decide +kernel
theorem dX11_sheet_19 : decode cX11_sheet 19 = .ok (.bipush 64, 2) := by decide +kernel
theorem dX11_sheet_21 : decode cX11_sheet 21 = .ok (.if_icmp .le 5, 3) := by decide +kernel
theorem dX11_sheet_24 : decode cX11_sheet 24 = .ok (.iconst (-1), 1) := by decide +kernel
theorem dX11_sheet_25 : decode cX11_sheet 25 = .ok (.ireturn, 1) := by decide +kernel
theorem dX11_sheet_26 : decode cX11_sheet 26 = .ok (.iload_n 3, 1) := by decide +kernel
theorem dX11_sheet_27 : decode cX11_sheet 27 = .ok (.ifCond .ge 6, 3) := by decide +kernel
theorem dX11_sheet_30 : decode cX11_sheet 30 = .ok (.bipush (-14), 2) := by decide +kernel
theorem dX11_sheet_32 : decode cX11_sheet 32 = .ok (.ireturn, 1) := by decide +kernel
theorem dX11_sheet_33 : decode cX11_sheet 33 = .ok (.aload_n 0, 1) := by decide +kernel
theorem dX11_sheet_34 : decode cX11_sheet 34 = .ok (.getfield 34, 3) := by decide +kernel
theorem dX11_sheet_37 : decode cX11_sheet 37 = .ok (.iload_n 1, 1) := by decide +kernel
theorem dX11_sheet_38 : decode cX11_sheet 38 = .ok (.aaload, 1) := by decide +kernel
theorem dX11_sheet_39 : decode cX11_sheet 39 = .ok (.iload_n 2, 1) := by decide +kernel
theorem dX11_sheet_40 : decode cX11_sheet 40 = .ok (.iload_n 3, 1) := by decide +kernel
theorem dX11_sheet_41 : decode cX11_sheet 41 = .ok (.invokevirtual 192, 3) := by decide +kernel
theorem dX11_sheet_44 : decode cX11_sheet 44 = .ok (.iconst 1, 1) := by decide +kernel
theorem dX11_sheet_45 : decode cX11_sheet 45 = .ok (.ireturn, 1) := by decide +kernel
theorem dX11_lay_0 : decode cX11_lay 0 = .ok (.iload_n 1, 1) := by decide +kernel
theorem dX11_lay_1 : decode cX11_lay 1 = .ok (.iconst 0, 1) := by decide +kernel
theorem dX11_lay_2 : decode cX11_lay 2 = .ok (.iconst 3, 1) := by decide +kernel
theorem dX11_lay_3 : decode cX11_lay 3 = .ok (.invokestatic 96, 3) := by decide +kernel
theorem dX11_lay_6 : decode cX11_lay 6 = .ok (.ifCond .ne 5, 3) := by decide +kernel
theorem dX11_lay_9 : decode cX11_lay 9 = .ok (.iconst (-1), 1) := by decide +kernel
theorem dX11_lay_10 : decode cX11_lay 10 = .ok (.ireturn, 1) := by decide +kernel
theorem dX11_lay_11 : decode cX11_lay 11 = .ok (.aload_n 0, 1) := by decide +kernel
theorem dX11_lay_12 : decode cX11_lay 12 = .ok (.getfield 34, 3) := by decide +kernel
theorem dX11_lay_15 : decode cX11_lay 15 = .ok (.iload_n 1, 1) := by decide +kernel
theorem dX11_lay_16 : decode cX11_lay 16 = .ok (.aaload, 1) := by decide +kernel
theorem dX11_lay_17 : decode cX11_lay 17 = .ok (.astore 4, 2) := by decide +kernel
theorem dX11_lay_19 : decode cX11_lay 19 = .ok (.aload 4, 2) := by decide +kernel
theorem dX11_lay_21 : decode cX11_lay 21 = .ok (.invokevirtual 196, 3) := by decide +kernel
theorem dX11_lay_24 : decode cX11_lay 24 = .ok (.ifCond .eq 6, 3) := by decide +kernel
theorem dX11_lay_27 : decode cX11_lay 27 = .ok (.bipush (-11), 2) := by decide +kernel
theorem dX11_lay_29 : decode cX11_lay 29 = .ok (.ireturn, 1) := by decide +kernel
theorem dX11_lay_30 : decode cX11_lay 30 = .ok (.aload 4, 2) := by decide +kernel
theorem dX11_lay_32 : decode cX11_lay 32 = .ok (.iload_n 2, 1) := by decide +kernel
theorem dX11_lay_33 : decode cX11_lay 33 = .ok (.invokevirtual 199, 3) := by decide +kernel
theorem dX11_lay_36 : decode cX11_lay 36 = .ok (.ifCond .ne 6, 3) := by decide +kernel
theorem dX11_lay_39 : decode cX11_lay 39 = .ok (.bipush (-12), 2) := by decide +kernel
theorem dX11_lay_41 : decode cX11_lay 41 = .ok (.ireturn, 1) := by decide +kernel
theorem dX11_lay_42 : decode cX11_lay 42 = .ok (.aload 4, 2) := by decide +kernel
theorem dX11_lay_44 : decode cX11_lay 44 = .ok (.iload_n 2, 1) := by decide +kernel
theorem dX11_lay_45 : decode cX11_lay 45 = .ok (.iload_n 3, 1) := by decide +kernel
theorem dX11_lay_46 : decode cX11_lay 46 = .ok (.invokevirtual 200, 3) := by decide +kernel
theorem dX11_lay_49 : decode cX11_lay 49 = .ok (.iconst 1, 1) := by decide +kernel
theorem dX11_lay_50 : decode cX11_lay 50 = .ok (.ireturn, 1) := by decide +kernel
theorem dX11_mask_0 : decode cX11_mask 0 = .ok (.aload_n 0, 1) := by decide +kernel
theorem dX11_mask_1 : decode cX11_mask 1 = .ok (.iload_n 1, 1) := by decide +kernel
theorem dX11_mask_2 : decode cX11_mask 2 = .ok (.iload_n 2, 1) := by decide +kernel
theorem dX11_mask_3 : decode cX11_mask 3 = .ok (.invokevirtual 181, 3) := by decide +kernel
theorem dX11_mask_6 : decode cX11_mask 6 = .ok (.ifCond .eq 27, 3) := by decide +kernel
theorem dX11_mask_9 : decode cX11_mask 9 = .ok (.iload_n 3, 1) := by decide +kernel
theorem dX11_mask_10 : decode cX11_mask 10 = .ok (.iconst 0, 1) := by decide +kernel
theorem dX11_mask_11 : decode cX11_mask 11 = .ok (.iconst 3, 1) := by decide +kernel
theorem dX11_mask_12 : decode cX11_mask 12 = .ok (.invokestatic 96, 3) := by decide +kernel
theorem dX11_mask_15 : decode cX11_mask 15 = .ok (.ifCond .eq 18, 3) := by decide +kernel
theorem dX11_mask_18 : decode cX11_mask 18 = .ok (.iload 4, 2) := by decide +kernel
theorem dX11_mask_20 : decode cX11_mask 20 = .ok (.iconst 0, 1) := by decide +kernel
theorem dX11_mask_21 : decode cX11_mask 21 = .ok (.iconst 2, 1) := by decide +kernel
theorem dX11_mask_22 : decode cX11_mask 22 = .ok (.invokestatic 96, 3) := by decide +kernel
theorem dX11_mask_25 : decode cX11_mask 25 = .ok (.ifCond .eq 8, 3) := by decide +kernel
theorem dX11_mask_28 : decode cX11_mask 28 = .ok (.iload 6, 2) := by decide +kernel
theorem dX11_mask_30 : decode cX11_mask 30 = .ok (.ifCond .ge 5, 3) := by decide +kernel
theorem dX11_mask_33 : decode cX11_mask 33 = .ok (.iconst (-1), 1) := by decide +kernel
theorem dX11_mask_34 : decode cX11_mask 34 = .ok (.ireturn, 1) := by decide +kernel
theorem dX11_mask_35 : decode cX11_mask 35 = .ok (.aload_n 0, 1) := by decide +kernel
theorem dX11_mask_36 : decode cX11_mask 36 = .ok (.getfield 34, 3) := by decide +kernel
theorem dX11_mask_39 : decode cX11_mask 39 = .ok (.iload_n 3, 1) := by decide +kernel
theorem dX11_mask_40 : decode cX11_mask 40 = .ok (.aaload, 1) := by decide +kernel
theorem dX11_mask_41 : decode cX11_mask 41 = .ok (.astore 7, 2) := by decide +kernel
theorem dX11_mask_43 : decode cX11_mask 43 = .ok (.aload 7, 2) := by decide +kernel
theorem dX11_mask_45 : decode cX11_mask 45 = .ok (.iload 4, 2) := by decide +kernel
theorem dX11_mask_47 : decode cX11_mask 47 = .ok (.iload 6, 2) := by decide +kernel
theorem dX11_mask_49 : decode cX11_mask 49 = .ok (.invokevirtual 203, 3) := by decide +kernel
theorem dX11_mask_52 : decode cX11_mask 52 = .ok (.istore 8, 2) := by decide +kernel
theorem dX11_mask_54 : decode cX11_mask 54 = .ok (.iload 8, 2) := by decide +kernel
theorem dX11_mask_56 : decode cX11_mask 56 = .ok (.ifCond .eq 9, 3) := by decide +kernel
theorem dX11_mask_59 : decode cX11_mask 59 = .ok (.bipush (-10), 2) := by decide +kernel
theorem dX11_mask_61 : decode cX11_mask 61 = .ok (.iload 8, 2) := by decide +kernel
theorem dX11_mask_63 : decode cX11_mask 63 = .ok (.isub, 1) := by decide +kernel
theorem dX11_mask_64 : decode cX11_mask 64 = .ok (.ireturn, 1) := by decide +kernel
theorem dX11_mask_65 : decode cX11_mask 65 = .ok (.aload_n 0, 1) := by decide +kernel
theorem dX11_mask_66 : decode cX11_mask 66 = .ok (.getfield 28, 3) := by decide +kernel
theorem dX11_mask_69 : decode cX11_mask 69 = .ok (.getfield 109, 3) := by decide +kernel
theorem dX11_mask_72 : decode cX11_mask 72 = .ok (.iload_n 1, 1) := by decide +kernel
theorem dX11_mask_73 : decode cX11_mask 73 = .ok (.invokevirtual 169, 3) := by decide +kernel
theorem dX11_mask_76 : decode cX11_mask 76 = .ok (.astore 9, 2) := by decide +kernel
theorem dX11_mask_78 : decode cX11_mask 78 = .ok (.iconst 0, 1) := by decide +kernel
theorem dX11_mask_79 : decode cX11_mask 79 = .ok (.istore 10, 2) := by decide +kernel
theorem dX11_mask_81 : decode cX11_mask 81 = .ok (.aload_n 0, 1) := by decide +kernel
theorem dX11_mask_82 : decode cX11_mask 82 = .ok (.bipush (-4), 2) := by decide +kernel
theorem dX11_mask_84 : decode cX11_mask 84 = .ok (.putfield 53, 3) := by decide +kernel
theorem dX11_mask_87 : decode cX11_mask 87 = .ok (.iconst 0, 1) := by decide +kernel
theorem dX11_mask_88 : decode cX11_mask 88 = .ok (.istore 11, 2) := by decide +kernel
theorem dX11_mask_90 : decode cX11_mask 90 = .ok (.iload 11, 2) := by decide +kernel
theorem dX11_mask_92 : decode cX11_mask 92 = .ok (.iload 6, 2) := by decide +kernel
theorem dX11_mask_94 : decode cX11_mask 94 = .ok (.if_icmp .ge 58, 3) := by decide +kernel
theorem dX11_mask_97 : decode cX11_mask 97 = .ok (.iload 5, 2) := by decide +kernel
theorem dX11_mask_99 : decode cX11_mask 99 = .ok (.iload 11, 2) := by decide +kernel
theorem dX11_mask_101 : decode cX11_mask 101 = .ok (.iadd, 1) := by decide +kernel
theorem dX11_mask_102 : decode cX11_mask 102 = .ok (.istore 12, 2) := by decide +kernel
theorem dX11_mask_104 : decode cX11_mask 104 = .ok (.aload 9, 2) := by decide +kernel
theorem dX11_mask_106 : decode cX11_mask 106 = .ok (.iload 12, 2) := by decide +kernel
theorem dX11_mask_108 : decode cX11_mask 108 = .ok (.invokevirtual 185, 3) := by decide +kernel
theorem dX11_mask_111 : decode cX11_mask 111 = .ok (.ifCond .eq 35, 3) := by decide +kernel
theorem dX11_mask_114 : decode cX11_mask 114 = .ok (.aload 7, 2) := by decide +kernel
theorem dX11_mask_116 : decode cX11_mask 116 = .ok (.iload 11, 2) := by decide +kernel
theorem dX11_mask_118 : decode cX11_mask 118 = .ok (.aload 9, 2) := by decide +kernel
theorem dX11_mask_120 : decode cX11_mask 120 = .ok (.iload_n 2, 1) := by decide +kernel
theorem dX11_mask_121 : decode cX11_mask 121 = .ok (.iload 12, 2) := by decide +kernel
theorem dX11_mask_123 : decode cX11_mask 123 = .ok (.invokevirtual 186, 3) := by decide +kernel
theorem dX11_mask_126 : decode cX11_mask 126 = .ok (.invokevirtual 206, 3) := by decide +kernel
theorem dX11_mask_129 : decode cX11_mask 129 = .ok (.ifCond .ne 17, 3) := by decide +kernel
theorem dX11_mask_132 : decode cX11_mask 132 = .ok (.iload 10, 2) := by decide +kernel
theorem dX11_mask_134 : decode cX11_mask 134 = .ok (.ifCond .ne 9, 3) := by decide +kernel
theorem dX11_mask_137 : decode cX11_mask 137 = .ok (.aload_n 0, 1) := by decide +kernel
theorem dX11_mask_138 : decode cX11_mask 138 = .ok (.iload 12, 2) := by decide +kernel
theorem dX11_mask_140 : decode cX11_mask 140 = .ok (.putfield 53, 3) := by decide +kernel
theorem dX11_mask_143 : decode cX11_mask 143 = .ok (.iinc 10 1, 3) := by decide +kernel
theorem dX11_mask_146 : decode cX11_mask 146 = .ok (.iinc 11 1, 3) := by decide +kernel
theorem dX11_mask_149 : decode cX11_mask 149 = .ok (.goto (-59), 3) := by decide +kernel
theorem dX11_mask_152 : decode cX11_mask 152 = .ok (.iload 10, 2) := by decide +kernel
theorem dX11_mask_154 : decode cX11_mask 154 = .ok (.ireturn, 1) := by decide +kernel
theorem dX11_first_0 : decode cX11_first 0 = .ok (.aload_n 0, 1) := by decide +kernel
theorem dX11_first_1 : decode cX11_first 1 = .ok (.getfield 53, 3) := by decide +kernel
theorem dX11_first_4 : decode cX11_first 4 = .ok (.ireturn, 1) := by decide +kernel
theorem dX11_row_0 : decode cX11_row 0 = .ok (.iload_n 1, 1) := by decide +kernel
theorem dX11_row_1 : decode cX11_row 1 = .ok (.iconst 0, 1) := by decide +kernel
theorem dX11_row_2 : decode cX11_row 2 = .ok (.iconst 3, 1) := by decide +kernel
theorem dX11_row_3 : decode cX11_row 3 = .ok (.invokestatic 96, 3) := by decide +kernel
theorem dX11_row_6 : decode cX11_row 6 = .ok (.ifCond .eq 12, 3) := by decide +kernel
theorem dX11_row_9 : decode cX11_row 9 = .ok (.aload_n 0, 1) := by decide +kernel
theorem dX11_row_10 : decode cX11_row 10 = .ok (.iload_n 2, 1) := by decide +kernel
theorem dX11_row_11 : decode cX11_row 11 = .ok (.iload_n 3, 1) := by decide +kernel
theorem dX11_row_12 : decode cX11_row 12 = .ok (.invokevirtual 181, 3) := by decide +kernel
theorem dX11_row_15 : decode cX11_row 15 = .ok (.ifCond .ne 5, 3) := by decide +kernel
theorem dX11_row_18 : decode cX11_row 18 = .ok (.iconst (-1), 1) := by decide +kernel
theorem dX11_row_19 : decode cX11_row 19 = .ok (.ireturn, 1) := by decide +kernel
theorem dX11_row_20 : decode cX11_row 20 = .ok (.aload_n 0, 1) := by decide +kernel
theorem dX11_row_21 : decode cX11_row 21 = .ok (.getfield 41, 3) := by decide +kernel
theorem dX11_row_24 : decode cX11_row 24 = .ok (.iload_n 1, 1) := by decide +kernel
theorem dX11_row_25 : decode cX11_row 25 = .ok (.aaload, 1) := by decide +kernel
theorem dX11_row_26 : decode cX11_row 26 = .ok (.aload_n 0, 1) := by decide +kernel
theorem dX11_row_27 : decode cX11_row 27 = .ok (.getfield 28, 3) := by decide +kernel
theorem dX11_row_30 : decode cX11_row 30 = .ok (.getfield 109, 3) := by decide +kernel
theorem dX11_row_33 : decode cX11_row 33 = .ok (.iload_n 2, 1) := by decide +kernel
theorem dX11_row_34 : decode cX11_row 34 = .ok (.invokevirtual 169, 3) := by decide +kernel
theorem dX11_row_37 : decode cX11_row 37 = .ok (.iload_n 3, 1) := by decide +kernel
theorem dX11_row_38 : decode cX11_row 38 = .ok (.invokevirtual 209, 3) := by decide +kernel
theorem dX11_row_41 : decode cX11_row 41 = .ok (.aload_n 0, 1) := by decide +kernel
theorem dX11_row_42 : decode cX11_row 42 = .ok (.getfield 41, 3) := by decide +kernel
theorem dX11_row_45 : decode cX11_row 45 = .ok (.iload_n 1, 1) := by decide +kernel
theorem dX11_row_46 : decode cX11_row 46 = .ok (.aaload, 1) := by decide +kernel
theorem dX11_row_47 : decode cX11_row 47 = .ok (.getfield 130, 3) := by decide +kernel
theorem dX11_row_50 : decode cX11_row 50 = .ok (.ireturn, 1) := by decide +kernel
theorem dX11_reckon_0 : decode cX11_reckon 0 = .ok (.iload_n 1, 1) := by decide +kernel
theorem dX11_reckon_1 : decode cX11_reckon 1 = .ok (.iconst 0, 1) := by decide +kernel
theorem dX11_reckon_2 : decode cX11_reckon 2 = .ok (.iconst 3, 1) := by decide +kernel
theorem dX11_reckon_3 : decode cX11_reckon 3 = .ok (.invokestatic 96, 3) := by decide +kernel
theorem dX11_reckon_6 : decode cX11_reckon 6 = .ok (.ifCond .eq 21, 3) := by decide +kernel
theorem dX11_reckon_9 : decode cX11_reckon 9 = .ok (.iload_n 2, 1) := by decide +kernel
theorem dX11_reckon_10 : decode cX11_reckon 10 = .ok (.iconst 0, 1) := by decide +kernel
theorem dX11_reckon_11 : decode cX11_reckon 11 = .ok (.bipush 7, 2) := by decide +kernel
theorem dX11_reckon_13 : decode cX11_reckon 13 = .ok (.invokestatic 96, 3) := by decide +kernel
theorem dX11_reckon_16 : decode cX11_reckon 16 = .ok (.ifCond .eq 11, 3) := by decide +kernel
theorem dX11_reckon_19 : decode cX11_reckon 19 = .ok (.aload_n 0, 1) := by decide +kernel
theorem dX11_reckon_20 : decode cX11_reckon 20 = .ok (.iload_n 3, 1) := by decide +kernel
theorem dX11_reckon_21 : decode cX11_reckon 21 = .ok (.invokevirtual 213, 3) := by decide +kernel
theorem dX11_reckon_24 : decode cX11_reckon 24 = .ok (.ifCond .ne 5, 3) := by decide +kernel
theorem dX11_reckon_27 : decode cX11_reckon 27 = .ok (.iconst (-1), 1) := by decide +kernel
theorem dX11_reckon_28 : decode cX11_reckon 28 = .ok (.ireturn, 1) := by decide +kernel
theorem dX11_reckon_29 : decode cX11_reckon 29 = .ok (.iload_n 2, 1) := by decide +kernel
theorem dX11_reckon_30 : decode cX11_reckon 30 = .ok (.iconst 3, 1) := by decide +kernel
theorem dX11_reckon_31 : decode cX11_reckon 31 = .ok (.if_icmp .eq 8, 3) := by decide +kernel
theorem dX11_reckon_34 : decode cX11_reckon 34 = .ok (.iload_n 2, 1) := by decide +kernel
theorem dX11_reckon_35 : decode cX11_reckon 35 = .ok (.iconst 4, 1) := by decide +kernel
theorem dX11_reckon_36 : decode cX11_reckon 36 = .ok (.if_icmp .ne 7, 3) := by decide +kernel
theorem dX11_reckon_39 : decode cX11_reckon 39 = .ok (.iconst 1, 1) := by decide +kernel
theorem dX11_reckon_40 : decode cX11_reckon 40 = .ok (.goto 4, 3) := by decide +kernel
theorem dX11_reckon_43 : decode cX11_reckon 43 = .ok (.iconst 0, 1) := by decide +kernel
theorem dX11_reckon_44 : decode cX11_reckon 44 = .ok (.istore 6, 2) := by decide +kernel
theorem dX11_reckon_46 : decode cX11_reckon 46 = .ok (.iload 6, 2) := by decide +kernel
theorem dX11_reckon_48 : decode cX11_reckon 48 = .ok (.ifCond .eq 17, 3) := by decide +kernel
theorem dX11_reckon_51 : decode cX11_reckon 51 = .ok (.iload 5, 2) := by decide +kernel
theorem dX11_reckon_53 : decode cX11_reckon 53 = .ok (.iconst 1, 1) := by decide +kernel
theorem dX11_reckon_54 : decode cX11_reckon 54 = .ok (.bipush 64, 2) := by decide +kernel
theorem dX11_reckon_56 : decode cX11_reckon 56 = .ok (.invokestatic 96, 3) := by decide +kernel
theorem dX11_reckon_59 : decode cX11_reckon 59 = .ok (.ifCond .ne 22, 3) := by decide +kernel
theorem dX11_reckon_62 : decode cX11_reckon 62 = .ok (.goto 17, 3) := by decide +kernel
theorem dX11_reckon_65 : decode cX11_reckon 65 = .ok (.iload 5, 2) := by decide +kernel
theorem dX11_reckon_67 : decode cX11_reckon 67 = .ok (.sipush (-1000), 3) := by decide +kernel
theorem dX11_reckon_70 : decode cX11_reckon 70 = .ok (.sipush 1000, 3) := by decide +kernel
theorem dX11_reckon_73 : decode cX11_reckon 73 = .ok (.invokestatic 96, 3) := by decide +kernel
theorem dX11_reckon_76 : decode cX11_reckon 76 = .ok (.ifCond .ne 5, 3) := by decide +kernel
theorem dX11_reckon_79 : decode cX11_reckon 79 = .ok (.iconst (-1), 1) := by decide +kernel
theorem dX11_reckon_80 : decode cX11_reckon 80 = .ok (.ireturn, 1) := by decide +kernel
theorem dX11_reckon_81 : decode cX11_reckon 81 = .ok (.iload_n 2, 1) := by decide +kernel
theorem dX11_reckon_82 : decode cX11_reckon 82 = .ok (.iconst 3, 1) := by decide +kernel
theorem dX11_reckon_83 : decode cX11_reckon 83 = .ok (.if_icmp .lt 24, 3) := by decide +kernel
theorem dX11_reckon_86 : decode cX11_reckon 86 = .ok (.aload_n 0, 1) := by decide +kernel
theorem dX11_reckon_87 : decode cX11_reckon 87 = .ok (.getfield 41, 3) := by decide +kernel
theorem dX11_reckon_90 : decode cX11_reckon 90 = .ok (.iload_n 1, 1) := by decide +kernel
theorem dX11_reckon_91 : decode cX11_reckon 91 = .ok (.aaload, 1) := by decide +kernel
theorem dX11_reckon_92 : decode cX11_reckon 92 = .ok (.iload_n 2, 1) := by decide +kernel
theorem dX11_reckon_93 : decode cX11_reckon 93 = .ok (.aload_n 0, 1) := by decide +kernel
theorem dX11_reckon_94 : decode cX11_reckon 94 = .ok (.getfield 41, 3) := by decide +kernel
theorem dX11_reckon_97 : decode cX11_reckon 97 = .ok (.iload_n 3, 1) := by decide +kernel
theorem dX11_reckon_98 : decode cX11_reckon 98 = .ok (.aaload, 1) := by decide +kernel
theorem dX11_reckon_99 : decode cX11_reckon 99 = .ok (.iload 5, 2) := by decide +kernel
theorem dX11_reckon_101 : decode cX11_reckon 101 = .ok (.invokevirtual 216, 3) := by decide +kernel
theorem dX11_reckon_104 : decode cX11_reckon 104 = .ok (.goto 40, 3) := by decide +kernel
theorem dX11_reckon_107 : decode cX11_reckon 107 = .ok (.aload_n 0, 1) := by decide +kernel
theorem dX11_reckon_108 : decode cX11_reckon 108 = .ok (.iload 4, 2) := by decide +kernel
theorem dX11_reckon_110 : decode cX11_reckon 110 = .ok (.invokevirtual 213, 3) := by decide +kernel
theorem dX11_reckon_113 : decode cX11_reckon 113 = .ok (.ifCond .eq 29, 3) := by decide +kernel
theorem dX11_reckon_116 : decode cX11_reckon 116 = .ok (.aload_n 0, 1) := by decide +kernel
theorem dX11_reckon_117 : decode cX11_reckon 117 = .ok (.getfield 41, 3) := by decide +kernel
theorem dX11_reckon_120 : decode cX11_reckon 120 = .ok (.iload_n 1, 1) := by decide +kernel
theorem dX11_reckon_121 : decode cX11_reckon 121 = .ok (.aaload, 1) := by decide +kernel
theorem dX11_reckon_122 : decode cX11_reckon 122 = .ok (.iload_n 2, 1) := by decide +kernel
theorem dX11_reckon_123 : decode cX11_reckon 123 = .ok (.aload_n 0, 1) := by decide +kernel
theorem dX11_reckon_124 : decode cX11_reckon 124 = .ok (.getfield 41, 3) := by decide +kernel
theorem dX11_reckon_127 : decode cX11_reckon 127 = .ok (.iload_n 3, 1) := by decide +kernel
theorem dX11_reckon_128 : decode cX11_reckon 128 = .ok (.aaload, 1) := by decide +kernel
theorem dX11_reckon_129 : decode cX11_reckon 129 = .ok (.aload_n 0, 1) := by decide +kernel
theorem dX11_reckon_130 : decode cX11_reckon 130 = .ok (.getfield 41, 3) := by decide +kernel
theorem dX11_reckon_133 : decode cX11_reckon 133 = .ok (.iload 4, 2) := by decide +kernel
theorem dX11_reckon_135 : decode cX11_reckon 135 = .ok (.aaload, 1) := by decide +kernel
theorem dX11_reckon_136 : decode cX11_reckon 136 = .ok (.invokevirtual 220, 3) := by decide +kernel
theorem dX11_reckon_139 : decode cX11_reckon 139 = .ok (.goto 5, 3) := by decide +kernel
theorem dX11_reckon_142 : decode cX11_reckon 142 = .ok (.iconst (-1), 1) := by decide +kernel
theorem dX11_reckon_143 : decode cX11_reckon 143 = .ok (.ireturn, 1) := by decide +kernel
theorem dX11_reckon_144 : decode cX11_reckon 144 = .ok (.aload_n 0, 1) := by decide +kernel
theorem dX11_reckon_145 : decode cX11_reckon 145 = .ok (.getfield 41, 3) := by decide +kernel
theorem dX11_reckon_148 : decode cX11_reckon 148 = .ok (.iload_n 1, 1) := by decide +kernel
theorem dX11_reckon_149 : decode cX11_reckon 149 = .ok (.aaload, 1) := by decide +kernel
theorem dX11_reckon_150 : decode cX11_reckon 150 = .ok (.getfield 130, 3) := by decide +kernel
theorem dX11_reckon_153 : decode cX11_reckon 153 = .ok (.ireturn, 1) := by decide +kernel
theorem dX11_place_0 : decode cX11_place 0 = .ok (.iload_n 1, 1) := by decide +kernel
theorem dX11_place_1 : decode cX11_place 1 = .ok (.iconst 0, 1) := by decide +kernel
theorem dX11_place_2 : decode cX11_place 2 = .ok (.iconst 3, 1) := by decide +kernel
theorem dX11_place_3 : decode cX11_place 3 = .ok (.invokestatic 96, 3) := by decide +kernel
theorem dX11_place_6 : decode cX11_place 6 = .ok (.ifCond .eq 16, 3) := by decide +kernel
theorem dX11_place_9 : decode cX11_place 9 = .ok (.aload_n 0, 1) := by decide +kernel
theorem dX11_place_10 : decode cX11_place 10 = .ok (.getfield 41, 3) := by decide +kernel
theorem dX11_place_13 : decode cX11_place 13 = .ok (.iload_n 1, 1) := by decide +kernel
theorem dX11_place_14 : decode cX11_place 14 = .ok (.aaload, 1) := by decide +kernel
theorem dX11_place_15 : decode cX11_place 15 = .ok (.iload_n 2, 1) := by decide +kernel
theorem dX11_place_16 : decode cX11_place 16 = .ok (.invokevirtual 131, 3) := by decide +kernel
theorem dX11_place_19 : decode cX11_place 19 = .ok (.goto 4, 3) := by decide +kernel
theorem dX11_place_22 : decode cX11_place 22 = .ok (.lconst 0, 1) := by decide +kernel
theorem dX11_place_23 : decode cX11_place 23 = .ok (.lreturn, 1) := by decide +kernel
theorem dX11_about_0 : decode cX11_about 0 = .ok (.aload_n 0, 1) := by decide +kernel
theorem dX11_about_1 : decode cX11_about 1 = .ok (.iload_n 1, 1) := by decide +kernel
theorem dX11_about_2 : decode cX11_about 2 = .ok (.invokevirtual 213, 3) := by decide +kernel
theorem dX11_about_5 : decode cX11_about 5 = .ok (.ifCond .ne 5, 3) := by decide +kernel
theorem dX11_about_8 : decode cX11_about 8 = .ok (.iconst (-1), 1) := by decide +kernel
theorem dX11_about_9 : decode cX11_about 9 = .ok (.ireturn, 1) := by decide +kernel
theorem dX11_about_10 : decode cX11_about 10 = .ok (.iload_n 2, 1) := by decide +kernel
theorem dX11_about_11 : decode cX11_about 11 = .ok (.tableswitch 83 0 4 #[33, 43, 53, 63, 73], 33) := by decide +kernel
theorem dX11_about_44 : decode cX11_about 44 = .ok (.aload_n 0, 1) := by decide +kernel
theorem dX11_about_45 : decode cX11_about 45 = .ok (.getfield 41, 3) := by decide +kernel
theorem dX11_about_48 : decode cX11_about 48 = .ok (.iload_n 1, 1) := by decide +kernel
theorem dX11_about_49 : decode cX11_about 49 = .ok (.aaload, 1) := by decide +kernel
theorem dX11_about_50 : decode cX11_about 50 = .ok (.getfield 130, 3) := by decide +kernel
theorem dX11_about_53 : decode cX11_about 53 = .ok (.ireturn, 1) := by decide +kernel
theorem dX11_about_54 : decode cX11_about 54 = .ok (.aload_n 0, 1) := by decide +kernel
theorem dX11_about_55 : decode cX11_about 55 = .ok (.getfield 41, 3) := by decide +kernel
theorem dX11_about_58 : decode cX11_about 58 = .ok (.iload_n 1, 1) := by decide +kernel
theorem dX11_about_59 : decode cX11_about 59 = .ok (.aaload, 1) := by decide +kernel
theorem dX11_about_60 : decode cX11_about 60 = .ok (.invokevirtual 224, 3) := by decide +kernel
theorem dX11_about_63 : decode cX11_about 63 = .ok (.ireturn, 1) := by decide +kernel
theorem dX11_about_64 : decode cX11_about 64 = .ok (.aload_n 0, 1) := by decide +kernel
theorem dX11_about_65 : decode cX11_about 65 = .ok (.getfield 41, 3) := by decide +kernel
theorem dX11_about_68 : decode cX11_about 68 = .ok (.iload_n 1, 1) := by decide +kernel
theorem dX11_about_69 : decode cX11_about 69 = .ok (.aaload, 1) := by decide +kernel
theorem dX11_about_70 : decode cX11_about 70 = .ok (.invokevirtual 228, 3) := by decide +kernel
theorem dX11_about_73 : decode cX11_about 73 = .ok (.ireturn, 1) := by decide +kernel
theorem dX11_about_74 : decode cX11_about 74 = .ok (.aload_n 0, 1) := by decide +kernel
theorem dX11_about_75 : decode cX11_about 75 = .ok (.getfield 41, 3) := by decide +kernel
theorem dX11_about_78 : decode cX11_about 78 = .ok (.iload_n 1, 1) := by decide +kernel
theorem dX11_about_79 : decode cX11_about 79 = .ok (.aaload, 1) := by decide +kernel
theorem dX11_about_80 : decode cX11_about 80 = .ok (.invokevirtual 231, 3) := by decide +kernel
theorem dX11_about_83 : decode cX11_about 83 = .ok (.ireturn, 1) := by decide +kernel
theorem dX11_about_84 : decode cX11_about 84 = .ok (.aload_n 0, 1) := by decide +kernel
theorem dX11_about_85 : decode cX11_about 85 = .ok (.getfield 41, 3) := by decide +kernel
theorem dX11_about_88 : decode cX11_about 88 = .ok (.iload_n 1, 1) := by decide +kernel
theorem dX11_about_89 : decode cX11_about 89 = .ok (.aaload, 1) := by decide +kernel
theorem dX11_about_90 : decode cX11_about 90 = .ok (.invokevirtual 234, 3) := by decide +kernel
theorem dX11_about_93 : decode cX11_about 93 = .ok (.ireturn, 1) := by decide +kernel
theorem dX11_about_94 : decode cX11_about 94 = .ok (.iconst (-1), 1) := by decide +kernel
theorem dX11_about_95 : decode cX11_about 95 = .ok (.ireturn, 1) := by decide +kernel
theorem dX11_total_0 : decode cX11_total 0 = .ok (.aload_n 0, 1) := by decide +kernel
theorem dX11_total_1 : decode cX11_total 1 = .ok (.iload_n 1, 1) := by decide +kernel
theorem dX11_total_2 : decode cX11_total 2 = .ok (.invokevirtual 213, 3) := by decide +kernel
theorem dX11_total_5 : decode cX11_total 5 = .ok (.ifCond .eq 27, 3) := by decide +kernel
theorem dX11_total_8 : decode cX11_total 8 = .ok (.aload_n 0, 1) := by decide +kernel
theorem dX11_total_9 : decode cX11_total 9 = .ok (.getfield 41, 3) := by decide +kernel
theorem dX11_total_12 : decode cX11_total 12 = .ok (.iload_n 1, 1) := by decide +kernel
theorem dX11_total_13 : decode cX11_total 13 = .ok (.aaload, 1) := by decide +kernel
theorem dX11_total_14 : decode cX11_total 14 = .ok (.iconst 0, 1) := by decide +kernel
theorem dX11_total_15 : decode cX11_total 15 = .ok (.aload_n 0, 1) := by decide +kernel
theorem dX11_total_16 : decode cX11_total 16 = .ok (.getfield 41, 3) := by decide +kernel
theorem dX11_total_19 : decode cX11_total 19 = .ok (.iload_n 1, 1) := by decide +kernel
theorem dX11_total_20 : decode cX11_total 20 = .ok (.aaload, 1) := by decide +kernel
theorem dX11_total_21 : decode cX11_total 21 = .ok (.getfield 130, 3) := by decide +kernel
theorem dX11_total_24 : decode cX11_total 24 = .ok (.iconst 1, 1) := by decide +kernel
theorem dX11_total_25 : decode cX11_total 25 = .ok (.isub, 1) := by decide +kernel
theorem dX11_total_26 : decode cX11_total 26 = .ok (.invokevirtual 237, 3) := by decide +kernel
theorem dX11_total_29 : decode cX11_total 29 = .ok (.goto 4, 3) := by decide +kernel
theorem dX11_total_32 : decode cX11_total 32 = .ok (.lconst 0, 1) := by decide +kernel
theorem dX11_total_33 : decode cX11_total 33 = .ok (.lreturn, 1) := by decide +kernel
theorem dX11_turns_0 : decode cX11_turns 0 = .ok (.aload_n 0, 1) := by decide +kernel
theorem dX11_turns_1 : decode cX11_turns 1 = .ok (.iload_n 1, 1) := by decide +kernel
theorem dX11_turns_2 : decode cX11_turns 2 = .ok (.invokevirtual 213, 3) := by decide +kernel
theorem dX11_turns_5 : decode cX11_turns 5 = .ok (.ifCond .eq 13, 3) := by decide +kernel
theorem dX11_turns_8 : decode cX11_turns 8 = .ok (.iload 4, 2) := by decide +kernel
theorem dX11_turns_10 : decode cX11_turns 10 = .ok (.iconst 0, 1) := by decide +kernel
theorem dX11_turns_11 : decode cX11_turns 11 = .ok (.iconst 4, 1) := by decide +kernel
theorem dX11_turns_12 : decode cX11_turns 12 = .ok (.invokestatic 96, 3) := by decide +kernel
theorem dX11_turns_15 : decode cX11_turns 15 = .ok (.ifCond .ne 5, 3) := by decide +kernel
theorem dX11_turns_18 : decode cX11_turns 18 = .ok (.iconst (-1), 1) := by decide +kernel
theorem dX11_turns_19 : decode cX11_turns 19 = .ok (.ireturn, 1) := by decide +kernel
theorem dX11_turns_20 : decode cX11_turns 20 = .ok (.aload_n 0, 1) := by decide +kernel
theorem dX11_turns_21 : decode cX11_turns 21 = .ok (.getfield 41, 3) := by decide +kernel
theorem dX11_turns_24 : decode cX11_turns 24 = .ok (.iload_n 1, 1) := by decide +kernel
theorem dX11_turns_25 : decode cX11_turns 25 = .ok (.aaload, 1) := by decide +kernel
theorem dX11_turns_26 : decode cX11_turns 26 = .ok (.lload_n 2, 1) := by decide +kernel
theorem dX11_turns_27 : decode cX11_turns 27 = .ok (.iload 4, 2) := by decide +kernel
theorem dX11_turns_29 : decode cX11_turns 29 = .ok (.invokevirtual 241, 3) := by decide +kernel
theorem dX11_turns_32 : decode cX11_turns 32 = .ok (.ireturn, 1) := by decide +kernel
theorem dX11_eye_0 : decode cX11_eye 0 = .ok (.aload_n 0, 1) := by decide +kernel
theorem dX11_eye_1 : decode cX11_eye 1 = .ok (.iload_n 1, 1) := by decide +kernel
theorem dX11_eye_2 : decode cX11_eye 2 = .ok (.invokevirtual 213, 3) := by decide +kernel
theorem dX11_eye_5 : decode cX11_eye 5 = .ok (.ifCond .eq 29, 3) := by decide +kernel
theorem dX11_eye_8 : decode cX11_eye 8 = .ok (.iload_n 2, 1) := by decide +kernel
theorem dX11_eye_9 : decode cX11_eye 9 = .ok (.ifCond .lt 25, 3) := by decide +kernel
theorem dX11_eye_12 : decode cX11_eye 12 = .ok (.iload_n 3, 1) := by decide +kernel
theorem dX11_eye_13 : decode cX11_eye 13 = .ok (.iconst 1, 1) := by decide +kernel
theorem dX11_eye_14 : decode cX11_eye 14 = .ok (.bipush 32, 2) := by decide +kernel
theorem dX11_eye_16 : decode cX11_eye 16 = .ok (.invokestatic 96, 3) := by decide +kernel
theorem dX11_eye_19 : decode cX11_eye 19 = .ok (.ifCond .eq 15, 3) := by decide +kernel
theorem dX11_eye_22 : decode cX11_eye 22 = .ok (.iload 4, 2) := by decide +kernel
theorem dX11_eye_24 : decode cX11_eye 24 = .ok (.iconst 0, 1) := by decide +kernel
theorem dX11_eye_25 : decode cX11_eye 25 = .ok (.iload_n 3, 1) := by decide +kernel
theorem dX11_eye_26 : decode cX11_eye 26 = .ok (.iconst 1, 1) := by decide +kernel
theorem dX11_eye_27 : decode cX11_eye 27 = .ok (.isub, 1) := by decide +kernel
theorem dX11_eye_28 : decode cX11_eye 28 = .ok (.invokestatic 96, 3) := by decide +kernel
theorem dX11_eye_31 : decode cX11_eye 31 = .ok (.ifCond .ne 5, 3) := by decide +kernel
theorem dX11_eye_34 : decode cX11_eye 34 = .ok (.iconst (-1), 1) := by decide +kernel
theorem dX11_eye_35 : decode cX11_eye 35 = .ok (.ireturn, 1) := by decide +kernel
theorem dX11_eye_36 : decode cX11_eye 36 = .ok (.iload 7, 2) := by decide +kernel
theorem dX11_eye_38 : decode cX11_eye 38 = .ok (.iconst 1, 1) := by decide +kernel
theorem dX11_eye_39 : decode cX11_eye 39 = .ok (.sipush 1000, 3) := by decide +kernel
theorem dX11_eye_42 : decode cX11_eye 42 = .ok (.invokestatic 96, 3) := by decide +kernel
theorem dX11_eye_45 : decode cX11_eye 45 = .ok (.ifCond .eq 14, 3) := by decide +kernel
theorem dX11_eye_48 : decode cX11_eye 48 = .ok (.iload 8, 2) := by decide +kernel
theorem dX11_eye_50 : decode cX11_eye 50 = .ok (.iconst 0, 1) := by decide +kernel
theorem dX11_eye_51 : decode cX11_eye 51 = .ok (.bipush 15, 2) := by decide +kernel
theorem dX11_eye_53 : decode cX11_eye 53 = .ok (.invokestatic 96, 3) := by decide +kernel
theorem dX11_eye_56 : decode cX11_eye 56 = .ok (.ifCond .ne 5, 3) := by decide +kernel
theorem dX11_eye_59 : decode cX11_eye 59 = .ok (.iconst (-1), 1) := by decide +kernel
theorem dX11_eye_60 : decode cX11_eye 60 = .ok (.ireturn, 1) := by decide +kernel
theorem dX11_eye_61 : decode cX11_eye 61 = .ok (.aload_n 0, 1) := by decide +kernel
theorem dX11_eye_62 : decode cX11_eye 62 = .ok (.getfield 41, 3) := by decide +kernel
theorem dX11_eye_65 : decode cX11_eye 65 = .ok (.iload_n 1, 1) := by decide +kernel
theorem dX11_eye_66 : decode cX11_eye 66 = .ok (.aaload, 1) := by decide +kernel
theorem dX11_eye_67 : decode cX11_eye 67 = .ok (.astore 9, 2) := by decide +kernel
theorem dX11_eye_69 : decode cX11_eye 69 = .ok (.iconst 0, 1) := by decide +kernel
theorem dX11_eye_70 : decode cX11_eye 70 = .ok (.istore 10, 2) := by decide +kernel
theorem dX11_eye_72 : decode cX11_eye 72 = .ok (.iload_n 2, 1) := by decide +kernel
theorem dX11_eye_73 : decode cX11_eye 73 = .ok (.istore 11, 2) := by decide +kernel
theorem dX11_eye_75 : decode cX11_eye 75 = .ok (.iload 11, 2) := by decide +kernel
theorem dX11_eye_77 : decode cX11_eye 77 = .ok (.aload 9, 2) := by decide +kernel
theorem dX11_eye_79 : decode cX11_eye 79 = .ok (.getfield 130, 3) := by decide +kernel
theorem dX11_eye_82 : decode cX11_eye 82 = .ok (.if_icmp .ge 39, 3) := by decide +kernel
theorem dX11_eye_85 : decode cX11_eye 85 = .ok (.iload 11, 2) := by decide +kernel
theorem dX11_eye_87 : decode cX11_eye 87 = .ok (.iload_n 2, 1) := by decide +kernel
theorem dX11_eye_88 : decode cX11_eye 88 = .ok (.isub, 1) := by decide +kernel
theorem dX11_eye_89 : decode cX11_eye 89 = .ok (.iload_n 3, 1) := by decide +kernel
theorem dX11_eye_90 : decode cX11_eye 90 = .ok (.irem, 1) := by decide +kernel
theorem dX11_eye_91 : decode cX11_eye 91 = .ok (.iload 4, 2) := by decide +kernel
theorem dX11_eye_93 : decode cX11_eye 93 = .ok (.if_icmp .ne 22, 3) := by decide +kernel
theorem dX11_eye_96 : decode cX11_eye 96 = .ok (.aload 9, 2) := by decide +kernel
theorem dX11_eye_98 : decode cX11_eye 98 = .ok (.iload 11, 2) := by decide +kernel
theorem dX11_eye_100 : decode cX11_eye 100 = .ok (.lload 5, 2) := by decide +kernel
theorem dX11_eye_102 : decode cX11_eye 102 = .ok (.iload 7, 2) := by decide +kernel
theorem dX11_eye_104 : decode cX11_eye 104 = .ok (.iload 8, 2) := by decide +kernel
theorem dX11_eye_106 : decode cX11_eye 106 = .ok (.invokevirtual 245, 3) := by decide +kernel
theorem dX11_eye_109 : decode cX11_eye 109 = .ok (.ifCond .eq 6, 3) := by decide +kernel
theorem dX11_eye_112 : decode cX11_eye 112 = .ok (.iinc 10 1, 3) := by decide +kernel
theorem dX11_eye_115 : decode cX11_eye 115 = .ok (.iinc 11 1, 3) := by decide +kernel
theorem dX11_eye_118 : decode cX11_eye 118 = .ok (.goto (-43), 3) := by decide +kernel
theorem dX11_eye_121 : decode cX11_eye 121 = .ok (.iload 10, 2) := by decide +kernel
theorem dX11_eye_123 : decode cX11_eye 123 = .ok (.ireturn, 1) := by decide +kernel
theorem dX11_bytes_0 : decode cX11_bytes 0 = .ok (.aload_n 0, 1) := by decide +kernel
theorem dX11_bytes_1 : decode cX11_bytes 1 = .ok (.iload_n 1, 1) := by decide +kernel
theorem dX11_bytes_2 : decode cX11_bytes 2 = .ok (.iload_n 2, 1) := by decide +kernel
theorem dX11_bytes_3 : decode cX11_bytes 3 = .ok (.invokevirtual 181, 3) := by decide +kernel
theorem dX11_bytes_6 : decode cX11_bytes 6 = .ok (.ifCond .eq 13, 3) := by decide +kernel
theorem dX11_bytes_9 : decode cX11_bytes 9 = .ok (.iload_n 3, 1) := by decide +kernel
theorem dX11_bytes_10 : decode cX11_bytes 10 = .ok (.iconst 2, 1) := by decide +kernel
theorem dX11_bytes_11 : decode cX11_bytes 11 = .ok (.bipush 16, 2) := by decide +kernel
theorem dX11_bytes_13 : decode cX11_bytes 13 = .ok (.invokestatic 96, 3) := by decide +kernel
theorem dX11_bytes_16 : decode cX11_bytes 16 = .ok (.ifCond .ne 5, 3) := by decide +kernel
theorem dX11_bytes_19 : decode cX11_bytes 19 = .ok (.iconst (-1), 1) := by decide +kernel
theorem dX11_bytes_20 : decode cX11_bytes 20 = .ok (.ireturn, 1) := by decide +kernel
theorem dX11_bytes_21 : decode cX11_bytes 21 = .ok (.aload_n 0, 1) := by decide +kernel
theorem dX11_bytes_22 : decode cX11_bytes 22 = .ok (.getfield 49, 3) := by decide +kernel
theorem dX11_bytes_25 : decode cX11_bytes 25 = .ok (.aload_n 0, 1) := by decide +kernel
theorem dX11_bytes_26 : decode cX11_bytes 26 = .ok (.getfield 28, 3) := by decide +kernel
theorem dX11_bytes_29 : decode cX11_bytes 29 = .ok (.getfield 109, 3) := by decide +kernel
theorem dX11_bytes_32 : decode cX11_bytes 32 = .ok (.iload_n 1, 1) := by decide +kernel
theorem dX11_bytes_33 : decode cX11_bytes 33 = .ok (.invokevirtual 169, 3) := by decide +kernel
theorem dX11_bytes_36 : decode cX11_bytes 36 = .ok (.iload_n 2, 1) := by decide +kernel
theorem dX11_bytes_37 : decode cX11_bytes 37 = .ok (.iload_n 3, 1) := by decide +kernel
theorem dX11_bytes_38 : decode cX11_bytes 38 = .ok (.invokevirtual 249, 3) := by decide +kernel
theorem dX11_bytes_41 : decode cX11_bytes 41 = .ok (.aload_n 0, 1) := by decide +kernel
theorem dX11_bytes_42 : decode cX11_bytes 42 = .ok (.getfield 49, 3) := by decide +kernel
theorem dX11_bytes_45 : decode cX11_bytes 45 = .ok (.getfield 253, 3) := by decide +kernel
theorem dX11_bytes_48 : decode cX11_bytes 48 = .ok (.ireturn, 1) := by decide +kernel
theorem dX11_wires_0 : decode cX11_wires 0 = .ok (.aload_n 0, 1) := by decide +kernel
theorem dX11_wires_1 : decode cX11_wires 1 = .ok (.iload_n 1, 1) := by decide +kernel
theorem dX11_wires_2 : decode cX11_wires 2 = .ok (.iload_n 2, 1) := by decide +kernel
theorem dX11_wires_3 : decode cX11_wires 3 = .ok (.invokevirtual 181, 3) := by decide +kernel
theorem dX11_wires_6 : decode cX11_wires 6 = .ok (.ifCond .eq 15, 3) := by decide +kernel
theorem dX11_wires_9 : decode cX11_wires 9 = .ok (.iload_n 3, 1) := by decide +kernel
theorem dX11_wires_10 : decode cX11_wires 10 = .ok (.invokestatic 127, 3) := by decide +kernel
theorem dX11_wires_13 : decode cX11_wires 13 = .ok (.ifCond .eq 8, 3) := by decide +kernel
theorem dX11_wires_16 : decode cX11_wires 16 = .ok (.iload_n 2, 1) := by decide +kernel
theorem dX11_wires_17 : decode cX11_wires 17 = .ok (.iload_n 3, 1) := by decide +kernel
theorem dX11_wires_18 : decode cX11_wires 18 = .ok (.if_icmp .ne 5, 3) := by decide +kernel
theorem dX11_wires_21 : decode cX11_wires 21 = .ok (.iconst (-1), 1) := by decide +kernel
theorem dX11_wires_22 : decode cX11_wires 22 = .ok (.ireturn, 1) := by decide +kernel
theorem dX11_wires_23 : decode cX11_wires 23 = .ok (.aload_n 0, 1) := by decide +kernel
theorem dX11_wires_24 : decode cX11_wires 24 = .ok (.getfield 49, 3) := by decide +kernel
theorem dX11_wires_27 : decode cX11_wires 27 = .ok (.aload_n 0, 1) := by decide +kernel
theorem dX11_wires_28 : decode cX11_wires 28 = .ok (.getfield 28, 3) := by decide +kernel
theorem dX11_wires_31 : decode cX11_wires 31 = .ok (.getfield 109, 3) := by decide +kernel
theorem dX11_wires_34 : decode cX11_wires 34 = .ok (.iload_n 1, 1) := by decide +kernel
theorem dX11_wires_35 : decode cX11_wires 35 = .ok (.invokevirtual 169, 3) := by decide +kernel
theorem dX11_wires_38 : decode cX11_wires 38 = .ok (.iload_n 2, 1) := by decide +kernel
theorem dX11_wires_39 : decode cX11_wires 39 = .ok (.iload_n 3, 1) := by decide +kernel
theorem dX11_wires_40 : decode cX11_wires 40 = .ok (.invokevirtual 254, 3) := by decide +kernel
theorem dX11_wires_43 : decode cX11_wires 43 = .ok (.aload_n 0, 1) := by decide +kernel
theorem dX11_wires_44 : decode cX11_wires 44 = .ok (.getfield 49, 3) := by decide +kernel
theorem dX11_wires_47 : decode cX11_wires 47 = .ok (.getfield 253, 3) := by decide +kernel
theorem dX11_wires_50 : decode cX11_wires 50 = .ok (.ireturn, 1) := by decide +kernel
theorem dX11_got_0 : decode cX11_got 0 = .ok (.aload_n 0, 1) := by decide +kernel
theorem dX11_got_1 : decode cX11_got 1 = .ok (.getfield 49, 3) := by decide +kernel
theorem dX11_got_4 : decode cX11_got 4 = .ok (.iload_n 1, 1) := by decide +kernel
theorem dX11_got_5 : decode cX11_got 5 = .ok (.invokevirtual 257, 3) := by decide +kernel
theorem dX11_got_8 : decode cX11_got 8 = .ok (.ifCond .eq 15, 3) := by decide +kernel
theorem dX11_got_11 : decode cX11_got 11 = .ok (.aload_n 0, 1) := by decide +kernel
theorem dX11_got_12 : decode cX11_got 12 = .ok (.getfield 49, 3) := by decide +kernel
theorem dX11_got_15 : decode cX11_got 15 = .ok (.getfield 258, 3) := by decide +kernel
theorem dX11_got_18 : decode cX11_got 18 = .ok (.iload_n 1, 1) := by decide +kernel
theorem dX11_got_19 : decode cX11_got 19 = .ok (.iaload, 1) := by decide +kernel
theorem dX11_got_20 : decode cX11_got 20 = .ok (.goto 4, 3) := by decide +kernel
theorem dX11_got_23 : decode cX11_got 23 = .ok (.iconst (-1), 1) := by decide +kernel
theorem dX11_got_24 : decode cX11_got 24 = .ok (.ireturn, 1) := by decide +kernel
theorem dX11_when_0 : decode cX11_when 0 = .ok (.iload_n 1, 1) := by decide +kernel
theorem dX11_when_1 : decode cX11_when 1 = .ok (.iconst (-1), 1) := by decide +kernel
theorem dX11_when_2 : decode cX11_when 2 = .ok (.if_icmp .ne 11, 3) := by decide +kernel
theorem dX11_when_5 : decode cX11_when 5 = .ok (.aload_n 0, 1) := by decide +kernel
theorem dX11_when_6 : decode cX11_when 6 = .ok (.getfield 49, 3) := by decide +kernel
theorem dX11_when_9 : decode cX11_when 9 = .ok (.getfield 262, 3) := by decide +kernel
theorem dX11_when_12 : decode cX11_when 12 = .ok (.ireturn, 1) := by decide +kernel
theorem dX11_when_13 : decode cX11_when 13 = .ok (.aload_n 0, 1) := by decide +kernel
theorem dX11_when_14 : decode cX11_when 14 = .ok (.getfield 49, 3) := by decide +kernel
theorem dX11_when_17 : decode cX11_when 17 = .ok (.iload_n 1, 1) := by decide +kernel
theorem dX11_when_18 : decode cX11_when 18 = .ok (.invokevirtual 257, 3) := by decide +kernel
theorem dX11_when_21 : decode cX11_when 21 = .ok (.ifCond .eq 15, 3) := by decide +kernel
theorem dX11_when_24 : decode cX11_when 24 = .ok (.aload_n 0, 1) := by decide +kernel
theorem dX11_when_25 : decode cX11_when 25 = .ok (.getfield 49, 3) := by decide +kernel
theorem dX11_when_28 : decode cX11_when 28 = .ok (.getfield 265, 3) := by decide +kernel
theorem dX11_when_31 : decode cX11_when 31 = .ok (.iload_n 1, 1) := by decide +kernel
theorem dX11_when_32 : decode cX11_when 32 = .ok (.iaload, 1) := by decide +kernel
theorem dX11_when_33 : decode cX11_when 33 = .ok (.goto 4, 3) := by decide +kernel
theorem dX11_when_36 : decode cX11_when 36 = .ok (.iconst (-1), 1) := by decide +kernel
theorem dX11_when_37 : decode cX11_when 37 = .ok (.ireturn, 1) := by decide +kernel
theorem dX11_frame_0 : decode cX11_frame 0 = .ok (.iload_n 1, 1) := by decide +kernel
theorem dX11_frame_1 : decode cX11_frame 1 = .ok (.ifCond .ge 7, 3) := by decide +kernel
theorem dX11_frame_4 : decode cX11_frame 4 = .ok (.iconst (-1), 1) := by decide +kernel
theorem dX11_frame_5 : decode cX11_frame 5 = .ok (.goto 11, 3) := by decide +kernel
theorem dX11_frame_8 : decode cX11_frame 8 = .ok (.aload_n 0, 1) := by decide +kernel
theorem dX11_frame_9 : decode cX11_frame 9 = .ok (.getfield 49, 3) := by decide +kernel
theorem dX11_frame_12 : decode cX11_frame 12 = .ok (.iload_n 1, 1) := by decide +kernel
theorem dX11_frame_13 : decode cX11_frame 13 = .ok (.invokevirtual 268, 3) := by decide +kernel
theorem dX11_frame_16 : decode cX11_frame 16 = .ok (.ireturn, 1) := by decide +kernel
theorem dX11_isIn_0 : decode cX11_isIn 0 = .ok (.iload_n 0, 1) := by decide +kernel
theorem dX11_isIn_1 : decode cX11_isIn 1 = .ok (.iload_n 1, 1) := by decide +kernel
theorem dX11_isIn_2 : decode cX11_isIn 2 = .ok (.if_icmp .lt 12, 3) := by decide +kernel
theorem dX11_isIn_5 : decode cX11_isIn 5 = .ok (.iload_n 0, 1) := by decide +kernel
theorem dX11_isIn_6 : decode cX11_isIn 6 = .ok (.iload_n 2, 1) := by decide +kernel
theorem dX11_isIn_7 : decode cX11_isIn 7 = .ok (.if_icmp .gt 7, 3) := by decide +kernel
theorem dX11_isIn_10 : decode cX11_isIn 10 = .ok (.iconst 1, 1) := by decide +kernel
theorem dX11_isIn_11 : decode cX11_isIn 11 = .ok (.goto 4, 3) := by decide +kernel
theorem dX11_isIn_14 : decode cX11_isIn 14 = .ok (.iconst 0, 1) := by decide +kernel
theorem dX11_isIn_15 : decode cX11_isIn 15 = .ok (.ireturn, 1) := by decide +kernel
theorem dX11_isTrace_0 : decode cX11_isTrace 0 = .ok (.iload_n 0, 1) := by decide +kernel
theorem dX11_isTrace_1 : decode cX11_isTrace 1 = .ok (.iconst 0, 1) := by decide +kernel
theorem dX11_isTrace_2 : decode cX11_isTrace 2 = .ok (.iconst 3, 1) := by decide +kernel
theorem dX11_isTrace_3 : decode cX11_isTrace 3 = .ok (.invokestatic 96, 3) := by decide +kernel
theorem dX11_isTrace_6 : decode cX11_isTrace 6 = .ok (.ireturn, 1) := by decide +kernel
theorem dX11_hasTrace_0 : decode cX11_hasTrace 0 = .ok (.aload_n 0, 1) := by decide +kernel
theorem dX11_hasTrace_1 : decode cX11_hasTrace 1 = .ok (.getfield 28, 3) := by decide +kernel
theorem dX11_hasTrace_4 : decode cX11_hasTrace 4 = .ok (.getfield 109, 3) := by decide +kernel
theorem dX11_hasTrace_7 : decode cX11_hasTrace 7 = .ok (.iload_n 1, 1) := by decide +kernel
theorem dX11_hasTrace_8 : decode cX11_hasTrace 8 = .ok (.invokevirtual 168, 3) := by decide +kernel
theorem dX11_hasTrace_11 : decode cX11_hasTrace 11 = .ok (.ifCond .eq 14, 3) := by decide +kernel
theorem dX11_hasTrace_14 : decode cX11_hasTrace 14 = .ok (.iload_n 2, 1) := by decide +kernel
theorem dX11_hasTrace_15 : decode cX11_hasTrace 15 = .ok (.invokestatic 127, 3) := by decide +kernel
theorem dX11_hasTrace_18 : decode cX11_hasTrace 18 = .ok (.ifCond .eq 7, 3) := by decide +kernel
theorem dX11_hasTrace_21 : decode cX11_hasTrace 21 = .ok (.iconst 1, 1) := by decide +kernel
theorem dX11_hasTrace_22 : decode cX11_hasTrace 22 = .ok (.goto 4, 3) := by decide +kernel
theorem dX11_hasTrace_25 : decode cX11_hasTrace 25 = .ok (.iconst 0, 1) := by decide +kernel
theorem dX11_hasTrace_26 : decode cX11_hasTrace 26 = .ok (.ireturn, 1) := by decide +kernel
theorem dX11_isFilled_0 : decode cX11_isFilled 0 = .ok (.iload_n 1, 1) := by decide +kernel
theorem dX11_isFilled_1 : decode cX11_isFilled 1 = .ok (.iconst 0, 1) := by decide +kernel
theorem dX11_isFilled_2 : decode cX11_isFilled 2 = .ok (.iconst 3, 1) := by decide +kernel
theorem dX11_isFilled_3 : decode cX11_isFilled 3 = .ok (.invokestatic 96, 3) := by decide +kernel
theorem dX11_isFilled_6 : decode cX11_isFilled 6 = .ok (.ifCond .eq 19, 3) := by decide +kernel
theorem dX11_isFilled_9 : decode cX11_isFilled 9 = .ok (.aload_n 0, 1) := by decide +kernel
theorem dX11_isFilled_10 : decode cX11_isFilled 10 = .ok (.getfield 41, 3) := by decide +kernel
theorem dX11_isFilled_13 : decode cX11_isFilled 13 = .ok (.iload_n 1, 1) := by decide +kernel
theorem dX11_isFilled_14 : decode cX11_isFilled 14 = .ok (.aaload, 1) := by decide +kernel
theorem dX11_isFilled_15 : decode cX11_isFilled 15 = .ok (.getfield 130, 3) := by decide +kernel
theorem dX11_isFilled_18 : decode cX11_isFilled 18 = .ok (.ifCond .le 7, 3) := by decide +kernel
theorem dX11_isFilled_21 : decode cX11_isFilled 21 = .ok (.iconst 1, 1) := by decide +kernel
theorem dX11_isFilled_22 : decode cX11_isFilled 22 = .ok (.goto 4, 3) := by decide +kernel
theorem dX11_isFilled_25 : decode cX11_isFilled 25 = .ok (.iconst 0, 1) := by decide +kernel
theorem dX11_isFilled_26 : decode cX11_isFilled 26 = .ok (.ireturn, 1) := by decide +kernel
theorem dX11_numberOn_0 : decode cX11_numberOn 0 = .ok (.iload_n 1, 1) := by decide +kernel
theorem dX11_numberOn_1 : decode cX11_numberOn 1 = .ok (.bipush 24, 2) := by decide +kernel
theorem dX11_numberOn_3 : decode cX11_numberOn 3 = .ok (.bipush 8, 2) := by decide +kernel
theorem dX11_numberOn_5 : decode cX11_numberOn 5 = .ok (.iload_n 0, 1) := by decide +kernel
theorem dX11_numberOn_6 : decode cX11_numberOn 6 = .ok (.imul, 1) := by decide +kernel
theorem dX11_numberOn_7 : decode cX11_numberOn 7 = .ok (.isub, 1) := by decide +kernel
theorem dX11_numberOn_8 : decode cX11_numberOn 8 = .ok (.ishr, 1) := by decide +kernel
theorem dX11_numberOn_9 : decode cX11_numberOn 9 = .ok (.i2b, 1) := by decide +kernel
theorem dX11_numberOn_10 : decode cX11_numberOn 10 = .ok (.ireturn, 1) := by decide +kernel
theorem dX11_sampleOn_0 : decode cX11_sampleOn 0 = .ok (.iload_n 1, 1) := by decide +kernel
theorem dX11_sampleOn_1 : decode cX11_sampleOn 1 = .ok (.sipush 255, 3) := by decide +kernel
theorem dX11_sampleOn_4 : decode cX11_sampleOn 4 = .ok (.iand, 1) := by decide +kernel
theorem dX11_sampleOn_5 : decode cX11_sampleOn 5 = .ok (.bipush 24, 2) := by decide +kernel
theorem dX11_sampleOn_7 : decode cX11_sampleOn 7 = .ok (.bipush 8, 2) := by decide +kernel
theorem dX11_sampleOn_9 : decode cX11_sampleOn 9 = .ok (.iload_n 0, 1) := by decide +kernel
theorem dX11_sampleOn_10 : decode cX11_sampleOn 10 = .ok (.imul, 1) := by decide +kernel
theorem dX11_sampleOn_11 : decode cX11_sampleOn 11 = .ok (.isub, 1) := by decide +kernel
theorem dX11_sampleOn_12 : decode cX11_sampleOn 12 = .ok (.ishl, 1) := by decide +kernel
theorem dX11_sampleOn_13 : decode cX11_sampleOn 13 = .ok (.ireturn, 1) := by decide +kernel
theorem dX12_init_0 : decode cX12_init 0 = .ok (.aload_n 0, 1) := by decide +kernel
theorem dX12_init_1 : decode cX12_init 1 = .ok (.invokespecial 1, 3) := by decide +kernel
theorem dX12_init_4 : decode cX12_init 4 = .ok (.aload_n 0, 1) := by decide +kernel
theorem dX12_init_5 : decode cX12_init 5 = .ok (.sipush 200, 3) := by decide +kernel
theorem dX12_init_8 : decode cX12_init 8 = .ok (.newarray .int, 2) := by decide +kernel
theorem dX12_init_10 : decode cX12_init 10 = .ok (.putfield 7, 3) := by decide +kernel
theorem dX12_init_13 : decode cX12_init 13 = .ok (.aload_n 0, 1) := by decide +kernel
theorem dX12_init_14 : decode cX12_init 14 = .ok (.ldc 13, 2) := by decide +kernel
theorem dX12_init_16 : decode cX12_init 16 = .ok (.newarray .int, 2) := by decide +kernel
theorem dX12_init_18 : decode cX12_init 18 = .ok (.putfield 14, 3) := by decide +kernel
theorem dX12_init_21 : decode cX12_init 21 = .ok (.aload_n 0, 1) := by decide +kernel
theorem dX12_init_22 : decode cX12_init 22 = .ok (.bipush 6, 2) := by decide +kernel
theorem dX12_init_24 : decode cX12_init 24 = .ok (.newarray .int, 2) := by decide +kernel
theorem dX12_init_26 : decode cX12_init 26 = .ok (.putfield 17, 3) := by decide +kernel
theorem dX12_init_29 : decode cX12_init 29 = .ok (.aload_n 0, 1) := by decide +kernel
theorem dX12_init_30 : decode cX12_init 30 = .ok (.bipush 6, 2) := by decide +kernel
theorem dX12_init_32 : decode cX12_init 32 = .ok (.newarray .int, 2) := by decide +kernel
theorem dX12_init_34 : decode cX12_init 34 = .ok (.putfield 20, 3) := by decide +kernel
theorem dX12_init_37 : decode cX12_init 37 = .ok (.aload_n 0, 1) := by decide +kernel
theorem dX12_init_38 : decode cX12_init 38 = .ok (.bipush 6, 2) := by decide +kernel
theorem dX12_init_40 : decode cX12_init 40 = .ok (.newarray .int, 2) := by decide +kernel
theorem dX12_init_42 : decode cX12_init 42 = .ok (.putfield 23, 3) := by decide +kernel
theorem dX12_init_45 : decode cX12_init 45 = .ok (.aload_n 0, 1) := by decide +kernel
theorem dX12_init_46 : decode cX12_init 46 = .ok (.bipush 6, 2) := by decide +kernel
theorem dX12_init_48 : decode cX12_init 48 = .ok (.newarray .int, 2) := by decide +kernel
theorem dX12_init_50 : decode cX12_init 50 = .ok (.putfield 26, 3) := by decide +kernel
theorem dX12_init_53 : decode cX12_init 53 = .ok (.aload_n 0, 1) := by decide +kernel
theorem dX12_init_54 : decode cX12_init 54 = .ok (.bipush 6, 2) := by decide +kernel
theorem dX12_init_56 : decode cX12_init 56 = .ok (.newarray .int, 2) := by decide +kernel
theorem dX12_init_58 : decode cX12_init 58 = .ok (.putfield 29, 3) := by decide +kernel
theorem dX12_init_61 : decode cX12_init 61 = .ok (.aload_n 0, 1) := by decide +kernel
theorem dX12_init_62 : decode cX12_init 62 = .ok (.bipush 6, 2) := by decide +kernel
theorem dX12_init_64 : decode cX12_init 64 = .ok (.newarray .int, 2) := by decide +kernel
theorem dX12_init_66 : decode cX12_init 66 = .ok (.putfield 32, 3) := by decide +kernel
theorem dX12_init_69 : decode cX12_init 69 = .ok (.aload_n 0, 1) := by decide +kernel
theorem dX12_init_70 : decode cX12_init 70 = .ok (.bipush 6, 2) := by decide +kernel
theorem dX12_init_72 : decode cX12_init 72 = .ok (.newarray .int, 2) := by decide +kernel
theorem dX12_init_74 : decode cX12_init 74 = .ok (.putfield 35, 3) := by decide +kernel
theorem dX12_init_77 : decode cX12_init 77 = .ok (.aload_n 0, 1) := by decide +kernel
theorem dX12_init_78 : decode cX12_init 78 = .ok (.bipush 6, 2) := by decide +kernel
theorem dX12_init_80 : decode cX12_init 80 = .ok (.newarray .int, 2) := by decide +kernel
theorem dX12_init_82 : decode cX12_init 82 = .ok (.putfield 38, 3) := by decide +kernel
theorem dX12_init_85 : decode cX12_init 85 = .ok (.aload_n 0, 1) := by decide +kernel
theorem dX12_init_86 : decode cX12_init 86 = .ok (.bipush 6, 2) := by decide +kernel
theorem dX12_init_88 : decode cX12_init 88 = .ok (.newarray .int, 2) := by decide +kernel
theorem dX12_init_90 : decode cX12_init 90 = .ok (.putfield 41, 3) := by decide +kernel
theorem dX12_init_93 : decode cX12_init 93 = .ok (.aload_n 0, 1) := by decide +kernel
theorem dX12_init_94 : decode cX12_init 94 = .ok (.bipush 6, 2) := by decide +kernel
theorem dX12_init_96 : decode cX12_init 96 = .ok (.newarray .int, 2) := by decide +kernel
theorem dX12_init_98 : decode cX12_init 98 = .ok (.putfield 44, 3) := by decide +kernel
theorem dX12_init_101 : decode cX12_init 101 = .ok (.aload_n 0, 1) := by decide +kernel
theorem dX12_init_102 : decode cX12_init 102 = .ok (.bipush 6, 2) := by decide +kernel
theorem dX12_init_104 : decode cX12_init 104 = .ok (.newarray .int, 2) := by decide +kernel
theorem dX12_init_106 : decode cX12_init 106 = .ok (.putfield 47, 3) := by decide +kernel
theorem dX12_init_109 : decode cX12_init 109 = .ok (.aload_n 0, 1) := by decide +kernel
theorem dX12_init_110 : decode cX12_init 110 = .ok (.bipush 6, 2) := by decide +kernel
theorem dX12_init_112 : decode cX12_init 112 = .ok (.newarray .int, 2) := by decide +kernel
theorem dX12_init_114 : decode cX12_init 114 = .ok (.putfield 50, 3) := by decide +kernel
theorem dX12_init_117 : decode cX12_init 117 = .ok (.aload_n 0, 1) := by decide +kernel
theorem dX12_init_118 : decode cX12_init 118 = .ok (.bipush 8, 2) := by decide +kernel
theorem dX12_init_120 : decode cX12_init 120 = .ok (.putfield 53, 3) := by decide +kernel
theorem dX12_init_123 : decode cX12_init 123 = .ok (.aload_n 0, 1) := by decide +kernel
theorem dX12_init_124 : decode cX12_init 124 = .ok (.bipush 8, 2) := by decide +kernel
theorem dX12_init_126 : decode cX12_init 126 = .ok (.putfield 57, 3) := by decide +kernel
theorem dX12_init_129 : decode cX12_init 129 = .ok (.aload_n 0, 1) := by decide +kernel
theorem dX12_init_130 : decode cX12_init 130 = .ok (.bipush 8, 2) := by decide +kernel
theorem dX12_init_132 : decode cX12_init 132 = .ok (.newarray .int, 2) := by decide +kernel
theorem dX12_init_134 : decode cX12_init 134 = .ok (.putfield 60, 3) := by decide +kernel
theorem dX12_init_137 : decode cX12_init 137 = .ok (.aload_n 0, 1) := by decide +kernel
theorem dX12_init_138 : decode cX12_init 138 = .ok (.bipush 8, 2) := by decide +kernel
theorem dX12_init_140 : decode cX12_init 140 = .ok (.newarray .int, 2) := by decide +kernel
theorem dX12_init_142 : decode cX12_init 142 = .ok (.putfield 63, 3) := by decide +kernel
theorem dX12_init_145 : decode cX12_init 145 = .ok (.aload_n 0, 1) := by decide +kernel
theorem dX12_init_146 : decode cX12_init 146 = .ok (.bipush 8, 2) := by decide +kernel
theorem dX12_init_148 : decode cX12_init 148 = .ok (.newarray .int, 2) := by decide +kernel
theorem dX12_init_150 : decode cX12_init 150 = .ok (.putfield 66, 3) := by decide +kernel
theorem dX12_init_153 : decode cX12_init 153 = .ok (.aload_n 0, 1) := by decide +kernel
theorem dX12_init_154 : decode cX12_init 154 = .ok (.sipush 1608, 3) := by decide +kernel
theorem dX12_init_157 : decode cX12_init 157 = .ok (.newarray .int, 2) := by decide +kernel
theorem dX12_init_159 : decode cX12_init 159 = .ok (.putfield 69, 3) := by decide +kernel
theorem dX12_init_162 : decode cX12_init 162 = .ok (.aload_n 0, 1) := by decide +kernel
theorem dX12_init_163 : decode cX12_init 163 = .ok (.iconst 4, 1) := by decide +kernel
theorem dX12_init_164 : decode cX12_init 164 = .ok (.newarray .int, 2) := by decide +kernel
theorem dX12_init_166 : decode cX12_init 166 = .ok (.putfield 72, 3) := by decide +kernel
theorem dX12_init_169 : decode cX12_init 169 = .ok (.aload_n 0, 1) := by decide +kernel
theorem dX12_init_170 : decode cX12_init 170 = .ok (.iconst 4, 1) := by decide +kernel
theorem dX12_init_171 : decode cX12_init 171 = .ok (.newarray .int, 2) := by decide +kernel
theorem dX12_init_173 : decode cX12_init 173 = .ok (.putfield 75, 3) := by decide +kernel
theorem dX12_init_176 : decode cX12_init 176 = .ok (.aload_n 0, 1) := by decide +kernel
theorem dX12_init_177 : decode cX12_init 177 = .ok (.sipush 256, 3) := by decide +kernel
theorem dX12_init_180 : decode cX12_init 180 = .ok (.newarray .int, 2) := by decide +kernel
theorem dX12_init_182 : decode cX12_init 182 = .ok (.putfield 78, 3) := by decide +kernel
theorem dX12_init_185 : decode cX12_init 185 = .ok (.aload_n 0, 1) := by decide +kernel
theorem dX12_init_186 : decode cX12_init 186 = .ok (.bipush (-4), 2) := by decide +kernel
theorem dX12_init_188 : decode cX12_init 188 = .ok (.putfield 81, 3) := by decide +kernel
theorem dX12_init_191 : decode cX12_init 191 = .ok (.aload_n 0, 1) := by decide +kernel
theorem dX12_init_192 : decode cX12_init 192 = .ok (.iconst 4, 1) := by decide +kernel
theorem dX12_init_193 : decode cX12_init 193 = .ok (.newarray .int, 2) := by decide +kernel
theorem dX12_init_195 : decode cX12_init 195 = .ok (.putfield 84, 3) := by decide +kernel
theorem dX12_init_198 : decode cX12_init 198 = .ok (.aload_n 0, 1) := by decide +kernel
theorem dX12_init_199 : decode cX12_init 199 = .ok (.sipush 804, 3) := by decide +kernel
theorem dX12_init_202 : decode cX12_init 202 = .ok (.newarray .long, 2) := by decide +kernel
theorem dX12_init_204 : decode cX12_init 204 = .ok (.putfield 87, 3) := by decide +kernel
theorem dX12_init_207 : decode cX12_init 207 = .ok (.aload_n 0, 1) := by decide +kernel
theorem dX12_init_208 : decode cX12_init 208 = .ok (.sipush 804, 3) := by decide +kernel
theorem dX12_init_211 : decode cX12_init 211 = .ok (.newarray .boolean, 2) := by decide +kernel
theorem dX12_init_213 : decode cX12_init 213 = .ok (.putfield 91, 3) := by decide +kernel
theorem dX12_init_216 : decode cX12_init 216 = .ok (.aload_n 0, 1) := by decide +kernel
theorem dX12_init_217 : decode cX12_init 217 = .ok (.sipush 201, 3) := by decide +kernel
theorem dX12_init_220 : decode cX12_init 220 = .ok (.newarray .long, 2) := by decide +kernel
theorem dX12_init_222 : decode cX12_init 222 = .ok (.putfield 95, 3) := by decide +kernel
theorem dX12_init_225 : decode cX12_init 225 = .ok (.aload_n 0, 1) := by decide +kernel
theorem dX12_init_226 : decode cX12_init 226 = .ok (.sipush 201, 3) := by decide +kernel
theorem dX12_init_229 : decode cX12_init 229 = .ok (.newarray .boolean, 2) := by decide +kernel
theorem dX12_init_231 : decode cX12_init 231 = .ok (.putfield 98, 3) := by decide +kernel
theorem dX12_init_234 : decode cX12_init 234 = .ok (.aload_n 0, 1) := by decide +kernel
theorem dX12_init_235 : decode cX12_init 235 = .ok (.bipush 20, 2) := by decide +kernel
theorem dX12_init_237 : decode cX12_init 237 = .ok (.newarray .int, 2) := by decide +kernel
theorem dX12_init_239 : decode cX12_init 239 = .ok (.putfield 101, 3) := by decide +kernel
theorem dX12_init_242 : decode cX12_init 242 = .ok (.aload_n 0, 1) := by decide +kernel
theorem dX12_init_243 : decode cX12_init 243 = .ok (.bipush 20, 2) := by decide +kernel
theorem dX12_init_245 : decode cX12_init 245 = .ok (.newarray .int, 2) := by decide +kernel
theorem dX12_init_247 : decode cX12_init 247 = .ok (.putfield 104, 3) := by decide +kernel
theorem dX12_init_250 : decode cX12_init 250 = .ok (.aload_n 0, 1) := by decide +kernel
theorem dX12_init_251 : decode cX12_init 251 = .ok (.bipush (-4), 2) := by decide +kernel
theorem dX12_init_253 : decode cX12_init 253 = .ok (.putfield 107, 3) := by decide +kernel
theorem dX12_init_256 : decode cX12_init 256 = .ok (.iconst 0, 1) := by decide +kernel
theorem dX12_init_257 : decode cX12_init 257 = .ok (.istore_n 1, 1) := by decide +kernel
theorem dX12_init_258 : decode cX12_init 258 = .ok (.iload_n 1, 1) := by decide +kernel
theorem dX12_init_259 : decode cX12_init 259 = .ok (.iconst 4, 1) := by decide +kernel
theorem dX12_init_260 : decode cX12_init 260 = .ok (.if_icmp .ge 25, 3) := by decide +kernel
theorem dX12_init_263 : decode cX12_init 263 = .ok (.aload_n 0, 1) := by decide +kernel
theorem dX12_init_264 : decode cX12_init 264 = .ok (.getfield 72, 3) := by decide +kernel
theorem dX12_init_267 : decode cX12_init 267 = .ok (.iload_n 1, 1) := by decide +kernel
theorem dX12_init_268 : decode cX12_init 268 = .ok (.bipush (-4), 2) := by decide +kernel
theorem dX12_init_270 : decode cX12_init 270 = .ok (.iastore, 1) := by decide +kernel
theorem dX12_init_271 : decode cX12_init 271 = .ok (.aload_n 0, 1) := by decide +kernel
theorem dX12_init_272 : decode cX12_init 272 = .ok (.getfield 84, 3) := by decide +kernel
theorem dX12_init_275 : decode cX12_init 275 = .ok (.iload_n 1, 1) := by decide +kernel
theorem dX12_init_276 : decode cX12_init 276 = .ok (.bipush (-4), 2) := by decide +kernel
theorem dX12_init_278 : decode cX12_init 278 = .ok (.iastore, 1) := by decide +kernel
theorem dX12_init_279 : decode cX12_init 279 = .ok (.iinc 1 1, 3) := by decide +kernel
theorem dX12_init_282 : decode cX12_init 282 = .ok (.goto (-24), 3) := by decide +kernel
theorem dX12_init_285 : decode cX12_init 285 = .ok (.return_, 1) := by decide +kernel
theorem dX12_in_0 : decode cX12_in 0 = .ok (.lload_n 0, 1) := by decide +kernel
theorem dX12_in_1 : decode cX12_in 1 = .ok (.lload_n 2, 1) := by decide +kernel
theorem dX12_in_2 : decode cX12_in 2 = .ok (.lcmp, 1) := by decide +kernel
theorem dX12_in_3 : decode cX12_in 3 = .ok (.ifCond .lt 14, 3) := by decide +kernel
theorem dX12_in_6 : decode cX12_in 6 = .ok (.lload_n 0, 1) := by decide +kernel
theorem dX12_in_7 : decode cX12_in 7 = .ok (.lload 4, 2) := by decide +kernel
theorem dX12_in_9 : decode cX12_in 9 = .ok (.lcmp, 1) := by decide +kernel
theorem dX12_in_10 : decode cX12_in 10 = .ok (.ifCond .gt 7, 3) := by decide +kernel
theorem dX12_in_13 : decode cX12_in 13 = .ok (.iconst 1, 1) := by decide +kernel
theorem dX12_in_14 : decode cX12_in 14 = .ok (.goto 4, 3) := by decide +kernel
theorem dX12_in_17 : decode cX12_in 17 = .ok (.iconst 0, 1) := by decide +kernel
theorem dX12_in_18 : decode cX12_in 18 = .ok (.ireturn, 1) := by decide +kernel
theorem dX12_feed_0 : decode cX12_feed 0 = .ok (.aload_n 0, 1) := by decide +kernel
theorem dX12_feed_1 : decode cX12_feed 1 = .ok (.getfield 110, 3) := by decide +kernel
theorem dX12_feed_4 : decode cX12_feed 4 = .ok (.bipush 8, 2) := by decide +kernel
theorem dX12_feed_6 : decode cX12_feed 6 = .ok (.iadd, 1) := by decide +kernel
theorem dX12_feed_7 : decode cX12_feed 7 = .ok (.sipush 200, 3) := by decide +kernel
theorem dX12_feed_10 : decode cX12_feed 10 = .ok (.if_icmp .le 6, 3) := by decide +kernel
theorem dX12_feed_13 : decode cX12_feed 13 = .ok (.bipush (-3), 2) := by decide +kernel
theorem dX12_feed_15 : decode cX12_feed 15 = .ok (.ireturn, 1) := by decide +kernel
theorem dX12_feed_16 : decode cX12_feed 16 = .ok (.bipush 56, 2) := by decide +kernel
theorem dX12_feed_18 : decode cX12_feed 18 = .ok (.istore_n 3, 1) := by decide +kernel
theorem dX12_feed_19 : decode cX12_feed 19 = .ok (.iload_n 3, 1) := by decide +kernel
theorem dX12_feed_20 : decode cX12_feed 20 = .ok (.ifCond .lt 36, 3) := by decide +kernel
theorem dX12_feed_23 : decode cX12_feed 23 = .ok (.aload_n 0, 1) := by decide +kernel
theorem dX12_feed_24 : decode cX12_feed 24 = .ok (.getfield 7, 3) := by decide +kernel
theorem dX12_feed_27 : decode cX12_feed 27 = .ok (.aload_n 0, 1) := by decide +kernel
theorem dX12_feed_28 : decode cX12_feed 28 = .ok (.getfield 110, 3) := by decide +kernel
theorem dX12_feed_31 : decode cX12_feed 31 = .ok (.lload_n 1, 1) := by decide +kernel
theorem dX12_feed_32 : decode cX12_feed 32 = .ok (.iload_n 3, 1) := by decide +kernel
theorem dX12_feed_33 : decode cX12_feed 33 = .ok (.lshr, 1) := by decide +kernel
theorem dX12_feed_34 : decode cX12_feed 34 = .ok (.ldc2_w 113, 3) := by decide +kernel
theorem dX12_feed_37 : decode cX12_feed 37 = .ok (.land, 1) := by decide +kernel
theorem dX12_feed_38 : decode cX12_feed 38 = .ok (.l2i, 1) := by decide +kernel
theorem dX12_feed_39 : decode cX12_feed 39 = .ok (.iastore, 1) := by decide +kernel
theorem dX12_feed_40 : decode cX12_feed 40 = .ok (.aload_n 0, 1) := by decide +kernel
theorem dX12_feed_41 : decode cX12_feed 41 = .ok (.dup, 1) := by decide +kernel
theorem dX12_feed_42 : decode cX12_feed 42 = .ok (.getfield 110, 3) := by decide +kernel
theorem dX12_feed_45 : decode cX12_feed 45 = .ok (.iconst 1, 1) := by decide +kernel
theorem dX12_feed_46 : decode cX12_feed 46 = .ok (.iadd, 1) := by decide +kernel
theorem dX12_feed_47 : decode cX12_feed 47 = .ok (.putfield 110, 3) := by decide +kernel
theorem dX12_feed_50 : decode cX12_feed 50 = .ok (.iinc 3 (-8), 3) := by decide +kernel
theorem dX12_feed_53 : decode cX12_feed 53 = .ok (.goto (-34), 3) := by decide +kernel
theorem dX12_feed_56 : decode cX12_feed 56 = .ok (.aload_n 0, 1) := by decide +kernel
theorem dX12_feed_57 : decode cX12_feed 57 = .ok (.getfield 110, 3) := by decide +kernel
theorem dX12_feed_60 : decode cX12_feed 60 = .ok (.ireturn, 1) := by decide +kernel
theorem dX12_end_0 : decode cX12_end 0 = .ok (.iload_n 1, 1) := by decide +kernel
theorem dX12_end_1 : decode cX12_end 1 = .ok (.i2l, 1) := by decide +kernel
theorem dX12_end_2 : decode cX12_end 2 = .ok (.lconst 0, 1) := by decide +kernel
theorem dX12_end_3 : decode cX12_end 3 = .ok (.aload_n 0, 1) := by decide +kernel
theorem dX12_end_4 : decode cX12_end 4 = .ok (.getfield 110, 3) := by decide +kernel
theorem dX12_end_7 : decode cX12_end 7 = .ok (.i2l, 1) := by decide +kernel
theorem dX12_end_8 : decode cX12_end 8 = .ok (.invokestatic 115, 3) := by decide +kernel
theorem dX12_end_11 : decode cX12_end 11 = .ok (.ifCond .ne 5, 3) := by decide +kernel
theorem dX12_end_14 : decode cX12_end 14 = .ok (.iconst (-1), 1) := by decide +kernel
theorem dX12_end_15 : decode cX12_end 15 = .ok (.ireturn, 1) := by decide +kernel
theorem dX12_end_16 : decode cX12_end 16 = .ok (.aload_n 0, 1) := by decide +kernel
theorem dX12_end_17 : decode cX12_end 17 = .ok (.getfield 110, 3) := by decide +kernel
theorem dX12_end_20 : decode cX12_end 20 = .ok (.istore_n 2, 1) := by decide +kernel
theorem dX12_end_21 : decode cX12_end 21 = .ok (.aload_n 0, 1) := by decide +kernel
theorem dX12_end_22 : decode cX12_end 22 = .ok (.iload_n 1, 1) := by decide +kernel
theorem dX12_end_23 : decode cX12_end 23 = .ok (.putfield 110, 3) := by decide +kernel
theorem dX12_end_26 : decode cX12_end 26 = .ok (.iload_n 2, 1) := by decide +kernel
theorem dX12_end_27 : decode cX12_end 27 = .ok (.ireturn, 1) := by decide +kernel
theorem dX12_fails_0 : decode cX12_fails 0 = .ok (.aload_n 0, 1) := by decide +kernel
theorem dX12_fails_1 : decode cX12_fails 1 = .ok (.getfield 119, 3) := by decide +kernel
theorem dX12_fails_4 : decode cX12_fails 4 = .ok (.ifCond .ne 13, 3) := by decide +kernel
theorem dX12_fails_7 : decode cX12_fails 7 = .ok (.aload_n 0, 1) := by decide +kernel
theorem dX12_fails_8 : decode cX12_fails 8 = .ok (.iload_n 1, 1) := by decide +kernel
theorem dX12_fails_9 : decode cX12_fails 9 = .ok (.putfield 119, 3) := by decide +kernel
theorem dX12_fails_12 : decode cX12_fails 12 = .ok (.aload_n 0, 1) := by decide +kernel
theorem dX12_fails_13 : decode cX12_fails 13 = .ok (.iload_n 2, 1) := by decide +kernel
theorem dX12_fails_14 : decode cX12_fails 14 = .ok (.putfield 122, 3) := by decide +kernel
theorem dX12_fails_17 : decode cX12_fails 17 = .ok (.return_, 1) := by decide +kernel
theorem dX12_look_0 : decode cX12_look 0 = .ok (.aload_n 0, 1) := by decide +kernel
theorem dX12_look_1 : decode cX12_look 1 = .ok (.getfield 125, 3) := by decide +kernel
theorem dX12_look_4 : decode cX12_look 4 = .ok (.aload_n 0, 1) := by decide +kernel
theorem dX12_look_5 : decode cX12_look 5 = .ok (.getfield 110, 3) := by decide +kernel
theorem dX12_look_8 : decode cX12_look 8 = .ok (.if_icmp .ge 15, 3) := by decide +kernel
theorem dX12_look_11 : decode cX12_look 11 = .ok (.aload_n 0, 1) := by decide +kernel
theorem dX12_look_12 : decode cX12_look 12 = .ok (.getfield 7, 3) := by decide +kernel
theorem dX12_look_15 : decode cX12_look 15 = .ok (.aload_n 0, 1) := by decide +kernel
theorem dX12_look_16 : decode cX12_look 16 = .ok (.getfield 125, 3) := by decide +kernel
theorem dX12_look_19 : decode cX12_look 19 = .ok (.iaload, 1) := by decide +kernel
theorem dX12_look_20 : decode cX12_look 20 = .ok (.goto 4, 3) := by decide +kernel
theorem dX12_look_23 : decode cX12_look 23 = .ok (.iconst (-1), 1) := by decide +kernel
theorem dX12_look_24 : decode cX12_look 24 = .ok (.ireturn, 1) := by decide +kernel
theorem dX12_packed_0 : decode cX12_packed 0 = .ok (.lconst 0, 1) := by decide +kernel
theorem dX12_packed_1 : decode cX12_packed 1 = .ok (.lstore 6, 2) := by decide +kernel
theorem dX12_packed_3 : decode cX12_packed 3 = .ok (.iload_n 0, 1) := by decide +kernel
theorem dX12_packed_4 : decode cX12_packed 4 = .ok (.ifCond .le 19, 3) := by decide +kernel
theorem dX12_packed_7 : decode cX12_packed 7 = .ok (.ldc2_w 128, 3) := by decide +kernel
theorem dX12_packed_10 : decode cX12_packed 10 = .ok (.lload 6, 2) := by decide +kernel
theorem dX12_packed_12 : decode cX12_packed 12 = .ok (.lmul, 1) := by decide +kernel
theorem dX12_packed_13 : decode cX12_packed 13 = .ok (.iload_n 0, 1) := by decide +kernel
theorem dX12_packed_14 : decode cX12_packed 14 = .ok (.i2l, 1) := by decide +kernel
theorem dX12_packed_15 : decode cX12_packed 15 = .ok (.ladd, 1) := by decide +kernel
theorem dX12_packed_16 : decode cX12_packed 16 = .ok (.ldc2_w 130, 3) := by decide +kernel
theorem dX12_packed_19 : decode cX12_packed 19 = .ok (.lsub, 1) := by decide +kernel
theorem dX12_packed_20 : decode cX12_packed 20 = .ok (.goto 5, 3) := by decide +kernel
theorem dX12_packed_23 : decode cX12_packed 23 = .ok (.lload 6, 2) := by decide +kernel
theorem dX12_packed_25 : decode cX12_packed 25 = .ok (.lstore 6, 2) := by decide +kernel
theorem dX12_packed_27 : decode cX12_packed 27 = .ok (.iload_n 1, 1) := by decide +kernel
theorem dX12_packed_28 : decode cX12_packed 28 = .ok (.ifCond .le 19, 3) := by decide +kernel
theorem dX12_packed_31 : decode cX12_packed 31 = .ok (.ldc2_w 128, 3) := by decide +kernel
theorem dX12_packed_34 : decode cX12_packed 34 = .ok (.lload 6, 2) := by decide +kernel
theorem dX12_packed_36 : decode cX12_packed 36 = .ok (.lmul, 1) := by decide +kernel
theorem dX12_packed_37 : decode cX12_packed 37 = .ok (.iload_n 1, 1) := by decide +kernel
theorem dX12_packed_38 : decode cX12_packed 38 = .ok (.i2l, 1) := by decide +kernel
theorem dX12_packed_39 : decode cX12_packed 39 = .ok (.ladd, 1) := by decide +kernel
theorem dX12_packed_40 : decode cX12_packed 40 = .ok (.ldc2_w 130, 3) := by decide +kernel
theorem dX12_packed_43 : decode cX12_packed 43 = .ok (.lsub, 1) := by decide +kernel
theorem dX12_packed_44 : decode cX12_packed 44 = .ok (.goto 5, 3) := by decide +kernel
theorem dX12_packed_47 : decode cX12_packed 47 = .ok (.lload 6, 2) := by decide +kernel
theorem dX12_packed_49 : decode cX12_packed 49 = .ok (.lstore 6, 2) := by decide +kernel
theorem dX12_packed_51 : decode cX12_packed 51 = .ok (.iload_n 2, 1) := by decide +kernel
theorem dX12_packed_52 : decode cX12_packed 52 = .ok (.ifCond .le 19, 3) := by decide +kernel
theorem dX12_packed_55 : decode cX12_packed 55 = .ok (.ldc2_w 128, 3) := by decide +kernel
theorem dX12_packed_58 : decode cX12_packed 58 = .ok (.lload 6, 2) := by decide +kernel
theorem dX12_packed_60 : decode cX12_packed 60 = .ok (.lmul, 1) := by decide +kernel
theorem dX12_packed_61 : decode cX12_packed 61 = .ok (.iload_n 2, 1) := by decide +kernel
theorem dX12_packed_62 : decode cX12_packed 62 = .ok (.i2l, 1) := by decide +kernel
theorem dX12_packed_63 : decode cX12_packed 63 = .ok (.ladd, 1) := by decide +kernel
theorem dX12_packed_64 : decode cX12_packed 64 = .ok (.ldc2_w 130, 3) := by decide +kernel
theorem dX12_packed_67 : decode cX12_packed 67 = .ok (.lsub, 1) := by decide +kernel
theorem dX12_packed_68 : decode cX12_packed 68 = .ok (.goto 5, 3) := by decide +kernel
theorem dX12_packed_71 : decode cX12_packed 71 = .ok (.lload 6, 2) := by decide +kernel
theorem dX12_packed_73 : decode cX12_packed 73 = .ok (.lstore 6, 2) := by decide +kernel
theorem dX12_packed_75 : decode cX12_packed 75 = .ok (.iload_n 3, 1) := by decide +kernel
theorem dX12_packed_76 : decode cX12_packed 76 = .ok (.ifCond .le 19, 3) := by decide +kernel
theorem dX12_packed_79 : decode cX12_packed 79 = .ok (.ldc2_w 128, 3) := by decide +kernel
theorem dX12_packed_82 : decode cX12_packed 82 = .ok (.lload 6, 2) := by decide +kernel
theorem dX12_packed_84 : decode cX12_packed 84 = .ok (.lmul, 1) := by decide +kernel
theorem dX12_packed_85 : decode cX12_packed 85 = .ok (.iload_n 3, 1) := by decide +kernel
theorem dX12_packed_86 : decode cX12_packed 86 = .ok (.i2l, 1) := by decide +kernel
theorem dX12_packed_87 : decode cX12_packed 87 = .ok (.ladd, 1) := by decide +kernel
theorem dX12_packed_88 : decode cX12_packed 88 = .ok (.ldc2_w 130, 3) := by decide +kernel
theorem dX12_packed_91 : decode cX12_packed 91 = .ok (.lsub, 1) := by decide +kernel
theorem dX12_packed_92 : decode cX12_packed 92 = .ok (.goto 5, 3) := by decide +kernel
theorem dX12_packed_95 : decode cX12_packed 95 = .ok (.lload 6, 2) := by decide +kernel
theorem dX12_packed_97 : decode cX12_packed 97 = .ok (.lstore 6, 2) := by decide +kernel
theorem dX12_packed_99 : decode cX12_packed 99 = .ok (.iload 4, 2) := by decide +kernel
theorem dX12_packed_101 : decode cX12_packed 101 = .ok (.ifCond .le 20, 3) := by decide +kernel
theorem dX12_packed_104 : decode cX12_packed 104 = .ok (.ldc2_w 128, 3) := by decide +kernel
theorem dX12_packed_107 : decode cX12_packed 107 = .ok (.lload 6, 2) := by decide +kernel
theorem dX12_packed_109 : decode cX12_packed 109 = .ok (.lmul, 1) := by decide +kernel
theorem dX12_packed_110 : decode cX12_packed 110 = .ok (.iload 4, 2) := by decide +kernel
theorem dX12_packed_112 : decode cX12_packed 112 = .ok (.i2l, 1) := by decide +kernel
theorem dX12_packed_113 : decode cX12_packed 113 = .ok (.ladd, 1) := by decide +kernel
theorem dX12_packed_114 : decode cX12_packed 114 = .ok (.ldc2_w 130, 3) := by decide +kernel
theorem dX12_packed_117 : decode cX12_packed 117 = .ok (.lsub, 1) := by decide +kernel
theorem dX12_packed_118 : decode cX12_packed 118 = .ok (.goto 5, 3) := by decide +kernel
theorem dX12_packed_121 : decode cX12_packed 121 = .ok (.lload 6, 2) := by decide +kernel
theorem dX12_packed_123 : decode cX12_packed 123 = .ok (.lstore 6, 2) := by decide +kernel
theorem dX12_packed_125 : decode cX12_packed 125 = .ok (.iload 5, 2) := by decide +kernel
theorem dX12_packed_127 : decode cX12_packed 127 = .ok (.ifCond .le 20, 3) := by decide +kernel
theorem dX12_packed_130 : decode cX12_packed 130 = .ok (.ldc2_w 128, 3) := by decide +kernel
theorem dX12_packed_133 : decode cX12_packed 133 = .ok (.lload 6, 2) := by decide +kernel
theorem dX12_packed_135 : decode cX12_packed 135 = .ok (.lmul, 1) := by decide +kernel
theorem dX12_packed_136 : decode cX12_packed 136 = .ok (.iload 5, 2) := by decide +kernel
theorem dX12_packed_138 : decode cX12_packed 138 = .ok (.i2l, 1) := by decide +kernel
theorem dX12_packed_139 : decode cX12_packed 139 = .ok (.ladd, 1) := by decide +kernel
theorem dX12_packed_140 : decode cX12_packed 140 = .ok (.ldc2_w 130, 3) := by decide +kernel
theorem dX12_packed_143 : decode cX12_packed 143 = .ok (.lsub, 1) := by decide +kernel
theorem dX12_packed_144 : decode cX12_packed 144 = .ok (.goto 5, 3) := by decide +kernel
theorem dX12_packed_147 : decode cX12_packed 147 = .ok (.lload 6, 2) := by decide +kernel
theorem dX12_packed_149 : decode cX12_packed 149 = .ok (.lstore 6, 2) := by decide +kernel
theorem dX12_packed_151 : decode cX12_packed 151 = .ok (.lload 6, 2) := by decide +kernel
theorem dX12_packed_153 : decode cX12_packed 153 = .ok (.lreturn, 1) := by decide +kernel
theorem dX12_named_0 : decode cX12_named 0 = .ok (.lload_n 0, 1) := by decide +kernel
theorem dX12_named_1 : decode cX12_named 1 = .ok (.bipush 114, 2) := by decide +kernel
theorem dX12_named_3 : decode cX12_named 3 = .ok (.bipush 105, 2) := by decide +kernel
theorem dX12_named_5 : decode cX12_named 5 = .ok (.bipush 115, 2) := by decide +kernel
theorem dX12_named_7 : decode cX12_named 7 = .ok (.bipush 101, 2) := by decide +kernel
theorem dX12_named_9 : decode cX12_named 9 = .ok (.iconst 0, 1) := by decide +kernel
theorem dX12_named_10 : decode cX12_named 10 = .ok (.iconst 0, 1) := by decide +kernel
theorem dX12_named_11 : decode cX12_named 11 = .ok (.invokestatic 132, 3) := by decide +kernel
theorem dX12_named_14 : decode cX12_named 14 = .ok (.lcmp, 1) := by decide +kernel
theorem dX12_named_15 : decode cX12_named 15 = .ok (.ifCond .ne 5, 3) := by decide +kernel
theorem dX12_named_18 : decode cX12_named 18 = .ok (.iconst 0, 1) := by decide +kernel
theorem dX12_named_19 : decode cX12_named 19 = .ok (.ireturn, 1) := by decide +kernel
theorem dX12_named_20 : decode cX12_named 20 = .ok (.lload_n 0, 1) := by decide +kernel
theorem dX12_named_21 : decode cX12_named 21 = .ok (.bipush 102, 2) := by decide +kernel
theorem dX12_named_23 : decode cX12_named 23 = .ok (.bipush 97, 2) := by decide +kernel
theorem dX12_named_25 : decode cX12_named 25 = .ok (.bipush 108, 2) := by decide +kernel
theorem dX12_named_27 : decode cX12_named 27 = .ok (.bipush 108, 2) := by decide +kernel
theorem dX12_named_29 : decode cX12_named 29 = .ok (.iconst 0, 1) := by decide +kernel
theorem dX12_named_30 : decode cX12_named 30 = .ok (.iconst 0, 1) := by decide +kernel
theorem dX12_named_31 : decode cX12_named 31 = .ok (.invokestatic 132, 3) := by decide +kernel
theorem dX12_named_34 : decode cX12_named 34 = .ok (.lcmp, 1) := by decide +kernel
theorem dX12_named_35 : decode cX12_named 35 = .ok (.ifCond .ne 5, 3) := by decide +kernel
theorem dX12_named_38 : decode cX12_named 38 = .ok (.iconst 1, 1) := by decide +kernel
theorem dX12_named_39 : decode cX12_named 39 = .ok (.ireturn, 1) := by decide +kernel
theorem dX12_named_40 : decode cX12_named 40 = .ok (.lload_n 0, 1) := by decide +kernel
theorem dX12_named_41 : decode cX12_named 41 = .ok (.bipush 119, 2) := by decide +kernel
theorem dX12_named_43 : decode cX12_named 43 = .ok (.bipush 105, 2) := by decide +kernel
theorem dX12_named_45 : decode cX12_named 45 = .ok (.bipush 100, 2) := by decide +kernel
theorem dX12_named_47 : decode cX12_named 47 = .ok (.bipush 101, 2) := by decide +kernel
theorem dX12_named_49 : decode cX12_named 49 = .ok (.iconst 0, 1) := by decide +kernel
theorem dX12_named_50 : decode cX12_named 50 = .ok (.iconst 0, 1) := by decide +kernel
theorem dX12_named_51 : decode cX12_named 51 = .ok (.invokestatic 132, 3) := by decide +kernel
theorem dX12_named_54 : decode cX12_named 54 = .ok (.lcmp, 1) := by decide +kernel
theorem dX12_named_55 : decode cX12_named 55 = .ok (.ifCond .ne 5, 3) := by decide +kernel
theorem dX12_named_58 : decode cX12_named 58 = .ok (.iconst 2, 1) := by decide +kernel
theorem dX12_named_59 : decode cX12_named 59 = .ok (.ireturn, 1) := by decide +kernel
theorem dX12_named_60 : decode cX12_named 60 = .ok (.lload_n 0, 1) := by decide +kernel
theorem dX12_named_61 : decode cX12_named 61 = .ok (.bipush 116, 2) := by decide +kernel
theorem dX12_named_63 : decode cX12_named 63 = .ok (.bipush 104, 2) := by decide +kernel
theorem dX12_named_65 : decode cX12_named 65 = .ok (.bipush 105, 2) := by decide +kernel
theorem dX12_named_67 : decode cX12_named 67 = .ok (.bipush 110, 2) := by decide +kernel
theorem dX12_named_69 : decode cX12_named 69 = .ok (.iconst 0, 1) := by decide +kernel
theorem dX12_named_70 : decode cX12_named 70 = .ok (.iconst 0, 1) := by decide +kernel
theorem dX12_named_71 : decode cX12_named 71 = .ok (.invokestatic 132, 3) := by decide +kernel
theorem dX12_named_74 : decode cX12_named 74 = .ok (.lcmp, 1) := by decide +kernel
theorem dX12_named_75 : decode cX12_named 75 = .ok (.ifCond .ne 5, 3) := by decide +kernel
theorem dX12_named_78 : decode cX12_named 78 = .ok (.iconst 3, 1) := by decide +kernel
theorem dX12_named_79 : decode cX12_named 79 = .ok (.ireturn, 1) := by decide +kernel
theorem dX12_named_80 : decode cX12_named 80 = .ok (.lload_n 0, 1) := by decide +kernel
theorem dX12_named_81 : decode cX12_named 81 = .ok (.bipush 114, 2) := by decide +kernel
theorem dX12_named_83 : decode cX12_named 83 = .ok (.bipush 117, 2) := by decide +kernel
theorem dX12_named_85 : decode cX12_named 85 = .ok (.bipush 110, 2) := by decide +kernel
theorem dX12_named_87 : decode cX12_named 87 = .ok (.bipush 116, 2) := by decide +kernel
theorem dX12_named_89 : decode cX12_named 89 = .ok (.iconst 0, 1) := by decide +kernel
theorem dX12_named_90 : decode cX12_named 90 = .ok (.iconst 0, 1) := by decide +kernel
theorem dX12_named_91 : decode cX12_named 91 = .ok (.invokestatic 132, 3) := by decide +kernel
theorem dX12_named_94 : decode cX12_named 94 = .ok (.lcmp, 1) := by decide +kernel
theorem dX12_named_95 : decode cX12_named 95 = .ok (.ifCond .ne 5, 3) := by decide +kernel
theorem dX12_named_98 : decode cX12_named 98 = .ok (.iconst 4, 1) := by decide +kernel
theorem dX12_named_99 : decode cX12_named 99 = .ok (.ireturn, 1) := by decide +kernel
theorem dX12_named_100 : decode cX12_named 100 = .ok (.lload_n 0, 1) := by decide +kernel
theorem dX12_named_101 : decode cX12_named 101 = .ok (.bipush 105, 2) := by decide +kernel
theorem dX12_named_103 : decode cX12_named 103 = .ok (.bipush 110, 2) := by decide +kernel
theorem dX12_named_105 : decode cX12_named 105 = .ok (.iconst 0, 1) := by decide +kernel
theorem dX12_named_106 : decode cX12_named 106 = .ok (.iconst 0, 1) := by decide +kernel
theorem dX12_named_107 : decode cX12_named 107 = .ok (.iconst 0, 1) := by decide +kernel
theorem dX12_named_108 : decode cX12_named 108 = .ok (.iconst 0, 1) := by decide +kernel
theorem dX12_named_109 : decode cX12_named 109 = .ok (.invokestatic 132, 3) := by decide +kernel
theorem dX12_named_112 : decode cX12_named 112 = .ok (.lcmp, 1) := by decide +kernel
theorem dX12_named_113 : decode cX12_named 113 = .ok (.ifCond .ne 5, 3) := by decide +kernel
theorem dX12_named_116 : decode cX12_named 116 = .ok (.iconst 5, 1) := by decide +kernel
theorem dX12_named_117 : decode cX12_named 117 = .ok (.ireturn, 1) := by decide +kernel
theorem dX12_named_118 : decode cX12_named 118 = .ok (.lload_n 0, 1) := by decide +kernel
theorem dX12_named_119 : decode cX12_named 119 = .ok (.bipush 111, 2) := by decide +kernel
theorem dX12_named_121 : decode cX12_named 121 = .ok (.bipush 117, 2) := by decide +kernel
theorem dX12_named_123 : decode cX12_named 123 = .ok (.bipush 116, 2) := by decide +kernel
theorem dX12_named_125 : decode cX12_named 125 = .ok (.iconst 0, 1) := by decide +kernel
theorem dX12_named_126 : decode cX12_named 126 = .ok (.iconst 0, 1) := by decide +kernel
theorem dX12_named_127 : decode cX12_named 127 = .ok (.iconst 0, 1) := by decide +kernel
theorem dX12_named_128 : decode cX12_named 128 = .ok (.invokestatic 132, 3) := by decide +kernel
theorem dX12_named_131 : decode cX12_named 131 = .ok (.lcmp, 1) := by decide +kernel
theorem dX12_named_132 : decode cX12_named 132 = .ok (.ifCond .ne 6, 3) := by decide +kernel
theorem dX12_named_135 : decode cX12_named 135 = .ok (.bipush 6, 2) := by decide +kernel
theorem dX12_named_137 : decode cX12_named 137 = .ok (.ireturn, 1) := by decide +kernel
theorem dX12_named_138 : decode cX12_named 138 = .ok (.lload_n 0, 1) := by decide +kernel
theorem dX12_named_139 : decode cX12_named 139 = .ok (.bipush 101, 2) := by decide +kernel
theorem dX12_named_141 : decode cX12_named 141 = .ok (.bipush 113, 2) := by decide +kernel
theorem dX12_named_143 : decode cX12_named 143 = .ok (.bipush 117, 2) := by decide +kernel
theorem dX12_named_145 : decode cX12_named 145 = .ok (.bipush 97, 2) := by decide +kernel
theorem dX12_named_147 : decode cX12_named 147 = .ok (.bipush 108, 2) := by decide +kernel
theorem dX12_named_149 : decode cX12_named 149 = .ok (.iconst 0, 1) := by decide +kernel
theorem dX12_named_150 : decode cX12_named 150 = .ok (.invokestatic 132, 3) := by decide +kernel
theorem dX12_named_153 : decode cX12_named 153 = .ok (.lcmp, 1) := by decide +kernel
theorem dX12_named_154 : decode cX12_named 154 = .ok (.ifCond .ne 6, 3) := by decide +kernel
theorem dX12_named_157 : decode cX12_named 157 = .ok (.bipush 7, 2) := by decide +kernel
theorem dX12_named_159 : decode cX12_named 159 = .ok (.ireturn, 1) := by decide +kernel
theorem dX12_named_160 : decode cX12_named 160 = .ok (.lload_n 0, 1) := by decide +kernel
theorem dX12_named_161 : decode cX12_named 161 = .ok (.bipush 119, 2) := by decide +kernel
theorem dX12_named_163 : decode cX12_named 163 = .ok (.bipush 105, 2) := by decide +kernel
theorem dX12_named_165 : decode cX12_named 165 = .ok (.bipush 116, 2) := by decide +kernel
theorem dX12_named_167 : decode cX12_named 167 = .ok (.bipush 104, 2) := by decide +kernel
theorem dX12_named_169 : decode cX12_named 169 = .ok (.bipush 105, 2) := by decide +kernel
theorem dX12_named_171 : decode cX12_named 171 = .ok (.bipush 110, 2) := by decide +kernel
theorem dX12_named_173 : decode cX12_named 173 = .ok (.invokestatic 132, 3) := by decide +kernel
theorem dX12_named_176 : decode cX12_named 176 = .ok (.lcmp, 1) := by decide +kernel
theorem dX12_named_177 : decode cX12_named 177 = .ok (.ifCond .ne 8, 3) := by decide +kernel
theorem dX12_named_180 : decode cX12_named 180 = .ok (.bipush 8, 2) := by decide +kernel
theorem dX12_named_182 : decode cX12_named 182 = .ok (.goto 5, 3) := by decide +kernel
theorem dX12_named_185 : decode cX12_named 185 = .ok (.bipush (-4), 2) := by decide +kernel
theorem dX12_named_187 : decode cX12_named 187 = .ok (.ireturn, 1) := by decide +kernel
theorem dX12_next_0 : decode cX12_next 0 = .ok (.aload_n 0, 1) := by decide +kernel
theorem dX12_next_1 : decode cX12_next 1 = .ok (.invokevirtual 136, 3) := by decide +kernel
theorem dX12_next_4 : decode cX12_next 4 = .ok (.bipush 32, 2) := by decide +kernel
theorem dX12_next_6 : decode cX12_next 6 = .ok (.if_icmp .ne 16, 3) := by decide +kernel
theorem dX12_next_9 : decode cX12_next 9 = .ok (.aload_n 0, 1) := by decide +kernel
theorem dX12_next_10 : decode cX12_next 10 = .ok (.dup, 1) := by decide +kernel
theorem dX12_next_11 : decode cX12_next 11 = .ok (.getfield 125, 3) := by decide +kernel
theorem dX12_next_14 : decode cX12_next 14 = .ok (.iconst 1, 1) := by decide +kernel
theorem dX12_next_15 : decode cX12_next 15 = .ok (.iadd, 1) := by decide +kernel
theorem dX12_next_16 : decode cX12_next 16 = .ok (.putfield 125, 3) := by decide +kernel
theorem dX12_next_19 : decode cX12_next 19 = .ok (.goto (-19), 3) := by decide +kernel
theorem dX12_next_22 : decode cX12_next 22 = .ok (.aload_n 0, 1) := by decide +kernel
theorem dX12_next_23 : decode cX12_next 23 = .ok (.aload_n 0, 1) := by decide +kernel
theorem dX12_next_24 : decode cX12_next 24 = .ok (.getfield 125, 3) := by decide +kernel
theorem dX12_next_27 : decode cX12_next 27 = .ok (.putfield 140, 3) := by decide +kernel
theorem dX12_next_30 : decode cX12_next 30 = .ok (.aload_n 0, 1) := by decide +kernel
theorem dX12_next_31 : decode cX12_next 31 = .ok (.invokevirtual 136, 3) := by decide +kernel
theorem dX12_next_34 : decode cX12_next 34 = .ok (.istore_n 1, 1) := by decide +kernel
theorem dX12_next_35 : decode cX12_next 35 = .ok (.iload_n 1, 1) := by decide +kernel
theorem dX12_next_36 : decode cX12_next 36 = .ok (.ifCond .ge 11, 3) := by decide +kernel
theorem dX12_next_39 : decode cX12_next 39 = .ok (.aload_n 0, 1) := by decide +kernel
theorem dX12_next_40 : decode cX12_next 40 = .ok (.iconst 0, 1) := by decide +kernel
theorem dX12_next_41 : decode cX12_next 41 = .ok (.putfield 143, 3) := by decide +kernel
theorem dX12_next_44 : decode cX12_next 44 = .ok (.goto 348, 3) := by decide +kernel
theorem dX12_next_47 : decode cX12_next 47 = .ok (.iload_n 1, 1) := by decide +kernel
theorem dX12_next_48 : decode cX12_next 48 = .ok (.i2l, 1) := by decide +kernel
theorem dX12_next_49 : decode cX12_next 49 = .ok (.ldc2_w 146, 3) := by decide +kernel
theorem dX12_next_52 : decode cX12_next 52 = .ok (.ldc2_w 148, 3) := by decide +kernel
theorem dX12_next_55 : decode cX12_next 55 = .ok (.invokestatic 115, 3) := by decide +kernel
theorem dX12_next_58 : decode cX12_next 58 = .ok (.ifCond .eq 117, 3) := by decide +kernel
theorem dX12_next_61 : decode cX12_next 61 = .ok (.aload_n 0, 1) := by decide +kernel
theorem dX12_next_62 : decode cX12_next 62 = .ok (.iconst 1, 1) := by decide +kernel
theorem dX12_next_63 : decode cX12_next 63 = .ok (.putfield 143, 3) := by decide +kernel
theorem dX12_next_66 : decode cX12_next 66 = .ok (.aload_n 0, 1) := by decide +kernel
theorem dX12_next_67 : decode cX12_next 67 = .ok (.lconst 0, 1) := by decide +kernel
theorem dX12_next_68 : decode cX12_next 68 = .ok (.putfield 150, 3) := by decide +kernel
theorem dX12_next_71 : decode cX12_next 71 = .ok (.aload_n 0, 1) := by decide +kernel
theorem dX12_next_72 : decode cX12_next 72 = .ok (.invokevirtual 136, 3) := by decide +kernel
theorem dX12_next_75 : decode cX12_next 75 = .ok (.i2l, 1) := by decide +kernel
theorem dX12_next_76 : decode cX12_next 76 = .ok (.ldc2_w 146, 3) := by decide +kernel
theorem dX12_next_79 : decode cX12_next 79 = .ok (.ldc2_w 148, 3) := by decide +kernel
theorem dX12_next_82 : decode cX12_next 82 = .ok (.invokestatic 115, 3) := by decide +kernel
theorem dX12_next_85 : decode cX12_next 85 = .ok (.ifCond .eq 58, 3) := by decide +kernel
theorem dX12_next_88 : decode cX12_next 88 = .ok (.aload_n 0, 1) := by decide +kernel
theorem dX12_next_89 : decode cX12_next 89 = .ok (.aload_n 0, 1) := by decide +kernel
theorem dX12_next_90 : decode cX12_next 90 = .ok (.getfield 125, 3) := by decide +kernel
theorem dX12_next_93 : decode cX12_next 93 = .ok (.aload_n 0, 1) := by decide +kernel
theorem dX12_next_94 : decode cX12_next 94 = .ok (.getfield 140, 3) := by decide +kernel
theorem dX12_next_97 : decode cX12_next 97 = .ok (.isub, 1) := by decide +kernel
theorem dX12_next_98 : decode cX12_next 98 = .ok (.bipush 6, 2) := by decide +kernel
theorem dX12_next_100 : decode cX12_next 100 = .ok (.if_icmp .ge 24, 3) := by decide +kernel
theorem dX12_next_103 : decode cX12_next 103 = .ok (.ldc2_w 128, 3) := by decide +kernel
theorem dX12_next_106 : decode cX12_next 106 = .ok (.aload_n 0, 1) := by decide +kernel
theorem dX12_next_107 : decode cX12_next 107 = .ok (.getfield 150, 3) := by decide +kernel
theorem dX12_next_110 : decode cX12_next 110 = .ok (.lmul, 1) := by decide +kernel
theorem dX12_next_111 : decode cX12_next 111 = .ok (.aload_n 0, 1) := by decide +kernel
theorem dX12_next_112 : decode cX12_next 112 = .ok (.invokevirtual 136, 3) := by decide +kernel
theorem dX12_next_115 : decode cX12_next 115 = .ok (.i2l, 1) := by decide +kernel
theorem dX12_next_116 : decode cX12_next 116 = .ok (.ladd, 1) := by decide +kernel
theorem dX12_next_117 : decode cX12_next 117 = .ok (.ldc2_w 130, 3) := by decide +kernel
theorem dX12_next_120 : decode cX12_next 120 = .ok (.lsub, 1) := by decide +kernel
theorem dX12_next_121 : decode cX12_next 121 = .ok (.goto 6, 3) := by decide +kernel
theorem dX12_next_124 : decode cX12_next 124 = .ok (.ldc2_w 154, 3) := by decide +kernel
theorem dX12_next_127 : decode cX12_next 127 = .ok (.putfield 150, 3) := by decide +kernel
theorem dX12_next_130 : decode cX12_next 130 = .ok (.aload_n 0, 1) := by decide +kernel
theorem dX12_next_131 : decode cX12_next 131 = .ok (.dup, 1) := by decide +kernel
theorem dX12_next_132 : decode cX12_next 132 = .ok (.getfield 125, 3) := by decide +kernel
theorem dX12_next_135 : decode cX12_next 135 = .ok (.iconst 1, 1) := by decide +kernel
theorem dX12_next_136 : decode cX12_next 136 = .ok (.iadd, 1) := by decide +kernel
theorem dX12_next_137 : decode cX12_next 137 = .ok (.putfield 125, 3) := by decide +kernel
theorem dX12_next_140 : decode cX12_next 140 = .ok (.goto (-69), 3) := by decide +kernel
theorem dX12_next_143 : decode cX12_next 143 = .ok (.aload_n 0, 1) := by decide +kernel
theorem dX12_next_144 : decode cX12_next 144 = .ok (.aload_n 0, 1) := by decide +kernel
theorem dX12_next_145 : decode cX12_next 145 = .ok (.getfield 150, 3) := by decide +kernel
theorem dX12_next_148 : decode cX12_next 148 = .ok (.invokestatic 156, 3) := by decide +kernel
theorem dX12_next_151 : decode cX12_next 151 = .ok (.putfield 160, 3) := by decide +kernel
theorem dX12_next_154 : decode cX12_next 154 = .ok (.aload_n 0, 1) := by decide +kernel
theorem dX12_next_155 : decode cX12_next 155 = .ok (.getfield 160, 3) := by decide +kernel
theorem dX12_next_158 : decode cX12_next 158 = .ok (.bipush (-4), 2) := by decide +kernel
theorem dX12_next_160 : decode cX12_next 160 = .ok (.if_icmp .ne 232, 3) := by decide +kernel
theorem dX12_next_163 : decode cX12_next 163 = .ok (.aload_n 0, 1) := by decide +kernel
theorem dX12_next_164 : decode cX12_next 164 = .ok (.iconst 1, 1) := by decide +kernel
theorem dX12_next_165 : decode cX12_next 165 = .ok (.aload_n 0, 1) := by decide +kernel
theorem dX12_next_166 : decode cX12_next 166 = .ok (.getfield 140, 3) := by decide +kernel
theorem dX12_next_169 : decode cX12_next 169 = .ok (.invokevirtual 163, 3) := by decide +kernel
theorem dX12_next_172 : decode cX12_next 172 = .ok (.goto 220, 3) := by decide +kernel
theorem dX12_next_175 : decode cX12_next 175 = .ok (.iload_n 1, 1) := by decide +kernel
theorem dX12_next_176 : decode cX12_next 176 = .ok (.bipush 45, 2) := by decide +kernel
theorem dX12_next_178 : decode cX12_next 178 = .ok (.if_icmp .eq 17, 3) := by decide +kernel
theorem dX12_next_181 : decode cX12_next 181 = .ok (.iload_n 1, 1) := by decide +kernel
theorem dX12_next_182 : decode cX12_next 182 = .ok (.i2l, 1) := by decide +kernel
theorem dX12_next_183 : decode cX12_next 183 = .ok (.ldc2_w 167, 3) := by decide +kernel
theorem dX12_next_186 : decode cX12_next 186 = .ok (.ldc2_w 169, 3) := by decide +kernel
theorem dX12_next_189 : decode cX12_next 189 = .ok (.invokestatic 115, 3) := by decide +kernel
theorem dX12_next_192 : decode cX12_next 192 = .ok (.ifCond .eq 156, 3) := by decide +kernel
theorem dX12_next_195 : decode cX12_next 195 = .ok (.aload_n 0, 1) := by decide +kernel
theorem dX12_next_196 : decode cX12_next 196 = .ok (.iconst 2, 1) := by decide +kernel
theorem dX12_next_197 : decode cX12_next 197 = .ok (.putfield 143, 3) := by decide +kernel
theorem dX12_next_200 : decode cX12_next 200 = .ok (.aload_n 0, 1) := by decide +kernel
theorem dX12_next_201 : decode cX12_next 201 = .ok (.dup, 1) := by decide +kernel
theorem dX12_next_202 : decode cX12_next 202 = .ok (.getfield 125, 3) := by decide +kernel
theorem dX12_next_205 : decode cX12_next 205 = .ok (.iload_n 1, 1) := by decide +kernel
theorem dX12_next_206 : decode cX12_next 206 = .ok (.bipush 45, 2) := by decide +kernel
theorem dX12_next_208 : decode cX12_next 208 = .ok (.if_icmp .ne 7, 3) := by decide +kernel
theorem dX12_next_211 : decode cX12_next 211 = .ok (.iconst 1, 1) := by decide +kernel
theorem dX12_next_212 : decode cX12_next 212 = .ok (.goto 4, 3) := by decide +kernel
theorem dX12_next_215 : decode cX12_next 215 = .ok (.iconst 0, 1) := by decide +kernel
theorem dX12_next_216 : decode cX12_next 216 = .ok (.iadd, 1) := by decide +kernel
theorem dX12_next_217 : decode cX12_next 217 = .ok (.putfield 125, 3) := by decide +kernel
theorem dX12_next_220 : decode cX12_next 220 = .ok (.aload_n 0, 1) := by decide +kernel
theorem dX12_next_221 : decode cX12_next 221 = .ok (.getfield 125, 3) := by decide +kernel
theorem dX12_next_224 : decode cX12_next 224 = .ok (.istore_n 2, 1) := by decide +kernel
theorem dX12_next_225 : decode cX12_next 225 = .ok (.aload_n 0, 1) := by decide +kernel
theorem dX12_next_226 : decode cX12_next 226 = .ok (.iconst 0, 1) := by decide +kernel
theorem dX12_next_227 : decode cX12_next 227 = .ok (.putfield 160, 3) := by decide +kernel
theorem dX12_next_230 : decode cX12_next 230 = .ok (.aload_n 0, 1) := by decide +kernel
theorem dX12_next_231 : decode cX12_next 231 = .ok (.invokevirtual 136, 3) := by decide +kernel
theorem dX12_next_234 : decode cX12_next 234 = .ok (.i2l, 1) := by decide +kernel
theorem dX12_next_235 : decode cX12_next 235 = .ok (.ldc2_w 167, 3) := by decide +kernel
theorem dX12_next_238 : decode cX12_next 238 = .ok (.ldc2_w 169, 3) := by decide +kernel
theorem dX12_next_241 : decode cX12_next 241 = .ok (.invokestatic 115, 3) := by decide +kernel
theorem dX12_next_244 : decode cX12_next 244 = .ok (.ifCond .eq 52, 3) := by decide +kernel
theorem dX12_next_247 : decode cX12_next 247 = .ok (.aload_n 0, 1) := by decide +kernel
theorem dX12_next_248 : decode cX12_next 248 = .ok (.aload_n 0, 1) := by decide +kernel
theorem dX12_next_249 : decode cX12_next 249 = .ok (.getfield 125, 3) := by decide +kernel
theorem dX12_next_252 : decode cX12_next 252 = .ok (.iload_n 2, 1) := by decide +kernel
theorem dX12_next_253 : decode cX12_next 253 = .ok (.isub, 1) := by decide +kernel
theorem dX12_next_254 : decode cX12_next 254 = .ok (.iconst 3, 1) := by decide +kernel
theorem dX12_next_255 : decode cX12_next 255 = .ok (.if_icmp .ge 21, 3) := by decide +kernel
theorem dX12_next_258 : decode cX12_next 258 = .ok (.bipush 10, 2) := by decide +kernel
theorem dX12_next_260 : decode cX12_next 260 = .ok (.aload_n 0, 1) := by decide +kernel
theorem dX12_next_261 : decode cX12_next 261 = .ok (.getfield 160, 3) := by decide +kernel
theorem dX12_next_264 : decode cX12_next 264 = .ok (.imul, 1) := by decide +kernel
theorem dX12_next_265 : decode cX12_next 265 = .ok (.aload_n 0, 1) := by decide +kernel
theorem dX12_next_266 : decode cX12_next 266 = .ok (.invokevirtual 136, 3) := by decide +kernel
theorem dX12_next_269 : decode cX12_next 269 = .ok (.iadd, 1) := by decide +kernel
theorem dX12_next_270 : decode cX12_next 270 = .ok (.bipush 48, 2) := by decide +kernel
theorem dX12_next_272 : decode cX12_next 272 = .ok (.isub, 1) := by decide +kernel
theorem dX12_next_273 : decode cX12_next 273 = .ok (.goto 7, 3) := by decide +kernel
theorem dX12_next_276 : decode cX12_next 276 = .ok (.aload_n 0, 1) := by decide +kernel
theorem dX12_next_277 : decode cX12_next 277 = .ok (.getfield 160, 3) := by decide +kernel
theorem dX12_next_280 : decode cX12_next 280 = .ok (.putfield 160, 3) := by decide +kernel
theorem dX12_next_283 : decode cX12_next 283 = .ok (.aload_n 0, 1) := by decide +kernel
theorem dX12_next_284 : decode cX12_next 284 = .ok (.dup, 1) := by decide +kernel
theorem dX12_next_285 : decode cX12_next 285 = .ok (.getfield 125, 3) := by decide +kernel
theorem dX12_next_288 : decode cX12_next 288 = .ok (.iconst 1, 1) := by decide +kernel
theorem dX12_next_289 : decode cX12_next 289 = .ok (.iadd, 1) := by decide +kernel
theorem dX12_next_290 : decode cX12_next 290 = .ok (.putfield 125, 3) := by decide +kernel
theorem dX12_next_293 : decode cX12_next 293 = .ok (.goto (-63), 3) := by decide +kernel
theorem dX12_next_296 : decode cX12_next 296 = .ok (.aload_n 0, 1) := by decide +kernel
theorem dX12_next_297 : decode cX12_next 297 = .ok (.iload_n 1, 1) := by decide +kernel
theorem dX12_next_298 : decode cX12_next 298 = .ok (.bipush 45, 2) := by decide +kernel
theorem dX12_next_300 : decode cX12_next 300 = .ok (.if_icmp .ne 11, 3) := by decide +kernel
theorem dX12_next_303 : decode cX12_next 303 = .ok (.aload_n 0, 1) := by decide +kernel
theorem dX12_next_304 : decode cX12_next 304 = .ok (.getfield 160, 3) := by decide +kernel
theorem dX12_next_307 : decode cX12_next 307 = .ok (.ineg, 1) := by decide +kernel
theorem dX12_next_308 : decode cX12_next 308 = .ok (.goto 7, 3) := by decide +kernel
theorem dX12_next_311 : decode cX12_next 311 = .ok (.aload_n 0, 1) := by decide +kernel
theorem dX12_next_312 : decode cX12_next 312 = .ok (.getfield 160, 3) := by decide +kernel
theorem dX12_next_315 : decode cX12_next 315 = .ok (.putfield 160, 3) := by decide +kernel
theorem dX12_next_318 : decode cX12_next 318 = .ok (.aload_n 0, 1) := by decide +kernel
theorem dX12_next_319 : decode cX12_next 319 = .ok (.getfield 125, 3) := by decide +kernel
theorem dX12_next_322 : decode cX12_next 322 = .ok (.iload_n 2, 1) := by decide +kernel
theorem dX12_next_323 : decode cX12_next 323 = .ok (.if_icmp .eq 13, 3) := by decide +kernel
theorem dX12_next_326 : decode cX12_next 326 = .ok (.aload_n 0, 1) := by decide +kernel
theorem dX12_next_327 : decode cX12_next 327 = .ok (.getfield 125, 3) := by decide +kernel
theorem dX12_next_330 : decode cX12_next 330 = .ok (.iload_n 2, 1) := by decide +kernel
theorem dX12_next_331 : decode cX12_next 331 = .ok (.isub, 1) := by decide +kernel
theorem dX12_next_332 : decode cX12_next 332 = .ok (.iconst 3, 1) := by decide +kernel
theorem dX12_next_333 : decode cX12_next 333 = .ok (.if_icmp .le 12, 3) := by decide +kernel
theorem dX12_next_336 : decode cX12_next 336 = .ok (.aload_n 0, 1) := by decide +kernel
theorem dX12_next_337 : decode cX12_next 337 = .ok (.iconst 1, 1) := by decide +kernel
theorem dX12_next_338 : decode cX12_next 338 = .ok (.aload_n 0, 1) := by decide +kernel
theorem dX12_next_339 : decode cX12_next 339 = .ok (.getfield 140, 3) := by decide +kernel
theorem dX12_next_342 : decode cX12_next 342 = .ok (.invokevirtual 163, 3) := by decide +kernel
theorem dX12_next_345 : decode cX12_next 345 = .ok (.goto 47, 3) := by decide +kernel
theorem dX12_next_348 : decode cX12_next 348 = .ok (.iload_n 1, 1) := by decide +kernel
theorem dX12_next_349 : decode cX12_next 349 = .ok (.bipush 42, 2) := by decide +kernel
theorem dX12_next_351 : decode cX12_next 351 = .ok (.if_icmp .eq 9, 3) := by decide +kernel
theorem dX12_next_354 : decode cX12_next 354 = .ok (.iload_n 1, 1) := by decide +kernel
theorem dX12_next_355 : decode cX12_next 355 = .ok (.bipush 59, 2) := by decide +kernel
theorem dX12_next_357 : decode cX12_next 357 = .ok (.if_icmp .ne 26, 3) := by decide +kernel
theorem dX12_next_360 : decode cX12_next 360 = .ok (.aload_n 0, 1) := by decide +kernel
theorem dX12_next_361 : decode cX12_next 361 = .ok (.iconst 3, 1) := by decide +kernel
theorem dX12_next_362 : decode cX12_next 362 = .ok (.putfield 143, 3) := by decide +kernel
theorem dX12_next_365 : decode cX12_next 365 = .ok (.aload_n 0, 1) := by decide +kernel
theorem dX12_next_366 : decode cX12_next 366 = .ok (.iload_n 1, 1) := by decide +kernel
theorem dX12_next_367 : decode cX12_next 367 = .ok (.putfield 160, 3) := by decide +kernel
theorem dX12_next_370 : decode cX12_next 370 = .ok (.aload_n 0, 1) := by decide +kernel
theorem dX12_next_371 : decode cX12_next 371 = .ok (.dup, 1) := by decide +kernel
theorem dX12_next_372 : decode cX12_next 372 = .ok (.getfield 125, 3) := by decide +kernel
theorem dX12_next_375 : decode cX12_next 375 = .ok (.iconst 1, 1) := by decide +kernel
theorem dX12_next_376 : decode cX12_next 376 = .ok (.iadd, 1) := by decide +kernel
theorem dX12_next_377 : decode cX12_next 377 = .ok (.putfield 125, 3) := by decide +kernel
theorem dX12_next_380 : decode cX12_next 380 = .ok (.goto 12, 3) := by decide +kernel
theorem dX12_next_383 : decode cX12_next 383 = .ok (.aload_n 0, 1) := by decide +kernel
theorem dX12_next_384 : decode cX12_next 384 = .ok (.iconst 1, 1) := by decide +kernel
theorem dX12_next_385 : decode cX12_next 385 = .ok (.aload_n 0, 1) := by decide +kernel
theorem dX12_next_386 : decode cX12_next 386 = .ok (.getfield 140, 3) := by decide +kernel
theorem dX12_next_389 : decode cX12_next 389 = .ok (.invokevirtual 163, 3) := by decide +kernel
theorem dX12_next_392 : decode cX12_next 392 = .ok (.return_, 1) := by decide +kernel
theorem dX12_taken_0 : decode cX12_taken 0 = .ok (.aload_n 0, 1) := by decide +kernel
theorem dX12_taken_1 : decode cX12_taken 1 = .ok (.getfield 119, 3) := by decide +kernel
theorem dX12_taken_4 : decode cX12_taken 4 = .ok (.ifCond .ne 20, 3) := by decide +kernel
theorem dX12_taken_7 : decode cX12_taken 7 = .ok (.aload_n 0, 1) := by decide +kernel
theorem dX12_taken_8 : decode cX12_taken 8 = .ok (.getfield 143, 3) := by decide +kernel
theorem dX12_taken_11 : decode cX12_taken 11 = .ok (.iconst 2, 1) := by decide +kernel
theorem dX12_taken_12 : decode cX12_taken 12 = .ok (.if_icmp .eq 12, 3) := by decide +kernel
theorem dX12_taken_15 : decode cX12_taken 15 = .ok (.aload_n 0, 1) := by decide +kernel
theorem dX12_taken_16 : decode cX12_taken 16 = .ok (.iconst 2, 1) := by decide +kernel
theorem dX12_taken_17 : decode cX12_taken 17 = .ok (.aload_n 0, 1) := by decide +kernel
theorem dX12_taken_18 : decode cX12_taken 18 = .ok (.getfield 140, 3) := by decide +kernel
theorem dX12_taken_21 : decode cX12_taken 21 = .ok (.invokevirtual 163, 3) := by decide +kernel
theorem dX12_taken_24 : decode cX12_taken 24 = .ok (.aload_n 0, 1) := by decide +kernel
theorem dX12_taken_25 : decode cX12_taken 25 = .ok (.getfield 119, 3) := by decide +kernel
theorem dX12_taken_28 : decode cX12_taken 28 = .ok (.ifCond .ne 27, 3) := by decide +kernel
theorem dX12_taken_31 : decode cX12_taken 31 = .ok (.aload_n 0, 1) := by decide +kernel
theorem dX12_taken_32 : decode cX12_taken 32 = .ok (.getfield 160, 3) := by decide +kernel
theorem dX12_taken_35 : decode cX12_taken 35 = .ok (.i2l, 1) := by decide +kernel
theorem dX12_taken_36 : decode cX12_taken 36 = .ok (.iload_n 1, 1) := by decide +kernel
theorem dX12_taken_37 : decode cX12_taken 37 = .ok (.i2l, 1) := by decide +kernel
theorem dX12_taken_38 : decode cX12_taken 38 = .ok (.iload_n 2, 1) := by decide +kernel
theorem dX12_taken_39 : decode cX12_taken 39 = .ok (.i2l, 1) := by decide +kernel
theorem dX12_taken_40 : decode cX12_taken 40 = .ok (.invokestatic 115, 3) := by decide +kernel
theorem dX12_taken_43 : decode cX12_taken 43 = .ok (.ifCond .ne 12, 3) := by decide +kernel
theorem dX12_taken_46 : decode cX12_taken 46 = .ok (.aload_n 0, 1) := by decide +kernel
theorem dX12_taken_47 : decode cX12_taken 47 = .ok (.iconst 3, 1) := by decide +kernel
theorem dX12_taken_48 : decode cX12_taken 48 = .ok (.aload_n 0, 1) := by decide +kernel
theorem dX12_taken_49 : decode cX12_taken 49 = .ok (.getfield 140, 3) := by decide +kernel
theorem dX12_taken_52 : decode cX12_taken 52 = .ok (.invokevirtual 163, 3) := by decide +kernel
theorem dX12_taken_55 : decode cX12_taken 55 = .ok (.aload_n 0, 1) := by decide +kernel
theorem dX12_taken_56 : decode cX12_taken 56 = .ok (.getfield 160, 3) := by decide +kernel
theorem dX12_taken_59 : decode cX12_taken 59 = .ok (.istore_n 3, 1) := by decide +kernel
theorem dX12_taken_60 : decode cX12_taken 60 = .ok (.aload_n 0, 1) := by decide +kernel
theorem dX12_taken_61 : decode cX12_taken 61 = .ok (.getfield 119, 3) := by decide +kernel
theorem dX12_taken_64 : decode cX12_taken 64 = .ok (.ifCond .ne 7, 3) := by decide +kernel
theorem dX12_taken_67 : decode cX12_taken 67 = .ok (.aload_n 0, 1) := by decide +kernel
theorem dX12_taken_68 : decode cX12_taken 68 = .ok (.invokevirtual 171, 3) := by decide +kernel
theorem dX12_taken_71 : decode cX12_taken 71 = .ok (.iload_n 3, 1) := by decide +kernel
theorem dX12_taken_72 : decode cX12_taken 72 = .ok (.ireturn, 1) := by decide +kernel
theorem dX12_readEvent_0 : decode cX12_readEvent 0 = .ok (.aload_n 0, 1) := by decide +kernel
theorem dX12_readEvent_1 : decode cX12_readEvent 1 = .ok (.getfield 119, 3) := by decide +kernel
theorem dX12_readEvent_4 : decode cX12_readEvent 4 = .ok (.ifCond .ne 29, 3) := by decide +kernel
theorem dX12_readEvent_7 : decode cX12_readEvent 7 = .ok (.aload_n 0, 1) := by decide +kernel
theorem dX12_readEvent_8 : decode cX12_readEvent 8 = .ok (.getfield 143, 3) := by decide +kernel
theorem dX12_readEvent_11 : decode cX12_readEvent 11 = .ok (.iconst 1, 1) := by decide +kernel
theorem dX12_readEvent_12 : decode cX12_readEvent 12 = .ok (.if_icmp .ne 12, 3) := by decide +kernel
theorem dX12_readEvent_15 : decode cX12_readEvent 15 = .ok (.aload_n 0, 1) := by decide +kernel
theorem dX12_readEvent_16 : decode cX12_readEvent 16 = .ok (.getfield 160, 3) := by decide +kernel
theorem dX12_readEvent_19 : decode cX12_readEvent 19 = .ok (.bipush 8, 2) := by decide +kernel
theorem dX12_readEvent_21 : decode cX12_readEvent 21 = .ok (.if_icmp .ne 12, 3) := by decide +kernel
theorem dX12_readEvent_24 : decode cX12_readEvent 24 = .ok (.aload_n 0, 1) := by decide +kernel
theorem dX12_readEvent_25 : decode cX12_readEvent 25 = .ok (.iconst 2, 1) := by decide +kernel
theorem dX12_readEvent_26 : decode cX12_readEvent 26 = .ok (.aload_n 0, 1) := by decide +kernel
theorem dX12_readEvent_27 : decode cX12_readEvent 27 = .ok (.getfield 140, 3) := by decide +kernel
theorem dX12_readEvent_30 : decode cX12_readEvent 30 = .ok (.invokevirtual 163, 3) := by decide +kernel
theorem dX12_readEvent_33 : decode cX12_readEvent 33 = .ok (.aload_n 0, 1) := by decide +kernel
theorem dX12_readEvent_34 : decode cX12_readEvent 34 = .ok (.getfield 119, 3) := by decide +kernel
theorem dX12_readEvent_37 : decode cX12_readEvent 37 = .ok (.ifCond .le 4, 3) := by decide +kernel
theorem dX12_readEvent_40 : decode cX12_readEvent 40 = .ok (.return_, 1) := by decide +kernel
theorem dX12_readEvent_41 : decode cX12_readEvent 41 = .ok (.aload_n 0, 1) := by decide +kernel
theorem dX12_readEvent_42 : decode cX12_readEvent 42 = .ok (.getfield 160, 3) := by decide +kernel
theorem dX12_readEvent_45 : decode cX12_readEvent 45 = .ok (.istore_n 2, 1) := by decide +kernel
theorem dX12_readEvent_46 : decode cX12_readEvent 46 = .ok (.aload_n 0, 1) := by decide +kernel
theorem dX12_readEvent_47 : decode cX12_readEvent 47 = .ok (.getfield 38, 3) := by decide +kernel
theorem dX12_readEvent_50 : decode cX12_readEvent 50 = .ok (.iload_n 1, 1) := by decide +kernel
theorem dX12_readEvent_51 : decode cX12_readEvent 51 = .ok (.iload_n 2, 1) := by decide +kernel
theorem dX12_readEvent_52 : decode cX12_readEvent 52 = .ok (.iastore, 1) := by decide +kernel
theorem dX12_readEvent_53 : decode cX12_readEvent 53 = .ok (.aload_n 0, 1) := by decide +kernel
theorem dX12_readEvent_54 : decode cX12_readEvent 54 = .ok (.invokevirtual 171, 3) := by decide +kernel
theorem dX12_readEvent_57 : decode cX12_readEvent 57 = .ok (.aload_n 0, 1) := by decide +kernel
theorem dX12_readEvent_58 : decode cX12_readEvent 58 = .ok (.getfield 41, 3) := by decide +kernel
theorem dX12_readEvent_61 : decode cX12_readEvent 61 = .ok (.iload_n 1, 1) := by decide +kernel
theorem dX12_readEvent_62 : decode cX12_readEvent 62 = .ok (.aload_n 0, 1) := by decide +kernel
theorem dX12_readEvent_63 : decode cX12_readEvent 63 = .ok (.iconst 0, 1) := by decide +kernel
theorem dX12_readEvent_64 : decode cX12_readEvent 64 = .ok (.iconst 3, 1) := by decide +kernel
theorem dX12_readEvent_65 : decode cX12_readEvent 65 = .ok (.invokevirtual 174, 3) := by decide +kernel
theorem dX12_readEvent_68 : decode cX12_readEvent 68 = .ok (.iastore, 1) := by decide +kernel
theorem dX12_readEvent_69 : decode cX12_readEvent 69 = .ok (.aload_n 0, 1) := by decide +kernel
theorem dX12_readEvent_70 : decode cX12_readEvent 70 = .ok (.getfield 44, 3) := by decide +kernel
theorem dX12_readEvent_73 : decode cX12_readEvent 73 = .ok (.iload_n 1, 1) := by decide +kernel
theorem dX12_readEvent_74 : decode cX12_readEvent 74 = .ok (.iload_n 2, 1) := by decide +kernel
theorem dX12_readEvent_75 : decode cX12_readEvent 75 = .ok (.bipush 7, 2) := by decide +kernel
theorem dX12_readEvent_77 : decode cX12_readEvent 77 = .ok (.if_icmp .ne 12, 3) := by decide +kernel
theorem dX12_readEvent_80 : decode cX12_readEvent 80 = .ok (.aload_n 0, 1) := by decide +kernel
theorem dX12_readEvent_81 : decode cX12_readEvent 81 = .ok (.iconst 0, 1) := by decide +kernel
theorem dX12_readEvent_82 : decode cX12_readEvent 82 = .ok (.iconst 3, 1) := by decide +kernel
theorem dX12_readEvent_83 : decode cX12_readEvent 83 = .ok (.invokevirtual 174, 3) := by decide +kernel
theorem dX12_readEvent_86 : decode cX12_readEvent 86 = .ok (.goto 11, 3) := by decide +kernel
theorem dX12_readEvent_89 : decode cX12_readEvent 89 = .ok (.aload_n 0, 1) := by decide +kernel
theorem dX12_readEvent_90 : decode cX12_readEvent 90 = .ok (.bipush (-128), 2) := by decide +kernel
theorem dX12_readEvent_92 : decode cX12_readEvent 92 = .ok (.bipush 127, 2) := by decide +kernel
theorem dX12_readEvent_94 : decode cX12_readEvent 94 = .ok (.invokevirtual 174, 3) := by decide +kernel
theorem dX12_readEvent_97 : decode cX12_readEvent 97 = .ok (.iastore, 1) := by decide +kernel
theorem dX12_readEvent_98 : decode cX12_readEvent 98 = .ok (.aload_n 0, 1) := by decide +kernel
theorem dX12_readEvent_99 : decode cX12_readEvent 99 = .ok (.getfield 47, 3) := by decide +kernel
theorem dX12_readEvent_102 : decode cX12_readEvent 102 = .ok (.iload_n 1, 1) := by decide +kernel
theorem dX12_readEvent_103 : decode cX12_readEvent 103 = .ok (.iconst 0, 1) := by decide +kernel
theorem dX12_readEvent_104 : decode cX12_readEvent 104 = .ok (.iastore, 1) := by decide +kernel
theorem dX12_readEvent_105 : decode cX12_readEvent 105 = .ok (.iload_n 2, 1) := by decide +kernel
theorem dX12_readEvent_106 : decode cX12_readEvent 106 = .ok (.iconst 2, 1) := by decide +kernel
theorem dX12_readEvent_107 : decode cX12_readEvent 107 = .ok (.if_icmp .eq 8, 3) := by decide +kernel
theorem dX12_readEvent_110 : decode cX12_readEvent 110 = .ok (.iload_n 2, 1) := by decide +kernel
theorem dX12_readEvent_111 : decode cX12_readEvent 111 = .ok (.iconst 3, 1) := by decide +kernel
theorem dX12_readEvent_112 : decode cX12_readEvent 112 = .ok (.if_icmp .ne 20, 3) := by decide +kernel
theorem dX12_readEvent_115 : decode cX12_readEvent 115 = .ok (.aload_n 0, 1) := by decide +kernel
theorem dX12_readEvent_116 : decode cX12_readEvent 116 = .ok (.getfield 47, 3) := by decide +kernel
theorem dX12_readEvent_119 : decode cX12_readEvent 119 = .ok (.iload_n 1, 1) := by decide +kernel
theorem dX12_readEvent_120 : decode cX12_readEvent 120 = .ok (.aload_n 0, 1) := by decide +kernel
theorem dX12_readEvent_121 : decode cX12_readEvent 121 = .ok (.iconst 1, 1) := by decide +kernel
theorem dX12_readEvent_122 : decode cX12_readEvent 122 = .ok (.sipush 200, 3) := by decide +kernel
theorem dX12_readEvent_125 : decode cX12_readEvent 125 = .ok (.invokevirtual 174, 3) := by decide +kernel
theorem dX12_readEvent_128 : decode cX12_readEvent 128 = .ok (.iastore, 1) := by decide +kernel
theorem dX12_readEvent_129 : decode cX12_readEvent 129 = .ok (.goto 87, 3) := by decide +kernel
theorem dX12_readEvent_132 : decode cX12_readEvent 132 = .ok (.iload_n 2, 1) := by decide +kernel
theorem dX12_readEvent_133 : decode cX12_readEvent 133 = .ok (.iconst 4, 1) := by decide +kernel
theorem dX12_readEvent_134 : decode cX12_readEvent 134 = .ok (.if_icmp .eq 14, 3) := by decide +kernel
theorem dX12_readEvent_137 : decode cX12_readEvent 137 = .ok (.iload_n 2, 1) := by decide +kernel
theorem dX12_readEvent_138 : decode cX12_readEvent 138 = .ok (.iconst 5, 1) := by decide +kernel
theorem dX12_readEvent_139 : decode cX12_readEvent 139 = .ok (.if_icmp .eq 9, 3) := by decide +kernel
theorem dX12_readEvent_142 : decode cX12_readEvent 142 = .ok (.iload_n 2, 1) := by decide +kernel
theorem dX12_readEvent_143 : decode cX12_readEvent 143 = .ok (.bipush 6, 2) := by decide +kernel
theorem dX12_readEvent_145 : decode cX12_readEvent 145 = .ok (.if_icmp .ne 71, 3) := by decide +kernel
theorem dX12_readEvent_148 : decode cX12_readEvent 148 = .ok (.aload_n 0, 1) := by decide +kernel
theorem dX12_readEvent_149 : decode cX12_readEvent 149 = .ok (.getfield 119, 3) := by decide +kernel
theorem dX12_readEvent_152 : decode cX12_readEvent 152 = .ok (.ifCond .ne 50, 3) := by decide +kernel
theorem dX12_readEvent_155 : decode cX12_readEvent 155 = .ok (.aload_n 0, 1) := by decide +kernel
theorem dX12_readEvent_156 : decode cX12_readEvent 156 = .ok (.getfield 143, 3) := by decide +kernel
theorem dX12_readEvent_159 : decode cX12_readEvent 159 = .ok (.iconst 2, 1) := by decide +kernel
theorem dX12_readEvent_160 : decode cX12_readEvent 160 = .ok (.if_icmp .ne 42, 3) := by decide +kernel
theorem dX12_readEvent_163 : decode cX12_readEvent 163 = .ok (.aload_n 0, 1) := by decide +kernel
theorem dX12_readEvent_164 : decode cX12_readEvent 164 = .ok (.getfield 160, 3) := by decide +kernel
theorem dX12_readEvent_167 : decode cX12_readEvent 167 = .ok (.i2l, 1) := by decide +kernel
theorem dX12_readEvent_168 : decode cX12_readEvent 168 = .ok (.ldc2_w 178, 3) := by decide +kernel
theorem dX12_readEvent_171 : decode cX12_readEvent 171 = .ok (.ldc2_w 180, 3) := by decide +kernel
theorem dX12_readEvent_174 : decode cX12_readEvent 174 = .ok (.invokestatic 115, 3) := by decide +kernel
theorem dX12_readEvent_177 : decode cX12_readEvent 177 = .ok (.ifCond .eq 25, 3) := by decide +kernel
theorem dX12_readEvent_180 : decode cX12_readEvent 180 = .ok (.aload_n 0, 1) := by decide +kernel
theorem dX12_readEvent_181 : decode cX12_readEvent 181 = .ok (.getfield 160, 3) := by decide +kernel
theorem dX12_readEvent_184 : decode cX12_readEvent 184 = .ok (.aload_n 0, 1) := by decide +kernel
theorem dX12_readEvent_185 : decode cX12_readEvent 185 = .ok (.getfield 44, 3) := by decide +kernel
theorem dX12_readEvent_188 : decode cX12_readEvent 188 = .ok (.iload_n 1, 1) := by decide +kernel
theorem dX12_readEvent_189 : decode cX12_readEvent 189 = .ok (.iaload, 1) := by decide +kernel
theorem dX12_readEvent_190 : decode cX12_readEvent 190 = .ok (.if_icmp .gt 12, 3) := by decide +kernel
theorem dX12_readEvent_193 : decode cX12_readEvent 193 = .ok (.aload_n 0, 1) := by decide +kernel
theorem dX12_readEvent_194 : decode cX12_readEvent 194 = .ok (.iconst 5, 1) := by decide +kernel
theorem dX12_readEvent_195 : decode cX12_readEvent 195 = .ok (.aload_n 0, 1) := by decide +kernel
theorem dX12_readEvent_196 : decode cX12_readEvent 196 = .ok (.getfield 140, 3) := by decide +kernel
theorem dX12_readEvent_199 : decode cX12_readEvent 199 = .ok (.invokevirtual 163, 3) := by decide +kernel
theorem dX12_readEvent_202 : decode cX12_readEvent 202 = .ok (.aload_n 0, 1) := by decide +kernel
theorem dX12_readEvent_203 : decode cX12_readEvent 203 = .ok (.getfield 47, 3) := by decide +kernel
theorem dX12_readEvent_206 : decode cX12_readEvent 206 = .ok (.iload_n 1, 1) := by decide +kernel
theorem dX12_readEvent_207 : decode cX12_readEvent 207 = .ok (.aload_n 0, 1) := by decide +kernel
theorem dX12_readEvent_208 : decode cX12_readEvent 208 = .ok (.bipush (-128), 2) := by decide +kernel
theorem dX12_readEvent_210 : decode cX12_readEvent 210 = .ok (.bipush 127, 2) := by decide +kernel
theorem dX12_readEvent_212 : decode cX12_readEvent 212 = .ok (.invokevirtual 174, 3) := by decide +kernel
theorem dX12_readEvent_215 : decode cX12_readEvent 215 = .ok (.iastore, 1) := by decide +kernel
theorem dX12_readEvent_216 : decode cX12_readEvent 216 = .ok (.return_, 1) := by decide +kernel
theorem dX12_readStage_0 : decode cX12_readStage 0 = .ok (.aload_n 0, 1) := by decide +kernel
theorem dX12_readStage_1 : decode cX12_readStage 1 = .ok (.getfield 182, 3) := by decide +kernel
theorem dX12_readStage_4 : decode cX12_readStage 4 = .ok (.istore_n 1, 1) := by decide +kernel
theorem dX12_readStage_5 : decode cX12_readStage 5 = .ok (.aload_n 0, 1) := by decide +kernel
theorem dX12_readStage_6 : decode cX12_readStage 6 = .ok (.getfield 35, 3) := by decide +kernel
theorem dX12_readStage_9 : decode cX12_readStage 9 = .ok (.iload_n 1, 1) := by decide +kernel
theorem dX12_readStage_10 : decode cX12_readStage 10 = .ok (.iconst 1, 1) := by decide +kernel
theorem dX12_readStage_11 : decode cX12_readStage 11 = .ok (.iastore, 1) := by decide +kernel
theorem dX12_readStage_12 : decode cX12_readStage 12 = .ok (.aload_n 0, 1) := by decide +kernel
theorem dX12_readStage_13 : decode cX12_readStage 13 = .ok (.getfield 119, 3) := by decide +kernel
theorem dX12_readStage_16 : decode cX12_readStage 16 = .ok (.ifCond .ne 68, 3) := by decide +kernel
theorem dX12_readStage_19 : decode cX12_readStage 19 = .ok (.aload_n 0, 1) := by decide +kernel
theorem dX12_readStage_20 : decode cX12_readStage 20 = .ok (.getfield 143, 3) := by decide +kernel
theorem dX12_readStage_23 : decode cX12_readStage 23 = .ok (.iconst 2, 1) := by decide +kernel
theorem dX12_readStage_24 : decode cX12_readStage 24 = .ok (.if_icmp .ne 60, 3) := by decide +kernel
theorem dX12_readStage_27 : decode cX12_readStage 27 = .ok (.aload_n 0, 1) := by decide +kernel
theorem dX12_readStage_28 : decode cX12_readStage 28 = .ok (.getfield 35, 3) := by decide +kernel
theorem dX12_readStage_31 : decode cX12_readStage 31 = .ok (.iload_n 1, 1) := by decide +kernel
theorem dX12_readStage_32 : decode cX12_readStage 32 = .ok (.aload_n 0, 1) := by decide +kernel
theorem dX12_readStage_33 : decode cX12_readStage 33 = .ok (.iconst 1, 1) := by decide +kernel
theorem dX12_readStage_34 : decode cX12_readStage 34 = .ok (.bipush 20, 2) := by decide +kernel
theorem dX12_readStage_36 : decode cX12_readStage 36 = .ok (.invokevirtual 174, 3) := by decide +kernel
theorem dX12_readStage_39 : decode cX12_readStage 39 = .ok (.iastore, 1) := by decide +kernel
theorem dX12_readStage_40 : decode cX12_readStage 40 = .ok (.aload_n 0, 1) := by decide +kernel
theorem dX12_readStage_41 : decode cX12_readStage 41 = .ok (.getfield 119, 3) := by decide +kernel
theorem dX12_readStage_44 : decode cX12_readStage 44 = .ok (.ifCond .ne 29, 3) := by decide +kernel
theorem dX12_readStage_47 : decode cX12_readStage 47 = .ok (.aload_n 0, 1) := by decide +kernel
theorem dX12_readStage_48 : decode cX12_readStage 48 = .ok (.getfield 143, 3) := by decide +kernel
theorem dX12_readStage_51 : decode cX12_readStage 51 = .ok (.iconst 3, 1) := by decide +kernel
theorem dX12_readStage_52 : decode cX12_readStage 52 = .ok (.if_icmp .ne 12, 3) := by decide +kernel
theorem dX12_readStage_55 : decode cX12_readStage 55 = .ok (.aload_n 0, 1) := by decide +kernel
theorem dX12_readStage_56 : decode cX12_readStage 56 = .ok (.getfield 160, 3) := by decide +kernel
theorem dX12_readStage_59 : decode cX12_readStage 59 = .ok (.bipush 42, 2) := by decide +kernel
theorem dX12_readStage_61 : decode cX12_readStage 61 = .ok (.if_icmp .eq 12, 3) := by decide +kernel
theorem dX12_readStage_64 : decode cX12_readStage 64 = .ok (.aload_n 0, 1) := by decide +kernel
theorem dX12_readStage_65 : decode cX12_readStage 65 = .ok (.iconst 2, 1) := by decide +kernel
theorem dX12_readStage_66 : decode cX12_readStage 66 = .ok (.aload_n 0, 1) := by decide +kernel
theorem dX12_readStage_67 : decode cX12_readStage 67 = .ok (.getfield 140, 3) := by decide +kernel
theorem dX12_readStage_70 : decode cX12_readStage 70 = .ok (.invokevirtual 163, 3) := by decide +kernel
theorem dX12_readStage_73 : decode cX12_readStage 73 = .ok (.aload_n 0, 1) := by decide +kernel
theorem dX12_readStage_74 : decode cX12_readStage 74 = .ok (.getfield 119, 3) := by decide +kernel
theorem dX12_readStage_77 : decode cX12_readStage 77 = .ok (.ifCond .ne 7, 3) := by decide +kernel
theorem dX12_readStage_80 : decode cX12_readStage 80 = .ok (.aload_n 0, 1) := by decide +kernel
theorem dX12_readStage_81 : decode cX12_readStage 81 = .ok (.invokevirtual 171, 3) := by decide +kernel
theorem dX12_readStage_84 : decode cX12_readStage 84 = .ok (.aload_n 0, 1) := by decide +kernel
theorem dX12_readStage_85 : decode cX12_readStage 85 = .ok (.iload_n 1, 1) := by decide +kernel
theorem dX12_readStage_86 : decode cX12_readStage 86 = .ok (.invokevirtual 185, 3) := by decide +kernel
theorem dX12_readStage_89 : decode cX12_readStage 89 = .ok (.aload_n 0, 1) := by decide +kernel
theorem dX12_readStage_90 : decode cX12_readStage 90 = .ok (.getfield 50, 3) := by decide +kernel
theorem dX12_readStage_93 : decode cX12_readStage 93 = .ok (.iload_n 1, 1) := by decide +kernel
theorem dX12_readStage_94 : decode cX12_readStage 94 = .ok (.iconst 0, 1) := by decide +kernel
theorem dX12_readStage_95 : decode cX12_readStage 95 = .ok (.iastore, 1) := by decide +kernel
theorem dX12_readStage_96 : decode cX12_readStage 96 = .ok (.aload_n 0, 1) := by decide +kernel
theorem dX12_readStage_97 : decode cX12_readStage 97 = .ok (.getfield 119, 3) := by decide +kernel
theorem dX12_readStage_100 : decode cX12_readStage 100 = .ok (.ifCond .ne 38, 3) := by decide +kernel
theorem dX12_readStage_103 : decode cX12_readStage 103 = .ok (.aload_n 0, 1) := by decide +kernel
theorem dX12_readStage_104 : decode cX12_readStage 104 = .ok (.getfield 143, 3) := by decide +kernel
theorem dX12_readStage_107 : decode cX12_readStage 107 = .ok (.iconst 1, 1) := by decide +kernel
theorem dX12_readStage_108 : decode cX12_readStage 108 = .ok (.if_icmp .ne 30, 3) := by decide +kernel
theorem dX12_readStage_111 : decode cX12_readStage 111 = .ok (.aload_n 0, 1) := by decide +kernel
theorem dX12_readStage_112 : decode cX12_readStage 112 = .ok (.getfield 160, 3) := by decide +kernel
theorem dX12_readStage_115 : decode cX12_readStage 115 = .ok (.bipush 8, 2) := by decide +kernel
theorem dX12_readStage_117 : decode cX12_readStage 117 = .ok (.if_icmp .ne 21, 3) := by decide +kernel
theorem dX12_readStage_120 : decode cX12_readStage 120 = .ok (.aload_n 0, 1) := by decide +kernel
theorem dX12_readStage_121 : decode cX12_readStage 121 = .ok (.invokevirtual 171, 3) := by decide +kernel
theorem dX12_readStage_124 : decode cX12_readStage 124 = .ok (.aload_n 0, 1) := by decide +kernel
theorem dX12_readStage_125 : decode cX12_readStage 125 = .ok (.getfield 50, 3) := by decide +kernel
theorem dX12_readStage_128 : decode cX12_readStage 128 = .ok (.iload_n 1, 1) := by decide +kernel
theorem dX12_readStage_129 : decode cX12_readStage 129 = .ok (.aload_n 0, 1) := by decide +kernel
theorem dX12_readStage_130 : decode cX12_readStage 130 = .ok (.iconst 1, 1) := by decide +kernel
theorem dX12_readStage_131 : decode cX12_readStage 131 = .ok (.sipush 200, 3) := by decide +kernel
theorem dX12_readStage_134 : decode cX12_readStage 134 = .ok (.invokevirtual 174, 3) := by decide +kernel
theorem dX12_readStage_137 : decode cX12_readStage 137 = .ok (.iastore, 1) := by decide +kernel
theorem dX12_readStage_138 : decode cX12_readStage 138 = .ok (.aload_n 0, 1) := by decide +kernel
theorem dX12_readStage_139 : decode cX12_readStage 139 = .ok (.dup, 1) := by decide +kernel
theorem dX12_readStage_140 : decode cX12_readStage 140 = .ok (.getfield 182, 3) := by decide +kernel
theorem dX12_readStage_143 : decode cX12_readStage 143 = .ok (.iconst 1, 1) := by decide +kernel
theorem dX12_readStage_144 : decode cX12_readStage 144 = .ok (.iadd, 1) := by decide +kernel
theorem dX12_readStage_145 : decode cX12_readStage 145 = .ok (.putfield 182, 3) := by decide +kernel
theorem dX12_readStage_148 : decode cX12_readStage 148 = .ok (.return_, 1) := by decide +kernel
theorem dX12_readTrigger_0 : decode cX12_readTrigger 0 = .ok (.aload_n 0, 1) := by decide +kernel
theorem dX12_readTrigger_1 : decode cX12_readTrigger 1 = .ok (.iconst 0, 1) := by decide +kernel
theorem dX12_readTrigger_2 : decode cX12_readTrigger 2 = .ok (.putfield 125, 3) := by decide +kernel
theorem dX12_readTrigger_5 : decode cX12_readTrigger 5 = .ok (.aload_n 0, 1) := by decide +kernel
theorem dX12_readTrigger_6 : decode cX12_readTrigger 6 = .ok (.iconst 0, 1) := by decide +kernel
theorem dX12_readTrigger_7 : decode cX12_readTrigger 7 = .ok (.putfield 182, 3) := by decide +kernel
theorem dX12_readTrigger_10 : decode cX12_readTrigger 10 = .ok (.aload_n 0, 1) := by decide +kernel
theorem dX12_readTrigger_11 : decode cX12_readTrigger 11 = .ok (.invokevirtual 171, 3) := by decide +kernel
theorem dX12_readTrigger_14 : decode cX12_readTrigger 14 = .ok (.iconst 1, 1) := by decide +kernel
theorem dX12_readTrigger_15 : decode cX12_readTrigger 15 = .ok (.istore_n 1, 1) := by decide +kernel
theorem dX12_readTrigger_16 : decode cX12_readTrigger 16 = .ok (.iload_n 1, 1) := by decide +kernel
theorem dX12_readTrigger_17 : decode cX12_readTrigger 17 = .ok (.ifCond .eq 103, 3) := by decide +kernel
theorem dX12_readTrigger_20 : decode cX12_readTrigger 20 = .ok (.aload_n 0, 1) := by decide +kernel
theorem dX12_readTrigger_21 : decode cX12_readTrigger 21 = .ok (.getfield 119, 3) := by decide +kernel
theorem dX12_readTrigger_24 : decode cX12_readTrigger 24 = .ok (.ifCond .ne 96, 3) := by decide +kernel
theorem dX12_readTrigger_27 : decode cX12_readTrigger 27 = .ok (.aload_n 0, 1) := by decide +kernel
theorem dX12_readTrigger_28 : decode cX12_readTrigger 28 = .ok (.getfield 182, 3) := by decide +kernel
theorem dX12_readTrigger_31 : decode cX12_readTrigger 31 = .ok (.bipush 6, 2) := by decide +kernel
theorem dX12_readTrigger_33 : decode cX12_readTrigger 33 = .ok (.if_icmp .ne 15, 3) := by decide +kernel
theorem dX12_readTrigger_36 : decode cX12_readTrigger 36 = .ok (.aload_n 0, 1) := by decide +kernel
theorem dX12_readTrigger_37 : decode cX12_readTrigger 37 = .ok (.iconst 4, 1) := by decide +kernel
theorem dX12_readTrigger_38 : decode cX12_readTrigger 38 = .ok (.aload_n 0, 1) := by decide +kernel
theorem dX12_readTrigger_39 : decode cX12_readTrigger 39 = .ok (.getfield 140, 3) := by decide +kernel
theorem dX12_readTrigger_42 : decode cX12_readTrigger 42 = .ok (.invokevirtual 163, 3) := by decide +kernel
theorem dX12_readTrigger_45 : decode cX12_readTrigger 45 = .ok (.goto 7, 3) := by decide +kernel
theorem dX12_readTrigger_48 : decode cX12_readTrigger 48 = .ok (.aload_n 0, 1) := by decide +kernel
theorem dX12_readTrigger_49 : decode cX12_readTrigger 49 = .ok (.invokevirtual 189, 3) := by decide +kernel
theorem dX12_readTrigger_52 : decode cX12_readTrigger 52 = .ok (.aload_n 0, 1) := by decide +kernel
theorem dX12_readTrigger_53 : decode cX12_readTrigger 53 = .ok (.getfield 119, 3) := by decide +kernel
theorem dX12_readTrigger_56 : decode cX12_readTrigger 56 = .ok (.ifCond .ne 24, 3) := by decide +kernel
theorem dX12_readTrigger_59 : decode cX12_readTrigger 59 = .ok (.aload_n 0, 1) := by decide +kernel
theorem dX12_readTrigger_60 : decode cX12_readTrigger 60 = .ok (.getfield 143, 3) := by decide +kernel
theorem dX12_readTrigger_63 : decode cX12_readTrigger 63 = .ok (.iconst 3, 1) := by decide +kernel
theorem dX12_readTrigger_64 : decode cX12_readTrigger 64 = .ok (.if_icmp .ne 16, 3) := by decide +kernel
theorem dX12_readTrigger_67 : decode cX12_readTrigger 67 = .ok (.aload_n 0, 1) := by decide +kernel
theorem dX12_readTrigger_68 : decode cX12_readTrigger 68 = .ok (.getfield 160, 3) := by decide +kernel
theorem dX12_readTrigger_71 : decode cX12_readTrigger 71 = .ok (.bipush 59, 2) := by decide +kernel
theorem dX12_readTrigger_73 : decode cX12_readTrigger 73 = .ok (.if_icmp .ne 7, 3) := by decide +kernel
theorem dX12_readTrigger_76 : decode cX12_readTrigger 76 = .ok (.iconst 1, 1) := by decide +kernel
theorem dX12_readTrigger_77 : decode cX12_readTrigger 77 = .ok (.goto 4, 3) := by decide +kernel
theorem dX12_readTrigger_80 : decode cX12_readTrigger 80 = .ok (.iconst 0, 1) := by decide +kernel
theorem dX12_readTrigger_81 : decode cX12_readTrigger 81 = .ok (.istore_n 1, 1) := by decide +kernel
theorem dX12_readTrigger_82 : decode cX12_readTrigger 82 = .ok (.aload_n 0, 1) := by decide +kernel
theorem dX12_readTrigger_83 : decode cX12_readTrigger 83 = .ok (.getfield 119, 3) := by decide +kernel
theorem dX12_readTrigger_86 : decode cX12_readTrigger 86 = .ok (.ifCond .ne 23, 3) := by decide +kernel
theorem dX12_readTrigger_89 : decode cX12_readTrigger 89 = .ok (.iload_n 1, 1) := by decide +kernel
theorem dX12_readTrigger_90 : decode cX12_readTrigger 90 = .ok (.ifCond .ne 19, 3) := by decide +kernel
theorem dX12_readTrigger_93 : decode cX12_readTrigger 93 = .ok (.aload_n 0, 1) := by decide +kernel
theorem dX12_readTrigger_94 : decode cX12_readTrigger 94 = .ok (.getfield 143, 3) := by decide +kernel
theorem dX12_readTrigger_97 : decode cX12_readTrigger 97 = .ok (.ifCond .eq 12, 3) := by decide +kernel
theorem dX12_readTrigger_100 : decode cX12_readTrigger 100 = .ok (.aload_n 0, 1) := by decide +kernel
theorem dX12_readTrigger_101 : decode cX12_readTrigger 101 = .ok (.iconst 2, 1) := by decide +kernel
theorem dX12_readTrigger_102 : decode cX12_readTrigger 102 = .ok (.aload_n 0, 1) := by decide +kernel
theorem dX12_readTrigger_103 : decode cX12_readTrigger 103 = .ok (.getfield 140, 3) := by decide +kernel
theorem dX12_readTrigger_106 : decode cX12_readTrigger 106 = .ok (.invokevirtual 163, 3) := by decide +kernel
theorem dX12_readTrigger_109 : decode cX12_readTrigger 109 = .ok (.iload_n 1, 1) := by decide +kernel
theorem dX12_readTrigger_110 : decode cX12_readTrigger 110 = .ok (.ifCond .eq (-94), 3) := by decide +kernel
theorem dX12_readTrigger_113 : decode cX12_readTrigger 113 = .ok (.aload_n 0, 1) := by decide +kernel
theorem dX12_readTrigger_114 : decode cX12_readTrigger 114 = .ok (.invokevirtual 171, 3) := by decide +kernel
theorem dX12_readTrigger_117 : decode cX12_readTrigger 117 = .ok (.goto (-101), 3) := by decide +kernel
theorem dX12_readTrigger_120 : decode cX12_readTrigger 120 = .ok (.return_, 1) := by decide +kernel
theorem dX12_trigger_0 : decode cX12_trigger 0 = .ok (.aload_n 0, 1) := by decide +kernel
theorem dX12_trigger_1 : decode cX12_trigger 1 = .ok (.iconst 0, 1) := by decide +kernel
theorem dX12_trigger_2 : decode cX12_trigger 2 = .ok (.putfield 119, 3) := by decide +kernel
theorem dX12_trigger_5 : decode cX12_trigger 5 = .ok (.aload_n 0, 1) := by decide +kernel
theorem dX12_trigger_6 : decode cX12_trigger 6 = .ok (.invokevirtual 192, 3) := by decide +kernel
theorem dX12_trigger_9 : decode cX12_trigger 9 = .ok (.aload_n 0, 1) := by decide +kernel
theorem dX12_trigger_10 : decode cX12_trigger 10 = .ok (.iconst 0, 1) := by decide +kernel
theorem dX12_trigger_11 : decode cX12_trigger 11 = .ok (.putfield 110, 3) := by decide +kernel
theorem dX12_trigger_14 : decode cX12_trigger 14 = .ok (.aload_n 0, 1) := by decide +kernel
theorem dX12_trigger_15 : decode cX12_trigger 15 = .ok (.getfield 119, 3) := by decide +kernel
theorem dX12_trigger_18 : decode cX12_trigger 18 = .ok (.ifCond .le 11, 3) := by decide +kernel
theorem dX12_trigger_21 : decode cX12_trigger 21 = .ok (.bipush (-10), 2) := by decide +kernel
theorem dX12_trigger_23 : decode cX12_trigger 23 = .ok (.aload_n 0, 1) := by decide +kernel
theorem dX12_trigger_24 : decode cX12_trigger 24 = .ok (.getfield 122, 3) := by decide +kernel
theorem dX12_trigger_27 : decode cX12_trigger 27 = .ok (.isub, 1) := by decide +kernel
theorem dX12_trigger_28 : decode cX12_trigger 28 = .ok (.ireturn, 1) := by decide +kernel
theorem dX12_trigger_29 : decode cX12_trigger 29 = .ok (.aload_n 0, 1) := by decide +kernel
theorem dX12_trigger_30 : decode cX12_trigger 30 = .ok (.aload_n 0, 1) := by decide +kernel
theorem dX12_trigger_31 : decode cX12_trigger 31 = .ok (.getfield 182, 3) := by decide +kernel
theorem dX12_trigger_34 : decode cX12_trigger 34 = .ok (.putfield 195, 3) := by decide +kernel
theorem dX12_trigger_37 : decode cX12_trigger 37 = .ok (.iconst 0, 1) := by decide +kernel
theorem dX12_trigger_38 : decode cX12_trigger 38 = .ok (.istore_n 1, 1) := by decide +kernel
theorem dX12_trigger_39 : decode cX12_trigger 39 = .ok (.iload_n 1, 1) := by decide +kernel
theorem dX12_trigger_40 : decode cX12_trigger 40 = .ok (.aload_n 0, 1) := by decide +kernel
theorem dX12_trigger_41 : decode cX12_trigger 41 = .ok (.getfield 195, 3) := by decide +kernel
theorem dX12_trigger_44 : decode cX12_trigger 44 = .ok (.if_icmp .ge 81, 3) := by decide +kernel
theorem dX12_trigger_47 : decode cX12_trigger 47 = .ok (.aload_n 0, 1) := by decide +kernel
theorem dX12_trigger_48 : decode cX12_trigger 48 = .ok (.getfield 17, 3) := by decide +kernel
theorem dX12_trigger_51 : decode cX12_trigger 51 = .ok (.iload_n 1, 1) := by decide +kernel
theorem dX12_trigger_52 : decode cX12_trigger 52 = .ok (.aload_n 0, 1) := by decide +kernel
theorem dX12_trigger_53 : decode cX12_trigger 53 = .ok (.getfield 35, 3) := by decide +kernel
theorem dX12_trigger_56 : decode cX12_trigger 56 = .ok (.iload_n 1, 1) := by decide +kernel
theorem dX12_trigger_57 : decode cX12_trigger 57 = .ok (.iaload, 1) := by decide +kernel
theorem dX12_trigger_58 : decode cX12_trigger 58 = .ok (.iastore, 1) := by decide +kernel
theorem dX12_trigger_59 : decode cX12_trigger 59 = .ok (.aload_n 0, 1) := by decide +kernel
theorem dX12_trigger_60 : decode cX12_trigger 60 = .ok (.getfield 20, 3) := by decide +kernel
theorem dX12_trigger_63 : decode cX12_trigger 63 = .ok (.iload_n 1, 1) := by decide +kernel
theorem dX12_trigger_64 : decode cX12_trigger 64 = .ok (.aload_n 0, 1) := by decide +kernel
theorem dX12_trigger_65 : decode cX12_trigger 65 = .ok (.getfield 38, 3) := by decide +kernel
theorem dX12_trigger_68 : decode cX12_trigger 68 = .ok (.iload_n 1, 1) := by decide +kernel
theorem dX12_trigger_69 : decode cX12_trigger 69 = .ok (.iaload, 1) := by decide +kernel
theorem dX12_trigger_70 : decode cX12_trigger 70 = .ok (.iastore, 1) := by decide +kernel
theorem dX12_trigger_71 : decode cX12_trigger 71 = .ok (.aload_n 0, 1) := by decide +kernel
theorem dX12_trigger_72 : decode cX12_trigger 72 = .ok (.getfield 23, 3) := by decide +kernel
theorem dX12_trigger_75 : decode cX12_trigger 75 = .ok (.iload_n 1, 1) := by decide +kernel
theorem dX12_trigger_76 : decode cX12_trigger 76 = .ok (.aload_n 0, 1) := by decide +kernel
theorem dX12_trigger_77 : decode cX12_trigger 77 = .ok (.getfield 41, 3) := by decide +kernel
theorem dX12_trigger_80 : decode cX12_trigger 80 = .ok (.iload_n 1, 1) := by decide +kernel
theorem dX12_trigger_81 : decode cX12_trigger 81 = .ok (.iaload, 1) := by decide +kernel
theorem dX12_trigger_82 : decode cX12_trigger 82 = .ok (.iastore, 1) := by decide +kernel
theorem dX12_trigger_83 : decode cX12_trigger 83 = .ok (.aload_n 0, 1) := by decide +kernel
theorem dX12_trigger_84 : decode cX12_trigger 84 = .ok (.getfield 26, 3) := by decide +kernel
theorem dX12_trigger_87 : decode cX12_trigger 87 = .ok (.iload_n 1, 1) := by decide +kernel
theorem dX12_trigger_88 : decode cX12_trigger 88 = .ok (.aload_n 0, 1) := by decide +kernel
theorem dX12_trigger_89 : decode cX12_trigger 89 = .ok (.getfield 44, 3) := by decide +kernel
theorem dX12_trigger_92 : decode cX12_trigger 92 = .ok (.iload_n 1, 1) := by decide +kernel
theorem dX12_trigger_93 : decode cX12_trigger 93 = .ok (.iaload, 1) := by decide +kernel
theorem dX12_trigger_94 : decode cX12_trigger 94 = .ok (.iastore, 1) := by decide +kernel
theorem dX12_trigger_95 : decode cX12_trigger 95 = .ok (.aload_n 0, 1) := by decide +kernel
theorem dX12_trigger_96 : decode cX12_trigger 96 = .ok (.getfield 29, 3) := by decide +kernel
theorem dX12_trigger_99 : decode cX12_trigger 99 = .ok (.iload_n 1, 1) := by decide +kernel
theorem dX12_trigger_100 : decode cX12_trigger 100 = .ok (.aload_n 0, 1) := by decide +kernel
theorem dX12_trigger_101 : decode cX12_trigger 101 = .ok (.getfield 47, 3) := by decide +kernel
theorem dX12_trigger_104 : decode cX12_trigger 104 = .ok (.iload_n 1, 1) := by decide +kernel
theorem dX12_trigger_105 : decode cX12_trigger 105 = .ok (.iaload, 1) := by decide +kernel
theorem dX12_trigger_106 : decode cX12_trigger 106 = .ok (.iastore, 1) := by decide +kernel
theorem dX12_trigger_107 : decode cX12_trigger 107 = .ok (.aload_n 0, 1) := by decide +kernel
theorem dX12_trigger_108 : decode cX12_trigger 108 = .ok (.getfield 32, 3) := by decide +kernel
theorem dX12_trigger_111 : decode cX12_trigger 111 = .ok (.iload_n 1, 1) := by decide +kernel
theorem dX12_trigger_112 : decode cX12_trigger 112 = .ok (.aload_n 0, 1) := by decide +kernel
theorem dX12_trigger_113 : decode cX12_trigger 113 = .ok (.getfield 50, 3) := by decide +kernel
theorem dX12_trigger_116 : decode cX12_trigger 116 = .ok (.iload_n 1, 1) := by decide +kernel
theorem dX12_trigger_117 : decode cX12_trigger 117 = .ok (.iaload, 1) := by decide +kernel
theorem dX12_trigger_118 : decode cX12_trigger 118 = .ok (.iastore, 1) := by decide +kernel
theorem dX12_trigger_119 : decode cX12_trigger 119 = .ok (.iinc 1 1, 3) := by decide +kernel
theorem dX12_trigger_122 : decode cX12_trigger 122 = .ok (.goto (-83), 3) := by decide +kernel
theorem dX12_trigger_125 : decode cX12_trigger 125 = .ok (.aload_n 0, 1) := by decide +kernel
theorem dX12_trigger_126 : decode cX12_trigger 126 = .ok (.iconst 0, 1) := by decide +kernel
theorem dX12_trigger_127 : decode cX12_trigger 127 = .ok (.putfield 198, 3) := by decide +kernel
theorem dX12_trigger_130 : decode cX12_trigger 130 = .ok (.aload_n 0, 1) := by decide +kernel
theorem dX12_trigger_131 : decode cX12_trigger 131 = .ok (.getfield 195, 3) := by decide +kernel
theorem dX12_trigger_134 : decode cX12_trigger 134 = .ok (.ireturn, 1) := by decide +kernel
theorem dX12_fault_0 : decode cX12_fault 0 = .ok (.aload_n 0, 1) := by decide +kernel
theorem dX12_fault_1 : decode cX12_fault 1 = .ok (.getfield 119, 3) := by decide +kernel
theorem dX12_fault_4 : decode cX12_fault 4 = .ok (.ireturn, 1) := by decide +kernel
theorem dX12_of_0 : decode cX12_of 0 = .ok (.aload_n 0, 1) := by decide +kernel
theorem dX12_of_1 : decode cX12_of 1 = .ok (.getfield 14, 3) := by decide +kernel
theorem dX12_of_4 : decode cX12_of 4 = .ok (.iload_n 1, 1) := by decide +kernel
theorem dX12_of_5 : decode cX12_of 5 = .ok (.iaload, 1) := by decide +kernel
theorem dX12_of_6 : decode cX12_of 6 = .ok (.bipush 24, 2) := by decide +kernel
theorem dX12_of_8 : decode cX12_of 8 = .ok (.bipush 8, 2) := by decide +kernel
theorem dX12_of_10 : decode cX12_of 10 = .ok (.iload_n 2, 1) := by decide +kernel
theorem dX12_of_11 : decode cX12_of 11 = .ok (.imul, 1) := by decide +kernel
theorem dX12_of_12 : decode cX12_of 12 = .ok (.isub, 1) := by decide +kernel
theorem dX12_of_13 : decode cX12_of 13 = .ok (.ishr, 1) := by decide +kernel
theorem dX12_of_14 : decode cX12_of 14 = .ok (.i2b, 1) := by decide +kernel
theorem dX12_of_15 : decode cX12_of 15 = .ok (.ireturn, 1) := by decide +kernel
theorem dX12_keep_0 : decode cX12_keep 0 = .ok (.iload_n 1, 1) := by decide +kernel
theorem dX12_keep_1 : decode cX12_keep 1 = .ok (.i2l, 1) := by decide +kernel
theorem dX12_keep_2 : decode cX12_keep 2 = .ok (.lconst 0, 1) := by decide +kernel
theorem dX12_keep_3 : decode cX12_keep 3 = .ok (.ldc2_w 201, 3) := by decide +kernel
theorem dX12_keep_6 : decode cX12_keep 6 = .ok (.invokestatic 115, 3) := by decide +kernel
theorem dX12_keep_9 : decode cX12_keep 9 = .ok (.ifCond .eq 15, 3) := by decide +kernel
theorem dX12_keep_12 : decode cX12_keep 12 = .ok (.iload_n 2, 1) := by decide +kernel
theorem dX12_keep_13 : decode cX12_keep 13 = .ok (.i2l, 1) := by decide +kernel
theorem dX12_keep_14 : decode cX12_keep 14 = .ok (.lconst 0, 1) := by decide +kernel
theorem dX12_keep_15 : decode cX12_keep 15 = .ok (.ldc2_w 201, 3) := by decide +kernel
theorem dX12_keep_18 : decode cX12_keep 18 = .ok (.invokestatic 115, 3) := by decide +kernel
theorem dX12_keep_21 : decode cX12_keep 21 = .ok (.ifCond .ne 5, 3) := by decide +kernel
theorem dX12_keep_24 : decode cX12_keep 24 = .ok (.iconst (-1), 1) := by decide +kernel
theorem dX12_keep_25 : decode cX12_keep 25 = .ok (.ireturn, 1) := by decide +kernel
theorem dX12_keep_26 : decode cX12_keep 26 = .ok (.aload_n 0, 1) := by decide +kernel
theorem dX12_keep_27 : decode cX12_keep 27 = .ok (.getfield 198, 3) := by decide +kernel
theorem dX12_keep_30 : decode cX12_keep 30 = .ok (.iconst 1, 1) := by decide +kernel
theorem dX12_keep_31 : decode cX12_keep 31 = .ok (.if_icmp .eq 11, 3) := by decide +kernel
theorem dX12_keep_34 : decode cX12_keep 34 = .ok (.aload_n 0, 1) := by decide +kernel
theorem dX12_keep_35 : decode cX12_keep 35 = .ok (.getfield 198, 3) := by decide +kernel
theorem dX12_keep_38 : decode cX12_keep 38 = .ok (.iconst 2, 1) := by decide +kernel
theorem dX12_keep_39 : decode cX12_keep 39 = .ok (.if_icmp .ne 6, 3) := by decide +kernel
theorem dX12_keep_42 : decode cX12_keep 42 = .ok (.bipush (-2), 2) := by decide +kernel
theorem dX12_keep_44 : decode cX12_keep 44 = .ok (.ireturn, 1) := by decide +kernel
theorem dX12_keep_45 : decode cX12_keep 45 = .ok (.aload_n 0, 1) := by decide +kernel
theorem dX12_keep_46 : decode cX12_keep 46 = .ok (.iload_n 1, 1) := by decide +kernel
theorem dX12_keep_47 : decode cX12_keep 47 = .ok (.putfield 53, 3) := by decide +kernel
theorem dX12_keep_50 : decode cX12_keep 50 = .ok (.aload_n 0, 1) := by decide +kernel
theorem dX12_keep_51 : decode cX12_keep 51 = .ok (.iload_n 2, 1) := by decide +kernel
theorem dX12_keep_52 : decode cX12_keep 52 = .ok (.putfield 57, 3) := by decide +kernel
theorem dX12_keep_55 : decode cX12_keep 55 = .ok (.iconst 1, 1) := by decide +kernel
theorem dX12_keep_56 : decode cX12_keep 56 = .ok (.ireturn, 1) := by decide +kernel
theorem dX12_arms_0 : decode cX12_arms 0 = .ok (.aload_n 0, 1) := by decide +kernel
theorem dX12_arms_1 : decode cX12_arms 1 = .ok (.iconst 1, 1) := by decide +kernel
theorem dX12_arms_2 : decode cX12_arms 2 = .ok (.putfield 198, 3) := by decide +kernel
theorem dX12_arms_5 : decode cX12_arms 5 = .ok (.aload_n 0, 1) := by decide +kernel
theorem dX12_arms_6 : decode cX12_arms 6 = .ok (.aload_n 0, 1) := by decide +kernel
theorem dX12_arms_7 : decode cX12_arms 7 = .ok (.getfield 203, 3) := by decide +kernel
theorem dX12_arms_10 : decode cX12_arms 10 = .ok (.putfield 206, 3) := by decide +kernel
theorem dX12_arms_13 : decode cX12_arms 13 = .ok (.aload_n 0, 1) := by decide +kernel
theorem dX12_arms_14 : decode cX12_arms 14 = .ok (.iconst 0, 1) := by decide +kernel
theorem dX12_arms_15 : decode cX12_arms 15 = .ok (.putfield 209, 3) := by decide +kernel
theorem dX12_arms_18 : decode cX12_arms 18 = .ok (.aload_n 0, 1) := by decide +kernel
theorem dX12_arms_19 : decode cX12_arms 19 = .ok (.iconst 0, 1) := by decide +kernel
theorem dX12_arms_20 : decode cX12_arms 20 = .ok (.putfield 212, 3) := by decide +kernel
theorem dX12_arms_23 : decode cX12_arms 23 = .ok (.aload_n 0, 1) := by decide +kernel
theorem dX12_arms_24 : decode cX12_arms 24 = .ok (.aload_n 0, 1) := by decide +kernel
theorem dX12_arms_25 : decode cX12_arms 25 = .ok (.getfield 203, 3) := by decide +kernel
theorem dX12_arms_28 : decode cX12_arms 28 = .ok (.putfield 215, 3) := by decide +kernel
theorem dX12_arms_31 : decode cX12_arms 31 = .ok (.aload_n 0, 1) := by decide +kernel
theorem dX12_arms_32 : decode cX12_arms 32 = .ok (.iconst 0, 1) := by decide +kernel
theorem dX12_arms_33 : decode cX12_arms 33 = .ok (.putfield 218, 3) := by decide +kernel
theorem dX12_arms_36 : decode cX12_arms 36 = .ok (.return_, 1) := by decide +kernel
theorem dX12_arm_0 : decode cX12_arm 0 = .ok (.aload_n 0, 1) := by decide +kernel
theorem dX12_arm_1 : decode cX12_arm 1 = .ok (.getfield 195, 3) := by decide +kernel
theorem dX12_arm_4 : decode cX12_arm 4 = .ok (.ifCond .ne 6, 3) := by decide +kernel
theorem dX12_arm_7 : decode cX12_arm 7 = .ok (.bipush (-2), 2) := by decide +kernel
theorem dX12_arm_9 : decode cX12_arm 9 = .ok (.ireturn, 1) := by decide +kernel
theorem dX12_arm_10 : decode cX12_arm 10 = .ok (.aload_n 0, 1) := by decide +kernel
theorem dX12_arm_11 : decode cX12_arm 11 = .ok (.getfield 221, 3) := by decide +kernel
theorem dX12_arm_14 : decode cX12_arm 14 = .ok (.bipush 8, 2) := by decide +kernel
theorem dX12_arm_16 : decode cX12_arm 16 = .ok (.if_icmp .ne 6, 3) := by decide +kernel
theorem dX12_arm_19 : decode cX12_arm 19 = .ok (.bipush (-3), 2) := by decide +kernel
theorem dX12_arm_21 : decode cX12_arm 21 = .ok (.ireturn, 1) := by decide +kernel
theorem dX12_arm_22 : decode cX12_arm 22 = .ok (.aload_n 0, 1) := by decide +kernel
theorem dX12_arm_23 : decode cX12_arm 23 = .ok (.invokevirtual 224, 3) := by decide +kernel
theorem dX12_arm_26 : decode cX12_arm 26 = .ok (.iconst 1, 1) := by decide +kernel
theorem dX12_arm_27 : decode cX12_arm 27 = .ok (.ireturn, 1) := by decide +kernel
theorem dX12_high_0 : decode cX12_high 0 = .ok (.iload_n 1, 1) := by decide +kernel
theorem dX12_high_1 : decode cX12_high 1 = .ok (.iconst 1, 1) := by decide +kernel
theorem dX12_high_2 : decode cX12_high 2 = .ok (.isub, 1) := by decide +kernel
theorem dX12_high_3 : decode cX12_high 3 = .ok (.istore 4, 2) := by decide +kernel
theorem dX12_high_5 : decode cX12_high 5 = .ok (.iload 4, 2) := by decide +kernel
theorem dX12_high_7 : decode cX12_high 7 = .ok (.aload_n 0, 1) := by decide +kernel
theorem dX12_high_8 : decode cX12_high 8 = .ok (.getfield 206, 3) := by decide +kernel
theorem dX12_high_11 : decode cX12_high 11 = .ok (.if_icmp .lt 20, 3) := by decide +kernel
theorem dX12_high_14 : decode cX12_high 14 = .ok (.aload_n 0, 1) := by decide +kernel
theorem dX12_high_15 : decode cX12_high 15 = .ok (.iload 4, 2) := by decide +kernel
theorem dX12_high_17 : decode cX12_high 17 = .ok (.iload_n 2, 1) := by decide +kernel
theorem dX12_high_18 : decode cX12_high 18 = .ok (.invokevirtual 227, 3) := by decide +kernel
theorem dX12_high_21 : decode cX12_high 21 = .ok (.iload_n 3, 1) := by decide +kernel
theorem dX12_high_22 : decode cX12_high 22 = .ok (.if_icmp .lt 9, 3) := by decide +kernel
theorem dX12_high_25 : decode cX12_high 25 = .ok (.iinc 4 (-1), 3) := by decide +kernel
theorem dX12_high_28 : decode cX12_high 28 = .ok (.goto (-23), 3) := by decide +kernel
theorem dX12_high_31 : decode cX12_high 31 = .ok (.iload 4, 2) := by decide +kernel
theorem dX12_high_33 : decode cX12_high 33 = .ok (.aload_n 0, 1) := by decide +kernel
theorem dX12_high_34 : decode cX12_high 34 = .ok (.getfield 206, 3) := by decide +kernel
theorem dX12_high_37 : decode cX12_high 37 = .ok (.if_icmp .lt 12, 3) := by decide +kernel
theorem dX12_high_40 : decode cX12_high 40 = .ok (.iload_n 1, 1) := by decide +kernel
theorem dX12_high_41 : decode cX12_high 41 = .ok (.iconst 1, 1) := by decide +kernel
theorem dX12_high_42 : decode cX12_high 42 = .ok (.isub, 1) := by decide +kernel
theorem dX12_high_43 : decode cX12_high 43 = .ok (.iload 4, 2) := by decide +kernel
theorem dX12_high_45 : decode cX12_high 45 = .ok (.isub, 1) := by decide +kernel
theorem dX12_high_46 : decode cX12_high 46 = .ok (.goto 4, 3) := by decide +kernel
theorem dX12_high_49 : decode cX12_high 49 = .ok (.iconst 0, 1) := by decide +kernel
theorem dX12_high_50 : decode cX12_high 50 = .ok (.ireturn, 1) := by decide +kernel
theorem dX12_isRunt_0 : decode cX12_isRunt 0 = .ok (.aload_n 0, 1) := by decide +kernel
theorem dX12_isRunt_1 : decode cX12_isRunt 1 = .ok (.iload_n 1, 1) := by decide +kernel
theorem dX12_isRunt_2 : decode cX12_isRunt 2 = .ok (.iload_n 2, 1) := by decide +kernel
theorem dX12_isRunt_3 : decode cX12_isRunt 3 = .ok (.iload_n 3, 1) := by decide +kernel
theorem dX12_isRunt_4 : decode cX12_isRunt 4 = .ok (.invokevirtual 230, 3) := by decide +kernel
theorem dX12_isRunt_7 : decode cX12_isRunt 7 = .ok (.istore 5, 2) := by decide +kernel
theorem dX12_isRunt_9 : decode cX12_isRunt 9 = .ok (.iload 5, 2) := by decide +kernel
theorem dX12_isRunt_11 : decode cX12_isRunt 11 = .ok (.ifCond .le 7, 3) := by decide +kernel
theorem dX12_isRunt_14 : decode cX12_isRunt 14 = .ok (.iconst 1, 1) := by decide +kernel
theorem dX12_isRunt_15 : decode cX12_isRunt 15 = .ok (.goto 4, 3) := by decide +kernel
theorem dX12_isRunt_18 : decode cX12_isRunt 18 = .ok (.iconst 0, 1) := by decide +kernel
theorem dX12_isRunt_19 : decode cX12_isRunt 19 = .ok (.istore 6, 2) := by decide +kernel
theorem dX12_isRunt_21 : decode cX12_isRunt 21 = .ok (.iload_n 1, 1) := by decide +kernel
theorem dX12_isRunt_22 : decode cX12_isRunt 22 = .ok (.iload 5, 2) := by decide +kernel
theorem dX12_isRunt_24 : decode cX12_isRunt 24 = .ok (.isub, 1) := by decide +kernel
theorem dX12_isRunt_25 : decode cX12_isRunt 25 = .ok (.istore 7, 2) := by decide +kernel
theorem dX12_isRunt_27 : decode cX12_isRunt 27 = .ok (.iload 7, 2) := by decide +kernel
theorem dX12_isRunt_29 : decode cX12_isRunt 29 = .ok (.iload_n 1, 1) := by decide +kernel
theorem dX12_isRunt_30 : decode cX12_isRunt 30 = .ok (.if_icmp .ge 33, 3) := by decide +kernel
theorem dX12_isRunt_33 : decode cX12_isRunt 33 = .ok (.iload 6, 2) := by decide +kernel
theorem dX12_isRunt_35 : decode cX12_isRunt 35 = .ok (.ifCond .eq 19, 3) := by decide +kernel
theorem dX12_isRunt_38 : decode cX12_isRunt 38 = .ok (.aload_n 0, 1) := by decide +kernel
theorem dX12_isRunt_39 : decode cX12_isRunt 39 = .ok (.iload 7, 2) := by decide +kernel
theorem dX12_isRunt_41 : decode cX12_isRunt 41 = .ok (.iload_n 2, 1) := by decide +kernel
theorem dX12_isRunt_42 : decode cX12_isRunt 42 = .ok (.invokevirtual 227, 3) := by decide +kernel
theorem dX12_isRunt_45 : decode cX12_isRunt 45 = .ok (.iload 4, 2) := by decide +kernel
theorem dX12_isRunt_47 : decode cX12_isRunt 47 = .ok (.if_icmp .ge 7, 3) := by decide +kernel
theorem dX12_isRunt_50 : decode cX12_isRunt 50 = .ok (.iconst 1, 1) := by decide +kernel
theorem dX12_isRunt_51 : decode cX12_isRunt 51 = .ok (.goto 4, 3) := by decide +kernel
theorem dX12_isRunt_54 : decode cX12_isRunt 54 = .ok (.iconst 0, 1) := by decide +kernel
theorem dX12_isRunt_55 : decode cX12_isRunt 55 = .ok (.istore 6, 2) := by decide +kernel
theorem dX12_isRunt_57 : decode cX12_isRunt 57 = .ok (.iinc 7 1, 3) := by decide +kernel
theorem dX12_isRunt_60 : decode cX12_isRunt 60 = .ok (.goto (-33), 3) := by decide +kernel
theorem dX12_isRunt_63 : decode cX12_isRunt 63 = .ok (.iload 6, 2) := by decide +kernel
theorem dX12_isRunt_65 : decode cX12_isRunt 65 = .ok (.ireturn, 1) := by decide +kernel
theorem dX12_happens_0 : decode cX12_happens 0 = .ok (.iload_n 1, 1) := by decide +kernel
theorem dX12_happens_1 : decode cX12_happens 1 = .ok (.aload_n 0, 1) := by decide +kernel
theorem dX12_happens_2 : decode cX12_happens 2 = .ok (.getfield 206, 3) := by decide +kernel
theorem dX12_happens_5 : decode cX12_happens 5 = .ok (.if_icmp .ne 5, 3) := by decide +kernel
theorem dX12_happens_8 : decode cX12_happens 8 = .ok (.iconst 0, 1) := by decide +kernel
theorem dX12_happens_9 : decode cX12_happens 9 = .ok (.ireturn, 1) := by decide +kernel
theorem dX12_happens_10 : decode cX12_happens 10 = .ok (.aload_n 0, 1) := by decide +kernel
theorem dX12_happens_11 : decode cX12_happens 11 = .ok (.getfield 23, 3) := by decide +kernel
theorem dX12_happens_14 : decode cX12_happens 14 = .ok (.aload_n 0, 1) := by decide +kernel
theorem dX12_happens_15 : decode cX12_happens 15 = .ok (.getfield 209, 3) := by decide +kernel
theorem dX12_happens_18 : decode cX12_happens 18 = .ok (.iaload, 1) := by decide +kernel
theorem dX12_happens_19 : decode cX12_happens 19 = .ok (.istore_n 2, 1) := by decide +kernel
theorem dX12_happens_20 : decode cX12_happens 20 = .ok (.aload_n 0, 1) := by decide +kernel
theorem dX12_happens_21 : decode cX12_happens 21 = .ok (.getfield 26, 3) := by decide +kernel
theorem dX12_happens_24 : decode cX12_happens 24 = .ok (.aload_n 0, 1) := by decide +kernel
theorem dX12_happens_25 : decode cX12_happens 25 = .ok (.getfield 209, 3) := by decide +kernel
theorem dX12_happens_28 : decode cX12_happens 28 = .ok (.iaload, 1) := by decide +kernel
theorem dX12_happens_29 : decode cX12_happens 29 = .ok (.istore_n 3, 1) := by decide +kernel
theorem dX12_happens_30 : decode cX12_happens 30 = .ok (.aload_n 0, 1) := by decide +kernel
theorem dX12_happens_31 : decode cX12_happens 31 = .ok (.getfield 29, 3) := by decide +kernel
theorem dX12_happens_34 : decode cX12_happens 34 = .ok (.aload_n 0, 1) := by decide +kernel
theorem dX12_happens_35 : decode cX12_happens 35 = .ok (.getfield 209, 3) := by decide +kernel
theorem dX12_happens_38 : decode cX12_happens 38 = .ok (.iaload, 1) := by decide +kernel
theorem dX12_happens_39 : decode cX12_happens 39 = .ok (.istore 4, 2) := by decide +kernel
theorem dX12_happens_41 : decode cX12_happens 41 = .ok (.aload_n 0, 1) := by decide +kernel
theorem dX12_happens_42 : decode cX12_happens 42 = .ok (.iload_n 1, 1) := by decide +kernel
theorem dX12_happens_43 : decode cX12_happens 43 = .ok (.iconst 1, 1) := by decide +kernel
theorem dX12_happens_44 : decode cX12_happens 44 = .ok (.isub, 1) := by decide +kernel
theorem dX12_happens_45 : decode cX12_happens 45 = .ok (.iload_n 2, 1) := by decide +kernel
theorem dX12_happens_46 : decode cX12_happens 46 = .ok (.invokevirtual 227, 3) := by decide +kernel
theorem dX12_happens_49 : decode cX12_happens 49 = .ok (.istore 5, 2) := by decide +kernel
theorem dX12_happens_51 : decode cX12_happens 51 = .ok (.aload_n 0, 1) := by decide +kernel
theorem dX12_happens_52 : decode cX12_happens 52 = .ok (.iload_n 1, 1) := by decide +kernel
theorem dX12_happens_53 : decode cX12_happens 53 = .ok (.iload_n 2, 1) := by decide +kernel
theorem dX12_happens_54 : decode cX12_happens 54 = .ok (.invokevirtual 227, 3) := by decide +kernel
theorem dX12_happens_57 : decode cX12_happens 57 = .ok (.istore 6, 2) := by decide +kernel
theorem dX12_happens_59 : decode cX12_happens 59 = .ok (.iload 5, 2) := by decide +kernel
theorem dX12_happens_61 : decode cX12_happens 61 = .ok (.iload_n 3, 1) := by decide +kernel
theorem dX12_happens_62 : decode cX12_happens 62 = .ok (.if_icmp .lt 13, 3) := by decide +kernel
theorem dX12_happens_65 : decode cX12_happens 65 = .ok (.iload 6, 2) := by decide +kernel
theorem dX12_happens_67 : decode cX12_happens 67 = .ok (.iload_n 3, 1) := by decide +kernel
theorem dX12_happens_68 : decode cX12_happens 68 = .ok (.if_icmp .ge 7, 3) := by decide +kernel
theorem dX12_happens_71 : decode cX12_happens 71 = .ok (.iconst 1, 1) := by decide +kernel
theorem dX12_happens_72 : decode cX12_happens 72 = .ok (.goto 4, 3) := by decide +kernel
