theorem dX0_init_0 : decode cX0_init 0 = .ok (.aload_n 0, 1) := by decide +kernel
theorem dX0_init_1 : decode cX0_init 1 = .ok (.invokespecial 3, 3) := by decide +kernel
theorem dX0_init_4 : decode cX0_init 4 = .ok (.aload_n 0, 1) := by decide +kernel
theorem dX0_init_5 : decode cX0_init 5 = .ok (.bipush 6, 2) := by decide +kernel
theorem dX0_init_7 : decode cX0_init 7 = .ok (.anewarray 9, 3) := by decide +kernel
theorem dX0_init_10 : decode cX0_init 10 = .ok (.putfield 11, 3) := by decide +kernel
theorem dX0_init_13 : decode cX0_init 13 = .ok (.iconst 0, 1) := by decide +kernel
theorem dX0_init_14 : decode cX0_init 14 = .ok (.istore_n 1, 1) := by decide +kernel
theorem dX0_init_15 : decode cX0_init 15 = .ok (.iload_n 1, 1) := by decide +kernel
theorem dX0_init_16 : decode cX0_init 16 = .ok (.bipush 6, 2) := by decide +kernel
theorem dX0_init_18 : decode cX0_init 18 = .ok (.if_icmp .ge 22, 3) := by decide +kernel
theorem dX0_init_21 : decode cX0_init 21 = .ok (.aload_n 0, 1) := by decide +kernel
theorem dX0_init_22 : decode cX0_init 22 = .ok (.getfield 11, 3) := by decide +kernel
theorem dX0_init_25 : decode cX0_init 25 = .ok (.iload_n 1, 1) := by decide +kernel
theorem dX0_init_26 : decode cX0_init 26 = .ok (.new 9, 3) := by decide +kernel
theorem dX0_init_29 : decode cX0_init 29 = .ok (.dup, 1) := by decide +kernel
theorem dX0_init_30 : decode cX0_init 30 = .ok (.invokespecial 17, 3) := by decide +kernel
theorem dX0_init_33 : decode cX0_init 33 = .ok (.aastore, 1) := by decide +kernel
theorem dX0_init_34 : decode cX0_init 34 = .ok (.iinc 1 1, 3) := by decide +kernel
theorem dX0_init_37 : decode cX0_init 37 = .ok (.goto (-22), 3) := by decide +kernel
theorem dX0_init_40 : decode cX0_init 40 = .ok (.return_, 1) := by decide +kernel
theorem dX0_forgetHighs_0 : decode cX0_forgetHighs 0 = .ok (.iconst 0, 1) := by decide +kernel
theorem dX0_forgetHighs_1 : decode cX0_forgetHighs 1 = .ok (.istore_n 1, 1) := by decide +kernel
theorem dX0_forgetHighs_2 : decode cX0_forgetHighs 2 = .ok (.iload_n 1, 1) := by decide +kernel
theorem dX0_forgetHighs_3 : decode cX0_forgetHighs 3 = .ok (.aload_n 0, 1) := by decide +kernel
theorem dX0_forgetHighs_4 : decode cX0_forgetHighs 4 = .ok (.getfield 18, 3) := by decide +kernel
theorem dX0_forgetHighs_7 : decode cX0_forgetHighs 7 = .ok (.if_icmp .ge 19, 3) := by decide +kernel
theorem dX0_forgetHighs_10 : decode cX0_forgetHighs 10 = .ok (.aload_n 0, 1) := by decide +kernel
theorem dX0_forgetHighs_11 : decode cX0_forgetHighs 11 = .ok (.getfield 11, 3) := by decide +kernel
theorem dX0_forgetHighs_14 : decode cX0_forgetHighs 14 = .ok (.iload_n 1, 1) := by decide +kernel
theorem dX0_forgetHighs_15 : decode cX0_forgetHighs 15 = .ok (.aaload, 1) := by decide +kernel
theorem dX0_forgetHighs_16 : decode cX0_forgetHighs 16 = .ok (.iconst 0, 1) := by decide +kernel
theorem dX0_forgetHighs_17 : decode cX0_forgetHighs 17 = .ok (.putfield 22, 3) := by decide +kernel
theorem dX0_forgetHighs_20 : decode cX0_forgetHighs 20 = .ok (.iinc 1 1, 3) := by decide +kernel
theorem dX0_forgetHighs_23 : decode cX0_forgetHighs 23 = .ok (.goto (-21), 3) := by decide +kernel
theorem dX0_forgetHighs_26 : decode cX0_forgetHighs 26 = .ok (.return_, 1) := by decide +kernel
theorem dX0_followHighs_0 : decode cX0_followHighs 0 = .ok (.iconst 0, 1) := by decide +kernel
theorem dX0_followHighs_1 : decode cX0_followHighs 1 = .ok (.istore_n 3, 1) := by decide +kernel
theorem dX0_followHighs_2 : decode cX0_followHighs 2 = .ok (.iload_n 3, 1) := by decide +kernel
theorem dX0_followHighs_3 : decode cX0_followHighs 3 = .ok (.aload_n 0, 1) := by decide +kernel
theorem dX0_followHighs_4 : decode cX0_followHighs 4 = .ok (.getfield 18, 3) := by decide +kernel
theorem dX0_followHighs_7 : decode cX0_followHighs 7 = .ok (.if_icmp .ge 20, 3) := by decide +kernel
theorem dX0_followHighs_10 : decode cX0_followHighs 10 = .ok (.aload_n 0, 1) := by decide +kernel
theorem dX0_followHighs_11 : decode cX0_followHighs 11 = .ok (.getfield 11, 3) := by decide +kernel
theorem dX0_followHighs_14 : decode cX0_followHighs 14 = .ok (.iload_n 3, 1) := by decide +kernel
theorem dX0_followHighs_15 : decode cX0_followHighs 15 = .ok (.aaload, 1) := by decide +kernel
theorem dX0_followHighs_16 : decode cX0_followHighs 16 = .ok (.iload_n 1, 1) := by decide +kernel
theorem dX0_followHighs_17 : decode cX0_followHighs 17 = .ok (.iload_n 2, 1) := by decide +kernel
theorem dX0_followHighs_18 : decode cX0_followHighs 18 = .ok (.invokevirtual 25, 3) := by decide +kernel
theorem dX0_followHighs_21 : decode cX0_followHighs 21 = .ok (.iinc 3 1, 3) := by decide +kernel
theorem dX0_followHighs_24 : decode cX0_followHighs 24 = .ok (.goto (-22), 3) := by decide +kernel
theorem dX0_followHighs_27 : decode cX0_followHighs 27 = .ok (.return_, 1) := by decide +kernel
theorem dX1_init_0 : decode cX1_init 0 = .ok (.aload_n 0, 1) := by decide +kernel
theorem dX1_init_1 : decode cX1_init 1 = .ok (.invokespecial 3, 3) := by decide +kernel
theorem dX1_init_4 : decode cX1_init 4 = .ok (.aload_n 0, 1) := by decide +kernel
theorem dX1_init_5 : decode cX1_init 5 = .ok (.aload_n 1, 1) := by decide +kernel
theorem dX1_init_6 : decode cX1_init 6 = .ok (.putfield 9, 3) := by decide +kernel
theorem dX1_init_9 : decode cX1_init 9 = .ok (.return_, 1) := by decide +kernel
theorem dX1_readPlan_0 : decode cX1_readPlan 0 = .ok (.aload_n 0, 1) := by decide +kernel
theorem dX1_readPlan_1 : decode cX1_readPlan 1 = .ok (.iconst 0, 1) := by decide +kernel
theorem dX1_readPlan_2 : decode cX1_readPlan 2 = .ok (.putfield 15, 3) := by decide +kernel
theorem dX1_readPlan_5 : decode cX1_readPlan 5 = .ok (.aload_n 0, 1) := by decide +kernel
theorem dX1_readPlan_6 : decode cX1_readPlan 6 = .ok (.iconst 0, 1) := by decide +kernel
theorem dX1_readPlan_7 : decode cX1_readPlan 7 = .ok (.putfield 19, 3) := by decide +kernel
theorem dX1_readPlan_10 : decode cX1_readPlan 10 = .ok (.aload_n 0, 1) := by decide +kernel
theorem dX1_readPlan_11 : decode cX1_readPlan 11 = .ok (.iconst 0, 1) := by decide +kernel
theorem dX1_readPlan_12 : decode cX1_readPlan 12 = .ok (.putfield 22, 3) := by decide +kernel
theorem dX1_readPlan_15 : decode cX1_readPlan 15 = .ok (.aload_n 1, 1) := by decide +kernel
theorem dX1_readPlan_16 : decode cX1_readPlan 16 = .ok (.iconst 0, 1) := by decide +kernel
theorem dX1_readPlan_17 : decode cX1_readPlan 17 = .ok (.putfield 25, 3) := by decide +kernel
theorem dX1_readPlan_20 : decode cX1_readPlan 20 = .ok (.iconst 0, 1) := by decide +kernel
theorem dX1_readPlan_21 : decode cX1_readPlan 21 = .ok (.istore_n 2, 1) := by decide +kernel
theorem dX1_readPlan_22 : decode cX1_readPlan 22 = .ok (.iload_n 2, 1) := by decide +kernel
theorem dX1_readPlan_23 : decode cX1_readPlan 23 = .ok (.bipush 6, 2) := by decide +kernel
theorem dX1_readPlan_25 : decode cX1_readPlan 25 = .ok (.if_icmp .ge 51, 3) := by decide +kernel
theorem dX1_readPlan_28 : decode cX1_readPlan 28 = .ok (.aload_n 0, 1) := by decide +kernel
theorem dX1_readPlan_29 : decode cX1_readPlan 29 = .ok (.aload_n 1, 1) := by decide +kernel
theorem dX1_readPlan_30 : decode cX1_readPlan 30 = .ok (.getfield 30, 3) := by decide +kernel
theorem dX1_readPlan_33 : decode cX1_readPlan 33 = .ok (.iload_n 2, 1) := by decide +kernel
theorem dX1_readPlan_34 : decode cX1_readPlan 34 = .ok (.aaload, 1) := by decide +kernel
theorem dX1_readPlan_35 : decode cX1_readPlan 35 = .ok (.invokevirtual 34, 3) := by decide +kernel
theorem dX1_readPlan_38 : decode cX1_readPlan 38 = .ok (.ifCond .ne 5, 3) := by decide +kernel
theorem dX1_readPlan_41 : decode cX1_readPlan 41 = .ok (.iconst 0, 1) := by decide +kernel
theorem dX1_readPlan_42 : decode cX1_readPlan 42 = .ok (.ireturn, 1) := by decide +kernel
theorem dX1_readPlan_43 : decode cX1_readPlan 43 = .ok (.aload_n 1, 1) := by decide +kernel
theorem dX1_readPlan_44 : decode cX1_readPlan 44 = .ok (.iload_n 2, 1) := by decide +kernel
theorem dX1_readPlan_45 : decode cX1_readPlan 45 = .ok (.iconst 1, 1) := by decide +kernel
theorem dX1_readPlan_46 : decode cX1_readPlan 46 = .ok (.iadd, 1) := by decide +kernel
theorem dX1_readPlan_47 : decode cX1_readPlan 47 = .ok (.putfield 25, 3) := by decide +kernel
theorem dX1_readPlan_50 : decode cX1_readPlan 50 = .ok (.aload_n 0, 1) := by decide +kernel
theorem dX1_readPlan_51 : decode cX1_readPlan 51 = .ok (.iconst 0, 1) := by decide +kernel
theorem dX1_readPlan_52 : decode cX1_readPlan 52 = .ok (.invokevirtual 40, 3) := by decide +kernel
theorem dX1_readPlan_55 : decode cX1_readPlan 55 = .ok (.ifCond .eq 5, 3) := by decide +kernel
theorem dX1_readPlan_58 : decode cX1_readPlan 58 = .ok (.iconst 1, 1) := by decide +kernel
theorem dX1_readPlan_59 : decode cX1_readPlan 59 = .ok (.ireturn, 1) := by decide +kernel
theorem dX1_readPlan_60 : decode cX1_readPlan 60 = .ok (.aload_n 0, 1) := by decide +kernel
theorem dX1_readPlan_61 : decode cX1_readPlan 61 = .ok (.iconst 4, 1) := by decide +kernel
theorem dX1_readPlan_62 : decode cX1_readPlan 62 = .ok (.invokevirtual 44, 3) := by decide +kernel
theorem dX1_readPlan_65 : decode cX1_readPlan 65 = .ok (.ifCond .ne 5, 3) := by decide +kernel
theorem dX1_readPlan_68 : decode cX1_readPlan 68 = .ok (.iconst 0, 1) := by decide +kernel
theorem dX1_readPlan_69 : decode cX1_readPlan 69 = .ok (.ireturn, 1) := by decide +kernel
theorem dX1_readPlan_70 : decode cX1_readPlan 70 = .ok (.iinc 2 1, 3) := by decide +kernel
theorem dX1_readPlan_73 : decode cX1_readPlan 73 = .ok (.goto (-51), 3) := by decide +kernel
theorem dX1_readPlan_76 : decode cX1_readPlan 76 = .ok (.aload_n 0, 1) := by decide +kernel
theorem dX1_readPlan_77 : decode cX1_readPlan 77 = .ok (.iconst 4, 1) := by decide +kernel
theorem dX1_readPlan_78 : decode cX1_readPlan 78 = .ok (.invokevirtual 47, 3) := by decide +kernel
theorem dX1_readPlan_81 : decode cX1_readPlan 81 = .ok (.ireturn, 1) := by decide +kernel
theorem dX1_readStage_0 : decode cX1_readStage 0 = .ok (.aload_n 1, 1) := by decide +kernel
theorem dX1_readStage_1 : decode cX1_readStage 1 = .ok (.iconst 1, 1) := by decide +kernel
theorem dX1_readStage_2 : decode cX1_readStage 2 = .ok (.putfield 50, 3) := by decide +kernel
theorem dX1_readStage_5 : decode cX1_readStage 5 = .ok (.aload_n 0, 1) := by decide +kernel
theorem dX1_readStage_6 : decode cX1_readStage 6 = .ok (.iconst 2, 1) := by decide +kernel
theorem dX1_readStage_7 : decode cX1_readStage 7 = .ok (.invokevirtual 40, 3) := by decide +kernel
theorem dX1_readStage_10 : decode cX1_readStage 10 = .ok (.ifCond .eq 36, 3) := by decide +kernel
theorem dX1_readStage_13 : decode cX1_readStage 13 = .ok (.aload_n 0, 1) := by decide +kernel
theorem dX1_readStage_14 : decode cX1_readStage 14 = .ok (.iconst 1, 1) := by decide +kernel
theorem dX1_readStage_15 : decode cX1_readStage 15 = .ok (.bipush 20, 2) := by decide +kernel
theorem dX1_readStage_17 : decode cX1_readStage 17 = .ok (.sipush (-1000), 3) := by decide +kernel
theorem dX1_readStage_20 : decode cX1_readStage 20 = .ok (.invokevirtual 55, 3) := by decide +kernel
theorem dX1_readStage_23 : decode cX1_readStage 23 = .ok (.ifCond .ne 5, 3) := by decide +kernel
theorem dX1_readStage_26 : decode cX1_readStage 26 = .ok (.iconst 0, 1) := by decide +kernel
theorem dX1_readStage_27 : decode cX1_readStage 27 = .ok (.ireturn, 1) := by decide +kernel
theorem dX1_readStage_28 : decode cX1_readStage 28 = .ok (.aload_n 1, 1) := by decide +kernel
theorem dX1_readStage_29 : decode cX1_readStage 29 = .ok (.aload_n 0, 1) := by decide +kernel
theorem dX1_readStage_30 : decode cX1_readStage 30 = .ok (.getfield 59, 3) := by decide +kernel
theorem dX1_readStage_33 : decode cX1_readStage 33 = .ok (.putfield 50, 3) := by decide +kernel
theorem dX1_readStage_36 : decode cX1_readStage 36 = .ok (.aload_n 0, 1) := by decide +kernel
theorem dX1_readStage_37 : decode cX1_readStage 37 = .ok (.iconst 3, 1) := by decide +kernel
theorem dX1_readStage_38 : decode cX1_readStage 38 = .ok (.invokevirtual 44, 3) := by decide +kernel
theorem dX1_readStage_41 : decode cX1_readStage 41 = .ok (.ifCond .ne 5, 3) := by decide +kernel
theorem dX1_readStage_44 : decode cX1_readStage 44 = .ok (.iconst 0, 1) := by decide +kernel
theorem dX1_readStage_45 : decode cX1_readStage 45 = .ok (.ireturn, 1) := by decide +kernel
theorem dX1_readStage_46 : decode cX1_readStage 46 = .ok (.aload_n 0, 1) := by decide +kernel
theorem dX1_readStage_47 : decode cX1_readStage 47 = .ok (.invokevirtual 62, 3) := by decide +kernel
theorem dX1_readStage_50 : decode cX1_readStage 50 = .ok (.ifCond .eq 9, 3) := by decide +kernel
theorem dX1_readStage_53 : decode cX1_readStage 53 = .ok (.aload_n 0, 1) := by decide +kernel
theorem dX1_readStage_54 : decode cX1_readStage 54 = .ok (.iconst 2, 1) := by decide +kernel
theorem dX1_readStage_55 : decode cX1_readStage 55 = .ok (.invokevirtual 47, 3) := by decide +kernel
theorem dX1_readStage_58 : decode cX1_readStage 58 = .ok (.ireturn, 1) := by decide +kernel
theorem dX1_readStage_59 : decode cX1_readStage 59 = .ok (.aload_n 0, 1) := by decide +kernel
theorem dX1_readStage_60 : decode cX1_readStage 60 = .ok (.iconst 1, 1) := by decide +kernel
theorem dX1_readStage_61 : decode cX1_readStage 61 = .ok (.invokevirtual 44, 3) := by decide +kernel
theorem dX1_readStage_64 : decode cX1_readStage 64 = .ok (.ifCond .ne 5, 3) := by decide +kernel
theorem dX1_readStage_67 : decode cX1_readStage 67 = .ok (.iconst 0, 1) := by decide +kernel
theorem dX1_readStage_68 : decode cX1_readStage 68 = .ok (.ireturn, 1) := by decide +kernel
theorem dX1_readStage_69 : decode cX1_readStage 69 = .ok (.aload_n 1, 1) := by decide +kernel
theorem dX1_readStage_70 : decode cX1_readStage 70 = .ok (.aload_n 0, 1) := by decide +kernel
theorem dX1_readStage_71 : decode cX1_readStage 71 = .ok (.getfield 59, 3) := by decide +kernel
theorem dX1_readStage_74 : decode cX1_readStage 74 = .ok (.putfield 66, 3) := by decide +kernel
theorem dX1_readStage_77 : decode cX1_readStage 77 = .ok (.aload_n 0, 1) := by decide +kernel
theorem dX1_readStage_78 : decode cX1_readStage 78 = .ok (.aload_n 1, 1) := by decide +kernel
theorem dX1_readStage_79 : decode cX1_readStage 79 = .ok (.invokevirtual 69, 3) := by decide +kernel
theorem dX1_readStage_82 : decode cX1_readStage 82 = .ok (.ifCond .eq 15, 3) := by decide +kernel
theorem dX1_readStage_85 : decode cX1_readStage 85 = .ok (.aload_n 0, 1) := by decide +kernel
theorem dX1_readStage_86 : decode cX1_readStage 86 = .ok (.aload_n 1, 1) := by decide +kernel
theorem dX1_readStage_87 : decode cX1_readStage 87 = .ok (.invokevirtual 72, 3) := by decide +kernel
theorem dX1_readStage_90 : decode cX1_readStage 90 = .ok (.ifCond .eq 7, 3) := by decide +kernel
theorem dX1_readStage_93 : decode cX1_readStage 93 = .ok (.iconst 1, 1) := by decide +kernel
theorem dX1_readStage_94 : decode cX1_readStage 94 = .ok (.goto 4, 3) := by decide +kernel
theorem dX1_readStage_97 : decode cX1_readStage 97 = .ok (.iconst 0, 1) := by decide +kernel
theorem dX1_readStage_98 : decode cX1_readStage 98 = .ok (.ireturn, 1) := by decide +kernel
theorem dX1_readOperands_0 : decode cX1_readOperands 0 = .ok (.aload_n 0, 1) := by decide +kernel
theorem dX1_readOperands_1 : decode cX1_readOperands 1 = .ok (.iconst 0, 1) := by decide +kernel
theorem dX1_readOperands_2 : decode cX1_readOperands 2 = .ok (.iconst 3, 1) := by decide +kernel
theorem dX1_readOperands_3 : decode cX1_readOperands 3 = .ok (.sipush (-1000), 3) := by decide +kernel
theorem dX1_readOperands_6 : decode cX1_readOperands 6 = .ok (.invokevirtual 55, 3) := by decide +kernel
theorem dX1_readOperands_9 : decode cX1_readOperands 9 = .ok (.ifCond .ne 5, 3) := by decide +kernel
theorem dX1_readOperands_12 : decode cX1_readOperands 12 = .ok (.iconst 0, 1) := by decide +kernel
theorem dX1_readOperands_13 : decode cX1_readOperands 13 = .ok (.ireturn, 1) := by decide +kernel
theorem dX1_readOperands_14 : decode cX1_readOperands 14 = .ok (.aload_n 1, 1) := by decide +kernel
theorem dX1_readOperands_15 : decode cX1_readOperands 15 = .ok (.aload_n 0, 1) := by decide +kernel
theorem dX1_readOperands_16 : decode cX1_readOperands 16 = .ok (.getfield 59, 3) := by decide +kernel
theorem dX1_readOperands_19 : decode cX1_readOperands 19 = .ok (.putfield 75, 3) := by decide +kernel
theorem dX1_readOperands_22 : decode cX1_readOperands 22 = .ok (.aload_n 1, 1) := by decide +kernel
theorem dX1_readOperands_23 : decode cX1_readOperands 23 = .ok (.getfield 66, 3) := by decide +kernel
theorem dX1_readOperands_26 : decode cX1_readOperands 26 = .ok (.bipush 7, 2) := by decide +kernel
theorem dX1_readOperands_28 : decode cX1_readOperands 28 = .ok (.if_icmp .ne 15, 3) := by decide +kernel
theorem dX1_readOperands_31 : decode cX1_readOperands 31 = .ok (.aload_n 0, 1) := by decide +kernel
theorem dX1_readOperands_32 : decode cX1_readOperands 32 = .ok (.iconst 0, 1) := by decide +kernel
theorem dX1_readOperands_33 : decode cX1_readOperands 33 = .ok (.iconst 3, 1) := by decide +kernel
theorem dX1_readOperands_34 : decode cX1_readOperands 34 = .ok (.sipush (-1000), 3) := by decide +kernel
theorem dX1_readOperands_37 : decode cX1_readOperands 37 = .ok (.invokevirtual 55, 3) := by decide +kernel
theorem dX1_readOperands_40 : decode cX1_readOperands 40 = .ok (.goto 14, 3) := by decide +kernel
theorem dX1_readOperands_43 : decode cX1_readOperands 43 = .ok (.aload_n 0, 1) := by decide +kernel
theorem dX1_readOperands_44 : decode cX1_readOperands 44 = .ok (.bipush (-128), 2) := by decide +kernel
theorem dX1_readOperands_46 : decode cX1_readOperands 46 = .ok (.bipush 127, 2) := by decide +kernel
theorem dX1_readOperands_48 : decode cX1_readOperands 48 = .ok (.sipush (-1000), 3) := by decide +kernel
theorem dX1_readOperands_51 : decode cX1_readOperands 51 = .ok (.invokevirtual 55, 3) := by decide +kernel
theorem dX1_readOperands_54 : decode cX1_readOperands 54 = .ok (.istore_n 2, 1) := by decide +kernel
theorem dX1_readOperands_55 : decode cX1_readOperands 55 = .ok (.aload_n 1, 1) := by decide +kernel
theorem dX1_readOperands_56 : decode cX1_readOperands 56 = .ok (.aload_n 0, 1) := by decide +kernel
theorem dX1_readOperands_57 : decode cX1_readOperands 57 = .ok (.getfield 59, 3) := by decide +kernel
theorem dX1_readOperands_60 : decode cX1_readOperands 60 = .ok (.putfield 78, 3) := by decide +kernel
theorem dX1_readOperands_63 : decode cX1_readOperands 63 = .ok (.aload_n 1, 1) := by decide +kernel
theorem dX1_readOperands_64 : decode cX1_readOperands 64 = .ok (.aload_n 0, 1) := by decide +kernel
theorem dX1_readOperands_65 : decode cX1_readOperands 65 = .ok (.getfield 59, 3) := by decide +kernel
theorem dX1_readOperands_68 : decode cX1_readOperands 68 = .ok (.putfield 81, 3) := by decide +kernel
theorem dX1_readOperands_71 : decode cX1_readOperands 71 = .ok (.iload_n 2, 1) := by decide +kernel
theorem dX1_readOperands_72 : decode cX1_readOperands 72 = .ok (.ifCond .eq 15, 3) := by decide +kernel
theorem dX1_readOperands_75 : decode cX1_readOperands 75 = .ok (.aload_n 0, 1) := by decide +kernel
theorem dX1_readOperands_76 : decode cX1_readOperands 76 = .ok (.aload_n 1, 1) := by decide +kernel
theorem dX1_readOperands_77 : decode cX1_readOperands 77 = .ok (.invokevirtual 84, 3) := by decide +kernel
theorem dX1_readOperands_80 : decode cX1_readOperands 80 = .ok (.ifCond .eq 7, 3) := by decide +kernel
theorem dX1_readOperands_83 : decode cX1_readOperands 83 = .ok (.iconst 1, 1) := by decide +kernel
theorem dX1_readOperands_84 : decode cX1_readOperands 84 = .ok (.goto 4, 3) := by decide +kernel
theorem dX1_readOperands_87 : decode cX1_readOperands 87 = .ok (.iconst 0, 1) := by decide +kernel
theorem dX1_readOperands_88 : decode cX1_readOperands 88 = .ok (.ireturn, 1) := by decide +kernel
theorem dX1_readThird_0 : decode cX1_readThird 0 = .ok (.iconst 1, 1) := by decide +kernel
theorem dX1_readThird_1 : decode cX1_readThird 1 = .ok (.istore_n 2, 1) := by decide +kernel
theorem dX1_readThird_2 : decode cX1_readThird 2 = .ok (.aload_n 1, 1) := by decide +kernel
theorem dX1_readThird_3 : decode cX1_readThird 3 = .ok (.getfield 66, 3) := by decide +kernel
theorem dX1_readThird_6 : decode cX1_readThird 6 = .ok (.tableswitch 81 2 6 #[34, 34, 57, 57, 57], 34) := by decide +kernel
theorem dX1_readThird_40 : decode cX1_readThird 40 = .ok (.aload_n 0, 1) := by decide +kernel
theorem dX1_readThird_41 : decode cX1_readThird 41 = .ok (.iconst 1, 1) := by decide +kernel
theorem dX1_readThird_42 : decode cX1_readThird 42 = .ok (.sipush 200, 3) := by decide +kernel
theorem dX1_readThird_45 : decode cX1_readThird 45 = .ok (.sipush (-1000), 3) := by decide +kernel
theorem dX1_readThird_48 : decode cX1_readThird 48 = .ok (.invokevirtual 55, 3) := by decide +kernel
theorem dX1_readThird_51 : decode cX1_readThird 51 = .ok (.istore_n 2, 1) := by decide +kernel
theorem dX1_readThird_52 : decode cX1_readThird 52 = .ok (.aload_n 1, 1) := by decide +kernel
theorem dX1_readThird_53 : decode cX1_readThird 53 = .ok (.aload_n 0, 1) := by decide +kernel
theorem dX1_readThird_54 : decode cX1_readThird 54 = .ok (.getfield 59, 3) := by decide +kernel
theorem dX1_readThird_57 : decode cX1_readThird 57 = .ok (.putfield 87, 3) := by decide +kernel
theorem dX1_readThird_60 : decode cX1_readThird 60 = .ok (.goto 27, 3) := by decide +kernel
theorem dX1_readThird_63 : decode cX1_readThird 63 = .ok (.aload_n 0, 1) := by decide +kernel
theorem dX1_readThird_64 : decode cX1_readThird 64 = .ok (.bipush (-128), 2) := by decide +kernel
theorem dX1_readThird_66 : decode cX1_readThird 66 = .ok (.bipush 127, 2) := by decide +kernel
theorem dX1_readThird_68 : decode cX1_readThird 68 = .ok (.aload_n 1, 1) := by decide +kernel
theorem dX1_readThird_69 : decode cX1_readThird 69 = .ok (.getfield 81, 3) := by decide +kernel
theorem dX1_readThird_72 : decode cX1_readThird 72 = .ok (.invokevirtual 55, 3) := by decide +kernel
theorem dX1_readThird_75 : decode cX1_readThird 75 = .ok (.istore_n 2, 1) := by decide +kernel
theorem dX1_readThird_76 : decode cX1_readThird 76 = .ok (.aload_n 1, 1) := by decide +kernel
theorem dX1_readThird_77 : decode cX1_readThird 77 = .ok (.aload_n 0, 1) := by decide +kernel
theorem dX1_readThird_78 : decode cX1_readThird 78 = .ok (.getfield 59, 3) := by decide +kernel
theorem dX1_readThird_81 : decode cX1_readThird 81 = .ok (.putfield 90, 3) := by decide +kernel
theorem dX1_readThird_84 : decode cX1_readThird 84 = .ok (.goto 3, 3) := by decide +kernel
theorem dX1_readThird_87 : decode cX1_readThird 87 = .ok (.iload_n 2, 1) := by decide +kernel
theorem dX1_readThird_88 : decode cX1_readThird 88 = .ok (.ireturn, 1) := by decide +kernel
theorem dX1_readWithin_0 : decode cX1_readWithin 0 = .ok (.aload_n 1, 1) := by decide +kernel
theorem dX1_readWithin_1 : decode cX1_readWithin 1 = .ok (.iconst 0, 1) := by decide +kernel
theorem dX1_readWithin_2 : decode cX1_readWithin 2 = .ok (.putfield 93, 3) := by decide +kernel
theorem dX1_readWithin_5 : decode cX1_readWithin 5 = .ok (.aload_n 0, 1) := by decide +kernel
theorem dX1_readWithin_6 : decode cX1_readWithin 6 = .ok (.invokevirtual 62, 3) := by decide +kernel
theorem dX1_readWithin_9 : decode cX1_readWithin 9 = .ok (.ifCond .ne 5, 3) := by decide +kernel
theorem dX1_readWithin_12 : decode cX1_readWithin 12 = .ok (.iconst 1, 1) := by decide +kernel
theorem dX1_readWithin_13 : decode cX1_readWithin 13 = .ok (.ireturn, 1) := by decide +kernel
theorem dX1_readWithin_14 : decode cX1_readWithin 14 = .ok (.aload_n 0, 1) := by decide +kernel
theorem dX1_readWithin_15 : decode cX1_readWithin 15 = .ok (.dup, 1) := by decide +kernel
theorem dX1_readWithin_16 : decode cX1_readWithin 16 = .ok (.getfield 22, 3) := by decide +kernel
theorem dX1_readWithin_19 : decode cX1_readWithin 19 = .ok (.iconst 1, 1) := by decide +kernel
theorem dX1_readWithin_20 : decode cX1_readWithin 20 = .ok (.iadd, 1) := by decide +kernel
theorem dX1_readWithin_21 : decode cX1_readWithin 21 = .ok (.putfield 22, 3) := by decide +kernel
theorem dX1_readWithin_24 : decode cX1_readWithin 24 = .ok (.aload_n 0, 1) := by decide +kernel
theorem dX1_readWithin_25 : decode cX1_readWithin 25 = .ok (.iconst 1, 1) := by decide +kernel
theorem dX1_readWithin_26 : decode cX1_readWithin 26 = .ok (.sipush 200, 3) := by decide +kernel
theorem dX1_readWithin_29 : decode cX1_readWithin 29 = .ok (.sipush (-1000), 3) := by decide +kernel
theorem dX1_readWithin_32 : decode cX1_readWithin 32 = .ok (.invokevirtual 55, 3) := by decide +kernel
theorem dX1_readWithin_35 : decode cX1_readWithin 35 = .ok (.istore_n 2, 1) := by decide +kernel
theorem dX1_readWithin_36 : decode cX1_readWithin 36 = .ok (.aload_n 1, 1) := by decide +kernel
theorem dX1_readWithin_37 : decode cX1_readWithin 37 = .ok (.aload_n 0, 1) := by decide +kernel
theorem dX1_readWithin_38 : decode cX1_readWithin 38 = .ok (.getfield 59, 3) := by decide +kernel
theorem dX1_readWithin_41 : decode cX1_readWithin 41 = .ok (.putfield 93, 3) := by decide +kernel
theorem dX1_readWithin_44 : decode cX1_readWithin 44 = .ok (.iload_n 2, 1) := by decide +kernel
theorem dX1_readWithin_45 : decode cX1_readWithin 45 = .ok (.ireturn, 1) := by decide +kernel
theorem dX1_sees_0 : decode cX1_sees 0 = .ok (.aload_n 0, 1) := by decide +kernel
theorem dX1_sees_1 : decode cX1_sees 1 = .ok (.getfield 22, 3) := by decide +kernel
theorem dX1_sees_4 : decode cX1_sees 4 = .ok (.aload_n 0, 1) := by decide +kernel
theorem dX1_sees_5 : decode cX1_sees 5 = .ok (.getfield 9, 3) := by decide +kernel
theorem dX1_sees_8 : decode cX1_sees 8 = .ok (.getfield 96, 3) := by decide +kernel
theorem dX1_sees_11 : decode cX1_sees 11 = .ok (.if_icmp .ge 23, 3) := by decide +kernel
theorem dX1_sees_14 : decode cX1_sees 14 = .ok (.aload_n 0, 1) := by decide +kernel
theorem dX1_sees_15 : decode cX1_sees 15 = .ok (.getfield 9, 3) := by decide +kernel
theorem dX1_sees_18 : decode cX1_sees 18 = .ok (.getfield 99, 3) := by decide +kernel
theorem dX1_sees_21 : decode cX1_sees 21 = .ok (.aload_n 0, 1) := by decide +kernel
theorem dX1_sees_22 : decode cX1_sees 22 = .ok (.getfield 22, 3) := by decide +kernel
theorem dX1_sees_25 : decode cX1_sees 25 = .ok (.iaload, 1) := by decide +kernel
theorem dX1_sees_26 : decode cX1_sees 26 = .ok (.iload_n 1, 1) := by decide +kernel
theorem dX1_sees_27 : decode cX1_sees 27 = .ok (.if_icmp .ne 7, 3) := by decide +kernel
theorem dX1_sees_30 : decode cX1_sees 30 = .ok (.iconst 1, 1) := by decide +kernel
theorem dX1_sees_31 : decode cX1_sees 31 = .ok (.goto 4, 3) := by decide +kernel
theorem dX1_sees_34 : decode cX1_sees 34 = .ok (.iconst 0, 1) := by decide +kernel
theorem dX1_sees_35 : decode cX1_sees 35 = .ok (.ireturn, 1) := by decide +kernel
theorem dX1_seesWithin_0 : decode cX1_seesWithin 0 = .ok (.aload_n 0, 1) := by decide +kernel
theorem dX1_seesWithin_1 : decode cX1_seesWithin 1 = .ok (.iconst 1, 1) := by decide +kernel
theorem dX1_seesWithin_2 : decode cX1_seesWithin 2 = .ok (.invokevirtual 40, 3) := by decide +kernel
theorem dX1_seesWithin_5 : decode cX1_seesWithin 5 = .ok (.ifCond .eq 24, 3) := by decide +kernel
theorem dX1_seesWithin_8 : decode cX1_seesWithin 8 = .ok (.aload_n 0, 1) := by decide +kernel
theorem dX1_seesWithin_9 : decode cX1_seesWithin 9 = .ok (.getfield 9, 3) := by decide +kernel
theorem dX1_seesWithin_12 : decode cX1_seesWithin 12 = .ok (.getfield 103, 3) := by decide +kernel
theorem dX1_seesWithin_15 : decode cX1_seesWithin 15 = .ok (.aload_n 0, 1) := by decide +kernel
theorem dX1_seesWithin_16 : decode cX1_seesWithin 16 = .ok (.getfield 22, 3) := by decide +kernel
theorem dX1_seesWithin_19 : decode cX1_seesWithin 19 = .ok (.iaload, 1) := by decide +kernel
theorem dX1_seesWithin_20 : decode cX1_seesWithin 20 = .ok (.bipush 8, 2) := by decide +kernel
theorem dX1_seesWithin_22 : decode cX1_seesWithin 22 = .ok (.if_icmp .ne 7, 3) := by decide +kernel
theorem dX1_seesWithin_25 : decode cX1_seesWithin 25 = .ok (.iconst 1, 1) := by decide +kernel
theorem dX1_seesWithin_26 : decode cX1_seesWithin 26 = .ok (.goto 4, 3) := by decide +kernel
theorem dX1_seesWithin_29 : decode cX1_seesWithin 29 = .ok (.iconst 0, 1) := by decide +kernel
theorem dX1_seesWithin_30 : decode cX1_seesWithin 30 = .ok (.ireturn, 1) := by decide +kernel
theorem dX1_take_0 : decode cX1_take 0 = .ok (.aload_n 0, 1) := by decide +kernel
theorem dX1_take_1 : decode cX1_take 1 = .ok (.iload_n 1, 1) := by decide +kernel
theorem dX1_take_2 : decode cX1_take 2 = .ok (.invokevirtual 40, 3) := by decide +kernel
theorem dX1_take_5 : decode cX1_take 5 = .ok (.ifCond .ne 9, 3) := by decide +kernel
theorem dX1_take_8 : decode cX1_take 8 = .ok (.aload_n 0, 1) := by decide +kernel
theorem dX1_take_9 : decode cX1_take 9 = .ok (.iconst 2, 1) := by decide +kernel
theorem dX1_take_10 : decode cX1_take 10 = .ok (.invokevirtual 47, 3) := by decide +kernel
theorem dX1_take_13 : decode cX1_take 13 = .ok (.ireturn, 1) := by decide +kernel
theorem dX1_take_14 : decode cX1_take 14 = .ok (.aload_n 0, 1) := by decide +kernel
theorem dX1_take_15 : decode cX1_take 15 = .ok (.aload_n 0, 1) := by decide +kernel
theorem dX1_take_16 : decode cX1_take 16 = .ok (.getfield 9, 3) := by decide +kernel
theorem dX1_take_19 : decode cX1_take 19 = .ok (.getfield 103, 3) := by decide +kernel
theorem dX1_take_22 : decode cX1_take 22 = .ok (.aload_n 0, 1) := by decide +kernel
theorem dX1_take_23 : decode cX1_take 23 = .ok (.getfield 22, 3) := by decide +kernel
theorem dX1_take_26 : decode cX1_take 26 = .ok (.iaload, 1) := by decide +kernel
theorem dX1_take_27 : decode cX1_take 27 = .ok (.putfield 59, 3) := by decide +kernel
theorem dX1_take_30 : decode cX1_take 30 = .ok (.aload_n 0, 1) := by decide +kernel
theorem dX1_take_31 : decode cX1_take 31 = .ok (.dup, 1) := by decide +kernel
theorem dX1_take_32 : decode cX1_take 32 = .ok (.getfield 22, 3) := by decide +kernel
theorem dX1_take_35 : decode cX1_take 35 = .ok (.iconst 1, 1) := by decide +kernel
theorem dX1_take_36 : decode cX1_take 36 = .ok (.iadd, 1) := by decide +kernel
theorem dX1_take_37 : decode cX1_take 37 = .ok (.putfield 22, 3) := by decide +kernel
theorem dX1_take_40 : decode cX1_take 40 = .ok (.iconst 1, 1) := by decide +kernel
theorem dX1_take_41 : decode cX1_take 41 = .ok (.ireturn, 1) := by decide +kernel
theorem dX1_takeNumber_0 : decode cX1_takeNumber 0 = .ok (.aload_n 0, 1) := by decide +kernel
theorem dX1_takeNumber_1 : decode cX1_takeNumber 1 = .ok (.iconst 2, 1) := by decide +kernel
theorem dX1_takeNumber_2 : decode cX1_takeNumber 2 = .ok (.invokevirtual 40, 3) := by decide +kernel
theorem dX1_takeNumber_5 : decode cX1_takeNumber 5 = .ok (.ifCond .ne 9, 3) := by decide +kernel
theorem dX1_takeNumber_8 : decode cX1_takeNumber 8 = .ok (.aload_n 0, 1) := by decide +kernel
theorem dX1_takeNumber_9 : decode cX1_takeNumber 9 = .ok (.iconst 2, 1) := by decide +kernel
theorem dX1_takeNumber_10 : decode cX1_takeNumber 10 = .ok (.invokevirtual 47, 3) := by decide +kernel
theorem dX1_takeNumber_13 : decode cX1_takeNumber 13 = .ok (.ireturn, 1) := by decide +kernel
theorem dX1_takeNumber_14 : decode cX1_takeNumber 14 = .ok (.aload_n 0, 1) := by decide +kernel
theorem dX1_takeNumber_15 : decode cX1_takeNumber 15 = .ok (.getfield 9, 3) := by decide +kernel
theorem dX1_takeNumber_18 : decode cX1_takeNumber 18 = .ok (.getfield 103, 3) := by decide +kernel
theorem dX1_takeNumber_21 : decode cX1_takeNumber 21 = .ok (.aload_n 0, 1) := by decide +kernel
theorem dX1_takeNumber_22 : decode cX1_takeNumber 22 = .ok (.getfield 22, 3) := by decide +kernel
theorem dX1_takeNumber_25 : decode cX1_takeNumber 25 = .ok (.iaload, 1) := by decide +kernel
theorem dX1_takeNumber_26 : decode cX1_takeNumber 26 = .ok (.istore 4, 2) := by decide +kernel
theorem dX1_takeNumber_28 : decode cX1_takeNumber 28 = .ok (.iload 4, 2) := by decide +kernel
theorem dX1_takeNumber_30 : decode cX1_takeNumber 30 = .ok (.iload_n 1, 1) := by decide +kernel
theorem dX1_takeNumber_31 : decode cX1_takeNumber 31 = .ok (.iload_n 2, 1) := by decide +kernel
theorem dX1_takeNumber_32 : decode cX1_takeNumber 32 = .ok (.invokestatic 106, 3) := by decide +kernel
theorem dX1_takeNumber_35 : decode cX1_takeNumber 35 = .ok (.ifCond .ne 9, 3) := by decide +kernel
theorem dX1_takeNumber_38 : decode cX1_takeNumber 38 = .ok (.aload_n 0, 1) := by decide +kernel
theorem dX1_takeNumber_39 : decode cX1_takeNumber 39 = .ok (.iconst 3, 1) := by decide +kernel
theorem dX1_takeNumber_40 : decode cX1_takeNumber 40 = .ok (.invokevirtual 47, 3) := by decide +kernel
theorem dX1_takeNumber_43 : decode cX1_takeNumber 43 = .ok (.ireturn, 1) := by decide +kernel
theorem dX1_takeNumber_44 : decode cX1_takeNumber 44 = .ok (.iload 4, 2) := by decide +kernel
theorem dX1_takeNumber_46 : decode cX1_takeNumber 46 = .ok (.iload_n 3, 1) := by decide +kernel
theorem dX1_takeNumber_47 : decode cX1_takeNumber 47 = .ok (.if_icmp .gt 9, 3) := by decide +kernel
theorem dX1_takeNumber_50 : decode cX1_takeNumber 50 = .ok (.aload_n 0, 1) := by decide +kernel
theorem dX1_takeNumber_51 : decode cX1_takeNumber 51 = .ok (.iconst 5, 1) := by decide +kernel
theorem dX1_takeNumber_52 : decode cX1_takeNumber 52 = .ok (.invokevirtual 47, 3) := by decide +kernel
theorem dX1_takeNumber_55 : decode cX1_takeNumber 55 = .ok (.ireturn, 1) := by decide +kernel
theorem dX1_takeNumber_56 : decode cX1_takeNumber 56 = .ok (.aload_n 0, 1) := by decide +kernel
theorem dX1_takeNumber_57 : decode cX1_takeNumber 57 = .ok (.iload 4, 2) := by decide +kernel
theorem dX1_takeNumber_59 : decode cX1_takeNumber 59 = .ok (.putfield 59, 3) := by decide +kernel
theorem dX1_takeNumber_62 : decode cX1_takeNumber 62 = .ok (.aload_n 0, 1) := by decide +kernel
theorem dX1_takeNumber_63 : decode cX1_takeNumber 63 = .ok (.dup, 1) := by decide +kernel
theorem dX1_takeNumber_64 : decode cX1_takeNumber 64 = .ok (.getfield 22, 3) := by decide +kernel
theorem dX1_takeNumber_67 : decode cX1_takeNumber 67 = .ok (.iconst 1, 1) := by decide +kernel
theorem dX1_takeNumber_68 : decode cX1_takeNumber 68 = .ok (.iadd, 1) := by decide +kernel
theorem dX1_takeNumber_69 : decode cX1_takeNumber 69 = .ok (.putfield 22, 3) := by decide +kernel
theorem dX1_takeNumber_72 : decode cX1_takeNumber 72 = .ok (.iconst 1, 1) := by decide +kernel
theorem dX1_takeNumber_73 : decode cX1_takeNumber 73 = .ok (.ireturn, 1) := by decide +kernel
theorem dX1_refuse_0 : decode cX1_refuse 0 = .ok (.aload_n 0, 1) := by decide +kernel
theorem dX1_refuse_1 : decode cX1_refuse 1 = .ok (.iload_n 1, 1) := by decide +kernel
theorem dX1_refuse_2 : decode cX1_refuse 2 = .ok (.putfield 15, 3) := by decide +kernel
theorem dX1_refuse_5 : decode cX1_refuse 5 = .ok (.aload_n 0, 1) := by decide +kernel
theorem dX1_refuse_6 : decode cX1_refuse 6 = .ok (.getfield 22, 3) := by decide +kernel
theorem dX1_refuse_9 : decode cX1_refuse 9 = .ok (.aload_n 0, 1) := by decide +kernel
theorem dX1_refuse_10 : decode cX1_refuse 10 = .ok (.getfield 9, 3) := by decide +kernel
theorem dX1_refuse_13 : decode cX1_refuse 13 = .ok (.getfield 96, 3) := by decide +kernel
theorem dX1_refuse_16 : decode cX1_refuse 16 = .ok (.if_icmp .ge 40, 3) := by decide +kernel
theorem dX1_refuse_19 : decode cX1_refuse 19 = .ok (.aload_n 0, 1) := by decide +kernel
theorem dX1_refuse_20 : decode cX1_refuse 20 = .ok (.aload_n 0, 1) := by decide +kernel
theorem dX1_refuse_21 : decode cX1_refuse 21 = .ok (.getfield 9, 3) := by decide +kernel
theorem dX1_refuse_24 : decode cX1_refuse 24 = .ok (.getfield 109, 3) := by decide +kernel
theorem dX1_refuse_27 : decode cX1_refuse 27 = .ok (.aload_n 0, 1) := by decide +kernel
theorem dX1_refuse_28 : decode cX1_refuse 28 = .ok (.getfield 22, 3) := by decide +kernel
theorem dX1_refuse_31 : decode cX1_refuse 31 = .ok (.iaload, 1) := by decide +kernel
theorem dX1_refuse_32 : decode cX1_refuse 32 = .ok (.putfield 19, 3) := by decide +kernel
theorem dX1_refuse_35 : decode cX1_refuse 35 = .ok (.aload_n 0, 1) := by decide +kernel
theorem dX1_refuse_36 : decode cX1_refuse 36 = .ok (.getfield 9, 3) := by decide +kernel
theorem dX1_refuse_39 : decode cX1_refuse 39 = .ok (.getfield 99, 3) := by decide +kernel
theorem dX1_refuse_42 : decode cX1_refuse 42 = .ok (.aload_n 0, 1) := by decide +kernel
theorem dX1_refuse_43 : decode cX1_refuse 43 = .ok (.getfield 22, 3) := by decide +kernel
theorem dX1_refuse_46 : decode cX1_refuse 46 = .ok (.iaload, 1) := by decide +kernel
theorem dX1_refuse_47 : decode cX1_refuse 47 = .ok (.iconst 5, 1) := by decide +kernel
theorem dX1_refuse_48 : decode cX1_refuse 48 = .ok (.if_icmp .ne 8, 3) := by decide +kernel
theorem dX1_refuse_51 : decode cX1_refuse 51 = .ok (.aload_n 0, 1) := by decide +kernel
theorem dX1_refuse_52 : decode cX1_refuse 52 = .ok (.iconst 1, 1) := by decide +kernel
theorem dX1_refuse_53 : decode cX1_refuse 53 = .ok (.putfield 15, 3) := by decide +kernel
theorem dX1_refuse_56 : decode cX1_refuse 56 = .ok (.iconst 0, 1) := by decide +kernel
theorem dX1_refuse_57 : decode cX1_refuse 57 = .ok (.ireturn, 1) := by decide +kernel
theorem dX2_init_0 : decode cX2_init 0 = .ok (.aload_n 0, 1) := by decide +kernel
theorem dX2_init_1 : decode cX2_init 1 = .ok (.invokespecial 3, 3) := by decide +kernel
theorem dX2_init_4 : decode cX2_init 4 = .ok (.aload_n 0, 1) := by decide +kernel
theorem dX2_init_5 : decode cX2_init 5 = .ok (.sipush 256, 3) := by decide +kernel
theorem dX2_init_8 : decode cX2_init 8 = .ok (.newarray .int, 2) := by decide +kernel
theorem dX2_init_10 : decode cX2_init 10 = .ok (.putfield 9, 3) := by decide +kernel
theorem dX2_init_13 : decode cX2_init 13 = .ok (.return_, 1) := by decide +kernel
theorem dX2_add_0 : decode cX2_add 0 = .ok (.aload_n 0, 1) := by decide +kernel
theorem dX2_add_1 : decode cX2_add 1 = .ok (.getfield 9, 3) := by decide +kernel
theorem dX2_add_4 : decode cX2_add 4 = .ok (.aload_n 0, 1) := by decide +kernel
theorem dX2_add_5 : decode cX2_add 5 = .ok (.getfield 15, 3) := by decide +kernel
theorem dX2_add_8 : decode cX2_add 8 = .ok (.sipush 256, 3) := by decide +kernel
theorem dX2_add_11 : decode cX2_add 11 = .ok (.invokestatic 19, 3) := by decide +kernel
theorem dX2_add_14 : decode cX2_add 14 = .ok (.iload_n 1, 1) := by decide +kernel
theorem dX2_add_15 : decode cX2_add 15 = .ok (.iastore, 1) := by decide +kernel
theorem dX2_add_16 : decode cX2_add 16 = .ok (.aload_n 0, 1) := by decide +kernel
theorem dX2_add_17 : decode cX2_add 17 = .ok (.dup, 1) := by decide +kernel
theorem dX2_add_18 : decode cX2_add 18 = .ok (.getfield 15, 3) := by decide +kernel
theorem dX2_add_21 : decode cX2_add 21 = .ok (.iconst 1, 1) := by decide +kernel
theorem dX2_add_22 : decode cX2_add 22 = .ok (.iadd, 1) := by decide +kernel
theorem dX2_add_23 : decode cX2_add 23 = .ok (.putfield 15, 3) := by decide +kernel
theorem dX2_add_26 : decode cX2_add 26 = .ok (.return_, 1) := by decide +kernel
theorem dX2_oldest_0 : decode cX2_oldest 0 = .ok (.iconst 0, 1) := by decide +kernel
theorem dX2_oldest_1 : decode cX2_oldest 1 = .ok (.aload_n 0, 1) := by decide +kernel
theorem dX2_oldest_2 : decode cX2_oldest 2 = .ok (.getfield 15, 3) := by decide +kernel
theorem dX2_oldest_5 : decode cX2_oldest 5 = .ok (.sipush 256, 3) := by decide +kernel
theorem dX2_oldest_8 : decode cX2_oldest 8 = .ok (.isub, 1) := by decide +kernel
theorem dX2_oldest_9 : decode cX2_oldest 9 = .ok (.invokestatic 25, 3) := by decide +kernel
theorem dX2_oldest_12 : decode cX2_oldest 12 = .ok (.ireturn, 1) := by decide +kernel
theorem dX2_has_0 : decode cX2_has 0 = .ok (.iload_n 1, 1) := by decide +kernel
theorem dX2_has_1 : decode cX2_has 1 = .ok (.aload_n 0, 1) := by decide +kernel
theorem dX2_has_2 : decode cX2_has 2 = .ok (.invokevirtual 28, 3) := by decide +kernel
theorem dX2_has_5 : decode cX2_has 5 = .ok (.aload_n 0, 1) := by decide +kernel
theorem dX2_has_6 : decode cX2_has 6 = .ok (.getfield 15, 3) := by decide +kernel
theorem dX2_has_9 : decode cX2_has 9 = .ok (.iconst 1, 1) := by decide +kernel
theorem dX2_has_10 : decode cX2_has 10 = .ok (.isub, 1) := by decide +kernel
theorem dX2_has_11 : decode cX2_has 11 = .ok (.invokestatic 32, 3) := by decide +kernel
theorem dX2_has_14 : decode cX2_has 14 = .ok (.ireturn, 1) := by decide +kernel
theorem dX2_get_0 : decode cX2_get 0 = .ok (.aload_n 0, 1) := by decide +kernel
theorem dX2_get_1 : decode cX2_get 1 = .ok (.getfield 9, 3) := by decide +kernel
theorem dX2_get_4 : decode cX2_get 4 = .ok (.iload_n 1, 1) := by decide +kernel
theorem dX2_get_5 : decode cX2_get 5 = .ok (.sipush 256, 3) := by decide +kernel
theorem dX2_get_8 : decode cX2_get 8 = .ok (.invokestatic 19, 3) := by decide +kernel
theorem dX2_get_11 : decode cX2_get 11 = .ok (.iaload, 1) := by decide +kernel
theorem dX2_get_12 : decode cX2_get 12 = .ok (.ireturn, 1) := by decide +kernel
theorem dX3_init_0 : decode cX3_init 0 = .ok (.aload_n 0, 1) := by decide +kernel
theorem dX3_init_1 : decode cX3_init 1 = .ok (.invokespecial 3, 3) := by decide +kernel
theorem dX3_init_4 : decode cX3_init 4 = .ok (.aload_n 0, 1) := by decide +kernel
theorem dX3_init_5 : decode cX3_init 5 = .ok (.sipush 201, 3) := by decide +kernel
theorem dX3_init_8 : decode cX3_init 8 = .ok (.newarray .long, 2) := by decide +kernel
theorem dX3_init_10 : decode cX3_init 10 = .ok (.putfield 9, 3) := by decide +kernel
theorem dX3_init_13 : decode cX3_init 13 = .ok (.aload_n 0, 1) := by decide +kernel
theorem dX3_init_14 : decode cX3_init 14 = .ok (.sipush 201, 3) := by decide +kernel
theorem dX3_init_17 : decode cX3_init 17 = .ok (.newarray .boolean, 2) := by decide +kernel
theorem dX3_init_19 : decode cX3_init 19 = .ok (.putfield 15, 3) := by decide +kernel
theorem dX3_init_22 : decode cX3_init 22 = .ok (.return_, 1) := by decide +kernel
theorem dX3_copyOf_0 : decode cX3_copyOf 0 = .ok (.aload_n 0, 1) := by decide +kernel
theorem dX3_copyOf_1 : decode cX3_copyOf 1 = .ok (.aload_n 1, 1) := by decide +kernel
theorem dX3_copyOf_2 : decode cX3_copyOf 2 = .ok (.getfield 19, 3) := by decide +kernel
theorem dX3_copyOf_5 : decode cX3_copyOf 5 = .ok (.putfield 25, 3) := by decide +kernel
theorem dX3_copyOf_8 : decode cX3_copyOf 8 = .ok (.iconst 0, 1) := by decide +kernel
theorem dX3_copyOf_9 : decode cX3_copyOf 9 = .ok (.istore_n 3, 1) := by decide +kernel
theorem dX3_copyOf_10 : decode cX3_copyOf 10 = .ok (.iload_n 3, 1) := by decide +kernel
theorem dX3_copyOf_11 : decode cX3_copyOf 11 = .ok (.aload_n 0, 1) := by decide +kernel
theorem dX3_copyOf_12 : decode cX3_copyOf 12 = .ok (.getfield 25, 3) := by decide +kernel
theorem dX3_copyOf_15 : decode cX3_copyOf 15 = .ok (.if_icmp .ge 21, 3) := by decide +kernel
theorem dX3_copyOf_18 : decode cX3_copyOf 18 = .ok (.aload_n 0, 1) := by decide +kernel
theorem dX3_copyOf_19 : decode cX3_copyOf 19 = .ok (.iload_n 3, 1) := by decide +kernel
theorem dX3_copyOf_20 : decode cX3_copyOf 20 = .ok (.aload_n 1, 1) := by decide +kernel
theorem dX3_copyOf_21 : decode cX3_copyOf 21 = .ok (.iload_n 2, 1) := by decide +kernel
theorem dX3_copyOf_22 : decode cX3_copyOf 22 = .ok (.iload_n 3, 1) := by decide +kernel
theorem dX3_copyOf_23 : decode cX3_copyOf 23 = .ok (.invokevirtual 26, 3) := by decide +kernel
theorem dX3_copyOf_26 : decode cX3_copyOf 26 = .ok (.i2l, 1) := by decide +kernel
theorem dX3_copyOf_27 : decode cX3_copyOf 27 = .ok (.invokevirtual 30, 3) := by decide +kernel
theorem dX3_copyOf_30 : decode cX3_copyOf 30 = .ok (.iinc 3 1, 3) := by decide +kernel
theorem dX3_copyOf_33 : decode cX3_copyOf 33 = .ok (.goto (-23), 3) := by decide +kernel
theorem dX3_copyOf_36 : decode cX3_copyOf 36 = .ok (.return_, 1) := by decide +kernel
theorem dX3_put_0 : decode cX3_put 0 = .ok (.aload_n 0, 1) := by decide +kernel
theorem dX3_put_1 : decode cX3_put 1 = .ok (.getfield 9, 3) := by decide +kernel
theorem dX3_put_4 : decode cX3_put 4 = .ok (.iload_n 1, 1) := by decide +kernel
theorem dX3_put_5 : decode cX3_put 5 = .ok (.lload_n 2, 1) := by decide +kernel
theorem dX3_put_6 : decode cX3_put 6 = .ok (.lastore, 1) := by decide +kernel
theorem dX3_put_7 : decode cX3_put 7 = .ok (.aload_n 0, 1) := by decide +kernel
theorem dX3_put_8 : decode cX3_put 8 = .ok (.getfield 15, 3) := by decide +kernel
theorem dX3_put_11 : decode cX3_put 11 = .ok (.iload_n 1, 1) := by decide +kernel
theorem dX3_put_12 : decode cX3_put 12 = .ok (.iconst 0, 1) := by decide +kernel
theorem dX3_put_13 : decode cX3_put 13 = .ok (.bastore, 1) := by decide +kernel
theorem dX3_put_14 : decode cX3_put 14 = .ok (.return_, 1) := by decide +kernel
theorem dX3_putGap_0 : decode cX3_putGap 0 = .ok (.aload_n 0, 1) := by decide +kernel
theorem dX3_putGap_1 : decode cX3_putGap 1 = .ok (.getfield 9, 3) := by decide +kernel
theorem dX3_putGap_4 : decode cX3_putGap 4 = .ok (.iload_n 1, 1) := by decide +kernel
theorem dX3_putGap_5 : decode cX3_putGap 5 = .ok (.lconst 0, 1) := by decide +kernel
theorem dX3_putGap_6 : decode cX3_putGap 6 = .ok (.lastore, 1) := by decide +kernel
theorem dX3_putGap_7 : decode cX3_putGap 7 = .ok (.aload_n 0, 1) := by decide +kernel
theorem dX3_putGap_8 : decode cX3_putGap 8 = .ok (.getfield 15, 3) := by decide +kernel
theorem dX3_putGap_11 : decode cX3_putGap 11 = .ok (.iload_n 1, 1) := by decide +kernel
theorem dX3_putGap_12 : decode cX3_putGap 12 = .ok (.iconst 1, 1) := by decide +kernel
theorem dX3_putGap_13 : decode cX3_putGap 13 = .ok (.bastore, 1) := by decide +kernel
theorem dX3_putGap_14 : decode cX3_putGap 14 = .ok (.return_, 1) := by decide +kernel
theorem dX3_valueAt_0 : decode cX3_valueAt 0 = .ok (.iload_n 1, 1) := by decide +kernel
theorem dX3_valueAt_1 : decode cX3_valueAt 1 = .ok (.iconst 0, 1) := by decide +kernel
theorem dX3_valueAt_2 : decode cX3_valueAt 2 = .ok (.aload_n 0, 1) := by decide +kernel
theorem dX3_valueAt_3 : decode cX3_valueAt 3 = .ok (.getfield 25, 3) := by decide +kernel
theorem dX3_valueAt_6 : decode cX3_valueAt 6 = .ok (.iconst 1, 1) := by decide +kernel
theorem dX3_valueAt_7 : decode cX3_valueAt 7 = .ok (.isub, 1) := by decide +kernel
theorem dX3_valueAt_8 : decode cX3_valueAt 8 = .ok (.invokestatic 34, 3) := by decide +kernel
theorem dX3_valueAt_11 : decode cX3_valueAt 11 = .ok (.ifCond .eq 12, 3) := by decide +kernel
theorem dX3_valueAt_14 : decode cX3_valueAt 14 = .ok (.aload_n 0, 1) := by decide +kernel
theorem dX3_valueAt_15 : decode cX3_valueAt 15 = .ok (.getfield 9, 3) := by decide +kernel
theorem dX3_valueAt_18 : decode cX3_valueAt 18 = .ok (.iload_n 1, 1) := by decide +kernel
theorem dX3_valueAt_19 : decode cX3_valueAt 19 = .ok (.laload, 1) := by decide +kernel
theorem dX3_valueAt_20 : decode cX3_valueAt 20 = .ok (.goto 4, 3) := by decide +kernel
theorem dX3_valueAt_23 : decode cX3_valueAt 23 = .ok (.lconst 0, 1) := by decide +kernel
theorem dX3_valueAt_24 : decode cX3_valueAt 24 = .ok (.lreturn, 1) := by decide +kernel
theorem dX3_reckonTwo_0 : decode cX3_reckonTwo 0 = .ok (.aload_n 2, 1) := by decide +kernel
theorem dX3_reckonTwo_1 : decode cX3_reckonTwo 1 = .ok (.getfield 25, 3) := by decide +kernel
theorem dX3_reckonTwo_4 : decode cX3_reckonTwo 4 = .ok (.aload_n 3, 1) := by decide +kernel
theorem dX3_reckonTwo_5 : decode cX3_reckonTwo 5 = .ok (.getfield 25, 3) := by decide +kernel
theorem dX3_reckonTwo_8 : decode cX3_reckonTwo 8 = .ok (.invokestatic 38, 3) := by decide +kernel
theorem dX3_reckonTwo_11 : decode cX3_reckonTwo 11 = .ok (.istore 4, 2) := by decide +kernel
theorem dX3_reckonTwo_13 : decode cX3_reckonTwo 13 = .ok (.iconst 0, 1) := by decide +kernel
theorem dX3_reckonTwo_14 : decode cX3_reckonTwo 14 = .ok (.istore 5, 2) := by decide +kernel
theorem dX3_reckonTwo_16 : decode cX3_reckonTwo 16 = .ok (.iload 5, 2) := by decide +kernel
theorem dX3_reckonTwo_18 : decode cX3_reckonTwo 18 = .ok (.iload 4, 2) := by decide +kernel
theorem dX3_reckonTwo_20 : decode cX3_reckonTwo 20 = .ok (.if_icmp .ge 62, 3) := by decide +kernel
theorem dX3_reckonTwo_23 : decode cX3_reckonTwo 23 = .ok (.aload_n 2, 1) := by decide +kernel
theorem dX3_reckonTwo_24 : decode cX3_reckonTwo 24 = .ok (.getfield 15, 3) := by decide +kernel
theorem dX3_reckonTwo_27 : decode cX3_reckonTwo 27 = .ok (.iload 5, 2) := by decide +kernel
theorem dX3_reckonTwo_29 : decode cX3_reckonTwo 29 = .ok (.baload, 1) := by decide +kernel
theorem dX3_reckonTwo_30 : decode cX3_reckonTwo 30 = .ok (.ifCond .ne 13, 3) := by decide +kernel
theorem dX3_reckonTwo_33 : decode cX3_reckonTwo 33 = .ok (.aload_n 3, 1) := by decide +kernel
theorem dX3_reckonTwo_34 : decode cX3_reckonTwo 34 = .ok (.getfield 15, 3) := by decide +kernel
theorem dX3_reckonTwo_37 : decode cX3_reckonTwo 37 = .ok (.iload 5, 2) := by decide +kernel
theorem dX3_reckonTwo_39 : decode cX3_reckonTwo 39 = .ok (.baload, 1) := by decide +kernel
theorem dX3_reckonTwo_40 : decode cX3_reckonTwo 40 = .ok (.ifCond .eq 12, 3) := by decide +kernel
theorem dX3_reckonTwo_43 : decode cX3_reckonTwo 43 = .ok (.aload_n 0, 1) := by decide +kernel
theorem dX3_reckonTwo_44 : decode cX3_reckonTwo 44 = .ok (.iload 5, 2) := by decide +kernel
theorem dX3_reckonTwo_46 : decode cX3_reckonTwo 46 = .ok (.invokevirtual 43, 3) := by decide +kernel
theorem dX3_reckonTwo_49 : decode cX3_reckonTwo 49 = .ok (.goto 27, 3) := by decide +kernel
theorem dX3_reckonTwo_52 : decode cX3_reckonTwo 52 = .ok (.aload_n 0, 1) := by decide +kernel
theorem dX3_reckonTwo_53 : decode cX3_reckonTwo 53 = .ok (.iload 5, 2) := by decide +kernel
theorem dX3_reckonTwo_55 : decode cX3_reckonTwo 55 = .ok (.iload_n 1, 1) := by decide +kernel
theorem dX3_reckonTwo_56 : decode cX3_reckonTwo 56 = .ok (.aload_n 2, 1) := by decide +kernel
theorem dX3_reckonTwo_57 : decode cX3_reckonTwo 57 = .ok (.getfield 9, 3) := by decide +kernel
theorem dX3_reckonTwo_60 : decode cX3_reckonTwo 60 = .ok (.iload 5, 2) := by decide +kernel
theorem dX3_reckonTwo_62 : decode cX3_reckonTwo 62 = .ok (.laload, 1) := by decide +kernel
theorem dX3_reckonTwo_63 : decode cX3_reckonTwo 63 = .ok (.aload_n 3, 1) := by decide +kernel
theorem dX3_reckonTwo_64 : decode cX3_reckonTwo 64 = .ok (.getfield 9, 3) := by decide +kernel
theorem dX3_reckonTwo_67 : decode cX3_reckonTwo 67 = .ok (.iload 5, 2) := by decide +kernel
theorem dX3_reckonTwo_69 : decode cX3_reckonTwo 69 = .ok (.laload, 1) := by decide +kernel
theorem dX3_reckonTwo_70 : decode cX3_reckonTwo 70 = .ok (.invokestatic 47, 3) := by decide +kernel
theorem dX3_reckonTwo_73 : decode cX3_reckonTwo 73 = .ok (.invokevirtual 30, 3) := by decide +kernel
theorem dX3_reckonTwo_76 : decode cX3_reckonTwo 76 = .ok (.iinc 5 1, 3) := by decide +kernel
theorem dX3_reckonTwo_79 : decode cX3_reckonTwo 79 = .ok (.goto (-63), 3) := by decide +kernel
theorem dX3_reckonTwo_82 : decode cX3_reckonTwo 82 = .ok (.aload_n 0, 1) := by decide +kernel
theorem dX3_reckonTwo_83 : decode cX3_reckonTwo 83 = .ok (.iload 4, 2) := by decide +kernel
theorem dX3_reckonTwo_85 : decode cX3_reckonTwo 85 = .ok (.putfield 25, 3) := by decide +kernel
theorem dX3_reckonTwo_88 : decode cX3_reckonTwo 88 = .ok (.return_, 1) := by decide +kernel
theorem dX3_joined_0 : decode cX3_joined 0 = .ok (.iload_n 0, 1) := by decide +kernel
theorem dX3_joined_1 : decode cX3_joined 1 = .ok (.lookupswitch 35 #[(0, 27), (1, 31)], 27) := by decide +kernel
theorem dX3_joined_28 : decode cX3_joined 28 = .ok (.lload_n 1, 1) := by decide +kernel
theorem dX3_joined_29 : decode cX3_joined 29 = .ok (.lload_n 3, 1) := by decide +kernel
theorem dX3_joined_30 : decode cX3_joined 30 = .ok (.ladd, 1) := by decide +kernel
theorem dX3_joined_31 : decode cX3_joined 31 = .ok (.lreturn, 1) := by decide +kernel
theorem dX3_joined_32 : decode cX3_joined 32 = .ok (.lload_n 1, 1) := by decide +kernel
theorem dX3_joined_33 : decode cX3_joined 33 = .ok (.lload_n 3, 1) := by decide +kernel
theorem dX3_joined_34 : decode cX3_joined 34 = .ok (.lsub, 1) := by decide +kernel
theorem dX3_joined_35 : decode cX3_joined 35 = .ok (.lreturn, 1) := by decide +kernel
theorem dX3_joined_36 : decode cX3_joined 36 = .ok (.lload_n 1, 1) := by decide +kernel
theorem dX3_joined_37 : decode cX3_joined 37 = .ok (.lload_n 3, 1) := by decide +kernel
theorem dX3_joined_38 : decode cX3_joined 38 = .ok (.lmul, 1) := by decide +kernel
theorem dX3_joined_39 : decode cX3_joined 39 = .ok (.lreturn, 1) := by decide +kernel
theorem dX3_reckonOne_0 : decode cX3_reckonOne 0 = .ok (.iload_n 1, 1) := by decide +kernel
theorem dX3_reckonOne_1 : decode cX3_reckonOne 1 = .ok (.bipush 6, 2) := by decide +kernel
theorem dX3_reckonOne_3 : decode cX3_reckonOne 3 = .ok (.if_icmp .ne 9, 3) := by decide +kernel
theorem dX3_reckonOne_6 : decode cX3_reckonOne 6 = .ok (.aload_n 0, 1) := by decide +kernel
theorem dX3_reckonOne_7 : decode cX3_reckonOne 7 = .ok (.aload_n 2, 1) := by decide +kernel
theorem dX3_reckonOne_8 : decode cX3_reckonOne 8 = .ok (.invokevirtual 51, 3) := by decide +kernel
theorem dX3_reckonOne_11 : decode cX3_reckonOne 11 = .ok (.return_, 1) := by decide +kernel
theorem dX3_reckonOne_12 : decode cX3_reckonOne 12 = .ok (.aload_n 0, 1) := by decide +kernel
theorem dX3_reckonOne_13 : decode cX3_reckonOne 13 = .ok (.aload_n 2, 1) := by decide +kernel
theorem dX3_reckonOne_14 : decode cX3_reckonOne 14 = .ok (.getfield 25, 3) := by decide +kernel
theorem dX3_reckonOne_17 : decode cX3_reckonOne 17 = .ok (.putfield 25, 3) := by decide +kernel
theorem dX3_reckonOne_20 : decode cX3_reckonOne 20 = .ok (.aload_n 0, 1) := by decide +kernel
theorem dX3_reckonOne_21 : decode cX3_reckonOne 21 = .ok (.getfield 25, 3) := by decide +kernel
theorem dX3_reckonOne_24 : decode cX3_reckonOne 24 = .ok (.iconst 1, 1) := by decide +kernel
theorem dX3_reckonOne_25 : decode cX3_reckonOne 25 = .ok (.isub, 1) := by decide +kernel
theorem dX3_reckonOne_26 : decode cX3_reckonOne 26 = .ok (.istore 4, 2) := by decide +kernel
theorem dX3_reckonOne_28 : decode cX3_reckonOne 28 = .ok (.iload 4, 2) := by decide +kernel
theorem dX3_reckonOne_30 : decode cX3_reckonOne 30 = .ok (.ifCond .lt 43, 3) := by decide +kernel
theorem dX3_reckonOne_33 : decode cX3_reckonOne 33 = .ok (.aload_n 2, 1) := by decide +kernel
theorem dX3_reckonOne_34 : decode cX3_reckonOne 34 = .ok (.iload_n 1, 1) := by decide +kernel
theorem dX3_reckonOne_35 : decode cX3_reckonOne 35 = .ok (.iload 4, 2) := by decide +kernel
theorem dX3_reckonOne_37 : decode cX3_reckonOne 37 = .ok (.iload_n 3, 1) := by decide +kernel
theorem dX3_reckonOne_38 : decode cX3_reckonOne 38 = .ok (.invokevirtual 55, 3) := by decide +kernel
theorem dX3_reckonOne_41 : decode cX3_reckonOne 41 = .ok (.ifCond .eq 12, 3) := by decide +kernel
theorem dX3_reckonOne_44 : decode cX3_reckonOne 44 = .ok (.aload_n 0, 1) := by decide +kernel
theorem dX3_reckonOne_45 : decode cX3_reckonOne 45 = .ok (.iload 4, 2) := by decide +kernel
theorem dX3_reckonOne_47 : decode cX3_reckonOne 47 = .ok (.invokevirtual 43, 3) := by decide +kernel
theorem dX3_reckonOne_50 : decode cX3_reckonOne 50 = .ok (.goto 17, 3) := by decide +kernel
theorem dX3_reckonOne_53 : decode cX3_reckonOne 53 = .ok (.aload_n 0, 1) := by decide +kernel
theorem dX3_reckonOne_54 : decode cX3_reckonOne 54 = .ok (.iload 4, 2) := by decide +kernel
theorem dX3_reckonOne_56 : decode cX3_reckonOne 56 = .ok (.aload_n 2, 1) := by decide +kernel
theorem dX3_reckonOne_57 : decode cX3_reckonOne 57 = .ok (.iload_n 1, 1) := by decide +kernel
theorem dX3_reckonOne_58 : decode cX3_reckonOne 58 = .ok (.iload 4, 2) := by decide +kernel
theorem dX3_reckonOne_60 : decode cX3_reckonOne 60 = .ok (.iload_n 3, 1) := by decide +kernel
theorem dX3_reckonOne_61 : decode cX3_reckonOne 61 = .ok (.invokevirtual 58, 3) := by decide +kernel
theorem dX3_reckonOne_64 : decode cX3_reckonOne 64 = .ok (.invokevirtual 30, 3) := by decide +kernel
theorem dX3_reckonOne_67 : decode cX3_reckonOne 67 = .ok (.iinc 4 (-1), 3) := by decide +kernel
theorem dX3_reckonOne_70 : decode cX3_reckonOne 70 = .ok (.goto (-42), 3) := by decide +kernel
theorem dX3_reckonOne_73 : decode cX3_reckonOne 73 = .ok (.return_, 1) := by decide +kernel
theorem dX3_leavesGap_0 : decode cX3_leavesGap 0 = .ok (.iload_n 1, 1) := by decide +kernel
theorem dX3_leavesGap_1 : decode cX3_leavesGap 1 = .ok (.tableswitch 113 3 5 #[27, 54, 86], 27) := by decide +kernel
theorem dX3_leavesGap_28 : decode cX3_leavesGap 28 = .ok (.iload_n 2, 1) := by decide +kernel
theorem dX3_leavesGap_29 : decode cX3_leavesGap 29 = .ok (.iload_n 3, 1) := by decide +kernel
theorem dX3_leavesGap_30 : decode cX3_leavesGap 30 = .ok (.isub, 1) := by decide +kernel
theorem dX3_leavesGap_31 : decode cX3_leavesGap 31 = .ok (.iconst 1, 1) := by decide +kernel
theorem dX3_leavesGap_32 : decode cX3_leavesGap 32 = .ok (.iadd, 1) := by decide +kernel
theorem dX3_leavesGap_33 : decode cX3_leavesGap 33 = .ok (.ifCond .lt 16, 3) := by decide +kernel
theorem dX3_leavesGap_36 : decode cX3_leavesGap 36 = .ok (.aload_n 0, 1) := by decide +kernel
theorem dX3_leavesGap_37 : decode cX3_leavesGap 37 = .ok (.iload_n 2, 1) := by decide +kernel
theorem dX3_leavesGap_38 : decode cX3_leavesGap 38 = .ok (.iload_n 3, 1) := by decide +kernel
theorem dX3_leavesGap_39 : decode cX3_leavesGap 39 = .ok (.isub, 1) := by decide +kernel
theorem dX3_leavesGap_40 : decode cX3_leavesGap 40 = .ok (.iconst 1, 1) := by decide +kernel
theorem dX3_leavesGap_41 : decode cX3_leavesGap 41 = .ok (.iadd, 1) := by decide +kernel
theorem dX3_leavesGap_42 : decode cX3_leavesGap 42 = .ok (.iload_n 2, 1) := by decide +kernel
theorem dX3_leavesGap_43 : decode cX3_leavesGap 43 = .ok (.invokevirtual 62, 3) := by decide +kernel
theorem dX3_leavesGap_46 : decode cX3_leavesGap 46 = .ok (.ifCond .eq 7, 3) := by decide +kernel
theorem dX3_leavesGap_49 : decode cX3_leavesGap 49 = .ok (.iconst 1, 1) := by decide +kernel
theorem dX3_leavesGap_50 : decode cX3_leavesGap 50 = .ok (.goto 4, 3) := by decide +kernel
theorem dX3_leavesGap_53 : decode cX3_leavesGap 53 = .ok (.iconst 0, 1) := by decide +kernel
theorem dX3_leavesGap_54 : decode cX3_leavesGap 54 = .ok (.ireturn, 1) := by decide +kernel
theorem dX3_leavesGap_55 : decode cX3_leavesGap 55 = .ok (.iload_n 2, 1) := by decide +kernel
theorem dX3_leavesGap_56 : decode cX3_leavesGap 56 = .ok (.iload_n 3, 1) := by decide +kernel
theorem dX3_leavesGap_57 : decode cX3_leavesGap 57 = .ok (.isub, 1) := by decide +kernel
theorem dX3_leavesGap_58 : decode cX3_leavesGap 58 = .ok (.ifCond .lt 23, 3) := by decide +kernel
theorem dX3_leavesGap_61 : decode cX3_leavesGap 61 = .ok (.aload_n 0, 1) := by decide +kernel
theorem dX3_leavesGap_62 : decode cX3_leavesGap 62 = .ok (.getfield 15, 3) := by decide +kernel
theorem dX3_leavesGap_65 : decode cX3_leavesGap 65 = .ok (.iload_n 2, 1) := by decide +kernel
theorem dX3_leavesGap_66 : decode cX3_leavesGap 66 = .ok (.baload, 1) := by decide +kernel
theorem dX3_leavesGap_67 : decode cX3_leavesGap 67 = .ok (.ifCond .ne 14, 3) := by decide +kernel
theorem dX3_leavesGap_70 : decode cX3_leavesGap 70 = .ok (.aload_n 0, 1) := by decide +kernel
theorem dX3_leavesGap_71 : decode cX3_leavesGap 71 = .ok (.getfield 15, 3) := by decide +kernel
theorem dX3_leavesGap_74 : decode cX3_leavesGap 74 = .ok (.iload_n 2, 1) := by decide +kernel
theorem dX3_leavesGap_75 : decode cX3_leavesGap 75 = .ok (.iload_n 3, 1) := by decide +kernel
theorem dX3_leavesGap_76 : decode cX3_leavesGap 76 = .ok (.isub, 1) := by decide +kernel
theorem dX3_leavesGap_77 : decode cX3_leavesGap 77 = .ok (.baload, 1) := by decide +kernel
theorem dX3_leavesGap_78 : decode cX3_leavesGap 78 = .ok (.ifCond .eq 7, 3) := by decide +kernel
theorem dX3_leavesGap_81 : decode cX3_leavesGap 81 = .ok (.iconst 1, 1) := by decide +kernel
theorem dX3_leavesGap_82 : decode cX3_leavesGap 82 = .ok (.goto 4, 3) := by decide +kernel
theorem dX3_leavesGap_85 : decode cX3_leavesGap 85 = .ok (.iconst 0, 1) := by decide +kernel
theorem dX3_leavesGap_86 : decode cX3_leavesGap 86 = .ok (.ireturn, 1) := by decide +kernel
theorem dX3_leavesGap_87 : decode cX3_leavesGap 87 = .ok (.aload_n 0, 1) := by decide +kernel
theorem dX3_leavesGap_88 : decode cX3_leavesGap 88 = .ok (.getfield 15, 3) := by decide +kernel
theorem dX3_leavesGap_91 : decode cX3_leavesGap 91 = .ok (.iload_n 2, 1) := by decide +kernel
theorem dX3_leavesGap_92 : decode cX3_leavesGap 92 = .ok (.baload, 1) := by decide +kernel
theorem dX3_leavesGap_93 : decode cX3_leavesGap 93 = .ok (.ifCond .ne 15, 3) := by decide +kernel
theorem dX3_leavesGap_96 : decode cX3_leavesGap 96 = .ok (.aload_n 0, 1) := by decide +kernel
theorem dX3_leavesGap_97 : decode cX3_leavesGap 97 = .ok (.getfield 9, 3) := by decide +kernel
theorem dX3_leavesGap_100 : decode cX3_leavesGap 100 = .ok (.iload_n 2, 1) := by decide +kernel
theorem dX3_leavesGap_101 : decode cX3_leavesGap 101 = .ok (.laload, 1) := by decide +kernel
theorem dX3_leavesGap_102 : decode cX3_leavesGap 102 = .ok (.iload_n 3, 1) := by decide +kernel
theorem dX3_leavesGap_103 : decode cX3_leavesGap 103 = .ok (.i2l, 1) := by decide +kernel
theorem dX3_leavesGap_104 : decode cX3_leavesGap 104 = .ok (.lcmp, 1) := by decide +kernel
theorem dX3_leavesGap_105 : decode cX3_leavesGap 105 = .ok (.ifCond .ge 7, 3) := by decide +kernel
theorem dX3_leavesGap_108 : decode cX3_leavesGap 108 = .ok (.iconst 1, 1) := by decide +kernel
theorem dX3_leavesGap_109 : decode cX3_leavesGap 109 = .ok (.goto 4, 3) := by decide +kernel
theorem dX3_leavesGap_112 : decode cX3_leavesGap 112 = .ok (.iconst 0, 1) := by decide +kernel
theorem dX3_leavesGap_113 : decode cX3_leavesGap 113 = .ok (.ireturn, 1) := by decide +kernel
theorem dX3_leavesGap_114 : decode cX3_leavesGap 114 = .ok (.aload_n 0, 1) := by decide +kernel
theorem dX3_leavesGap_115 : decode cX3_leavesGap 115 = .ok (.getfield 15, 3) := by decide +kernel
theorem dX3_leavesGap_118 : decode cX3_leavesGap 118 = .ok (.iload_n 2, 1) := by decide +kernel
theorem dX3_leavesGap_119 : decode cX3_leavesGap 119 = .ok (.baload, 1) := by decide +kernel
theorem dX3_leavesGap_120 : decode cX3_leavesGap 120 = .ok (.ireturn, 1) := by decide +kernel
theorem dX3_reckoned_0 : decode cX3_reckoned 0 = .ok (.iload_n 1, 1) := by decide +kernel
theorem dX3_reckoned_1 : decode cX3_reckoned 1 = .ok (.tableswitch 60 3 5 #[27, 38, 53], 27) := by decide +kernel
theorem dX3_reckoned_28 : decode cX3_reckoned 28 = .ok (.aload_n 0, 1) := by decide +kernel
theorem dX3_reckoned_29 : decode cX3_reckoned 29 = .ok (.iload_n 2, 1) := by decide +kernel
theorem dX3_reckoned_30 : decode cX3_reckoned 30 = .ok (.iload_n 3, 1) := by decide +kernel
theorem dX3_reckoned_31 : decode cX3_reckoned 31 = .ok (.isub, 1) := by decide +kernel
theorem dX3_reckoned_32 : decode cX3_reckoned 32 = .ok (.iconst 1, 1) := by decide +kernel
theorem dX3_reckoned_33 : decode cX3_reckoned 33 = .ok (.iadd, 1) := by decide +kernel
theorem dX3_reckoned_34 : decode cX3_reckoned 34 = .ok (.iload_n 2, 1) := by decide +kernel
theorem dX3_reckoned_35 : decode cX3_reckoned 35 = .ok (.invokevirtual 66, 3) := by decide +kernel
theorem dX3_reckoned_38 : decode cX3_reckoned 38 = .ok (.lreturn, 1) := by decide +kernel
theorem dX3_reckoned_39 : decode cX3_reckoned 39 = .ok (.aload_n 0, 1) := by decide +kernel
theorem dX3_reckoned_40 : decode cX3_reckoned 40 = .ok (.getfield 9, 3) := by decide +kernel
theorem dX3_reckoned_43 : decode cX3_reckoned 43 = .ok (.iload_n 2, 1) := by decide +kernel
theorem dX3_reckoned_44 : decode cX3_reckoned 44 = .ok (.laload, 1) := by decide +kernel
theorem dX3_reckoned_45 : decode cX3_reckoned 45 = .ok (.aload_n 0, 1) := by decide +kernel
theorem dX3_reckoned_46 : decode cX3_reckoned 46 = .ok (.iload_n 2, 1) := by decide +kernel
theorem dX3_reckoned_47 : decode cX3_reckoned 47 = .ok (.iload_n 3, 1) := by decide +kernel
theorem dX3_reckoned_48 : decode cX3_reckoned 48 = .ok (.isub, 1) := by decide +kernel
theorem dX3_reckoned_49 : decode cX3_reckoned 49 = .ok (.invokevirtual 70, 3) := by decide +kernel
theorem dX3_reckoned_52 : decode cX3_reckoned 52 = .ok (.lsub, 1) := by decide +kernel
theorem dX3_reckoned_53 : decode cX3_reckoned 53 = .ok (.lreturn, 1) := by decide +kernel
theorem dX3_reckoned_54 : decode cX3_reckoned 54 = .ok (.aload_n 0, 1) := by decide +kernel
theorem dX3_reckoned_55 : decode cX3_reckoned 55 = .ok (.getfield 9, 3) := by decide +kernel
theorem dX3_reckoned_58 : decode cX3_reckoned 58 = .ok (.iload_n 2, 1) := by decide +kernel
theorem dX3_reckoned_59 : decode cX3_reckoned 59 = .ok (.laload, 1) := by decide +kernel
theorem dX3_reckoned_60 : decode cX3_reckoned 60 = .ok (.lreturn, 1) := by decide +kernel
theorem dX3_reckoned_61 : decode cX3_reckoned 61 = .ok (.iload_n 3, 1) := by decide +kernel
theorem dX3_reckoned_62 : decode cX3_reckoned 62 = .ok (.i2l, 1) := by decide +kernel
theorem dX3_reckoned_63 : decode cX3_reckoned 63 = .ok (.aload_n 0, 1) := by decide +kernel
theorem dX3_reckoned_64 : decode cX3_reckoned 64 = .ok (.getfield 9, 3) := by decide +kernel
theorem dX3_reckoned_67 : decode cX3_reckoned 67 = .ok (.iload_n 2, 1) := by decide +kernel
theorem dX3_reckoned_68 : decode cX3_reckoned 68 = .ok (.laload, 1) := by decide +kernel
theorem dX3_reckoned_69 : decode cX3_reckoned 69 = .ok (.lmul, 1) := by decide +kernel
theorem dX3_reckoned_70 : decode cX3_reckoned 70 = .ok (.lreturn, 1) := by decide +kernel
theorem dX3_fillFrom_0 : decode cX3_fillFrom 0 = .ok (.iconst 0, 1) := by decide +kernel
theorem dX3_fillFrom_1 : decode cX3_fillFrom 1 = .ok (.istore_n 2, 1) := by decide +kernel
theorem dX3_fillFrom_2 : decode cX3_fillFrom 2 = .ok (.lconst 0, 1) := by decide +kernel
theorem dX3_fillFrom_3 : decode cX3_fillFrom 3 = .ok (.lstore_n 3, 1) := by decide +kernel
theorem dX3_fillFrom_4 : decode cX3_fillFrom 4 = .ok (.aload_n 0, 1) := by decide +kernel
theorem dX3_fillFrom_5 : decode cX3_fillFrom 5 = .ok (.aload_n 1, 1) := by decide +kernel
theorem dX3_fillFrom_6 : decode cX3_fillFrom 6 = .ok (.getfield 25, 3) := by decide +kernel
theorem dX3_fillFrom_9 : decode cX3_fillFrom 9 = .ok (.putfield 25, 3) := by decide +kernel
theorem dX3_fillFrom_12 : decode cX3_fillFrom 12 = .ok (.iconst 0, 1) := by decide +kernel
theorem dX3_fillFrom_13 : decode cX3_fillFrom 13 = .ok (.istore 5, 2) := by decide +kernel
theorem dX3_fillFrom_15 : decode cX3_fillFrom 15 = .ok (.iload 5, 2) := by decide +kernel
theorem dX3_fillFrom_17 : decode cX3_fillFrom 17 = .ok (.aload_n 0, 1) := by decide +kernel
theorem dX3_fillFrom_18 : decode cX3_fillFrom 18 = .ok (.getfield 25, 3) := by decide +kernel
theorem dX3_fillFrom_21 : decode cX3_fillFrom 21 = .ok (.if_icmp .ge 49, 3) := by decide +kernel
theorem dX3_fillFrom_24 : decode cX3_fillFrom 24 = .ok (.aload_n 1, 1) := by decide +kernel
theorem dX3_fillFrom_25 : decode cX3_fillFrom 25 = .ok (.getfield 15, 3) := by decide +kernel
theorem dX3_fillFrom_28 : decode cX3_fillFrom 28 = .ok (.iload 5, 2) := by decide +kernel
theorem dX3_fillFrom_30 : decode cX3_fillFrom 30 = .ok (.baload, 1) := by decide +kernel
theorem dX3_fillFrom_31 : decode cX3_fillFrom 31 = .ok (.ifCond .ne 13, 3) := by decide +kernel
theorem dX3_fillFrom_34 : decode cX3_fillFrom 34 = .ok (.iconst 1, 1) := by decide +kernel
theorem dX3_fillFrom_35 : decode cX3_fillFrom 35 = .ok (.istore_n 2, 1) := by decide +kernel
theorem dX3_fillFrom_36 : decode cX3_fillFrom 36 = .ok (.aload_n 1, 1) := by decide +kernel
theorem dX3_fillFrom_37 : decode cX3_fillFrom 37 = .ok (.getfield 9, 3) := by decide +kernel
theorem dX3_fillFrom_40 : decode cX3_fillFrom 40 = .ok (.iload 5, 2) := by decide +kernel
theorem dX3_fillFrom_42 : decode cX3_fillFrom 42 = .ok (.laload, 1) := by decide +kernel
theorem dX3_fillFrom_43 : decode cX3_fillFrom 43 = .ok (.lstore_n 3, 1) := by decide +kernel
theorem dX3_fillFrom_44 : decode cX3_fillFrom 44 = .ok (.iload_n 2, 1) := by decide +kernel
theorem dX3_fillFrom_45 : decode cX3_fillFrom 45 = .ok (.ifCond .eq 13, 3) := by decide +kernel
theorem dX3_fillFrom_48 : decode cX3_fillFrom 48 = .ok (.aload_n 0, 1) := by decide +kernel
theorem dX3_fillFrom_49 : decode cX3_fillFrom 49 = .ok (.iload 5, 2) := by decide +kernel
theorem dX3_fillFrom_51 : decode cX3_fillFrom 51 = .ok (.lload_n 3, 1) := by decide +kernel
theorem dX3_fillFrom_52 : decode cX3_fillFrom 52 = .ok (.invokevirtual 30, 3) := by decide +kernel
theorem dX3_fillFrom_55 : decode cX3_fillFrom 55 = .ok (.goto 9, 3) := by decide +kernel
theorem dX3_fillFrom_58 : decode cX3_fillFrom 58 = .ok (.aload_n 0, 1) := by decide +kernel
theorem dX3_fillFrom_59 : decode cX3_fillFrom 59 = .ok (.iload 5, 2) := by decide +kernel
theorem dX3_fillFrom_61 : decode cX3_fillFrom 61 = .ok (.invokevirtual 43, 3) := by decide +kernel
theorem dX3_fillFrom_64 : decode cX3_fillFrom 64 = .ok (.iinc 5 1, 3) := by decide +kernel
theorem dX3_fillFrom_67 : decode cX3_fillFrom 67 = .ok (.goto (-52), 3) := by decide +kernel
theorem dX3_fillFrom_70 : decode cX3_fillFrom 70 = .ok (.return_, 1) := by decide +kernel
theorem dX3_hasGap_0 : decode cX3_hasGap 0 = .ok (.iload_n 1, 1) := by decide +kernel
theorem dX3_hasGap_1 : decode cX3_hasGap 1 = .ok (.iconst 0, 1) := by decide +kernel
theorem dX3_hasGap_2 : decode cX3_hasGap 2 = .ok (.invokestatic 74, 3) := by decide +kernel
theorem dX3_hasGap_5 : decode cX3_hasGap 5 = .ok (.istore_n 3, 1) := by decide +kernel
theorem dX3_hasGap_6 : decode cX3_hasGap 6 = .ok (.iload_n 3, 1) := by decide +kernel
theorem dX3_hasGap_7 : decode cX3_hasGap 7 = .ok (.iload_n 2, 1) := by decide +kernel
theorem dX3_hasGap_8 : decode cX3_hasGap 8 = .ok (.if_icmp .gt 28, 3) := by decide +kernel
theorem dX3_hasGap_11 : decode cX3_hasGap 11 = .ok (.iload_n 3, 1) := by decide +kernel
theorem dX3_hasGap_12 : decode cX3_hasGap 12 = .ok (.aload_n 0, 1) := by decide +kernel
theorem dX3_hasGap_13 : decode cX3_hasGap 13 = .ok (.getfield 25, 3) := by decide +kernel
theorem dX3_hasGap_16 : decode cX3_hasGap 16 = .ok (.if_icmp .ge 20, 3) := by decide +kernel
theorem dX3_hasGap_19 : decode cX3_hasGap 19 = .ok (.aload_n 0, 1) := by decide +kernel
theorem dX3_hasGap_20 : decode cX3_hasGap 20 = .ok (.getfield 15, 3) := by decide +kernel
theorem dX3_hasGap_23 : decode cX3_hasGap 23 = .ok (.iload_n 3, 1) := by decide +kernel
theorem dX3_hasGap_24 : decode cX3_hasGap 24 = .ok (.baload, 1) := by decide +kernel
theorem dX3_hasGap_25 : decode cX3_hasGap 25 = .ok (.ifCond .eq 5, 3) := by decide +kernel
theorem dX3_hasGap_28 : decode cX3_hasGap 28 = .ok (.iconst 1, 1) := by decide +kernel
theorem dX3_hasGap_29 : decode cX3_hasGap 29 = .ok (.ireturn, 1) := by decide +kernel
theorem dX3_hasGap_30 : decode cX3_hasGap 30 = .ok (.iinc 3 1, 3) := by decide +kernel
theorem dX3_hasGap_33 : decode cX3_hasGap 33 = .ok (.goto (-27), 3) := by decide +kernel
theorem dX3_hasGap_36 : decode cX3_hasGap 36 = .ok (.iconst 0, 1) := by decide +kernel
theorem dX3_hasGap_37 : decode cX3_hasGap 37 = .ok (.ireturn, 1) := by decide +kernel
theorem dX3_sum_0 : decode cX3_sum 0 = .ok (.lconst 0, 1) := by decide +kernel
theorem dX3_sum_1 : decode cX3_sum 1 = .ok (.lstore_n 3, 1) := by decide +kernel
theorem dX3_sum_2 : decode cX3_sum 2 = .ok (.iload_n 1, 1) := by decide +kernel
theorem dX3_sum_3 : decode cX3_sum 3 = .ok (.iconst 0, 1) := by decide +kernel
theorem dX3_sum_4 : decode cX3_sum 4 = .ok (.invokestatic 74, 3) := by decide +kernel
theorem dX3_sum_7 : decode cX3_sum 7 = .ok (.istore 5, 2) := by decide +kernel
theorem dX3_sum_9 : decode cX3_sum 9 = .ok (.iload 5, 2) := by decide +kernel
theorem dX3_sum_11 : decode cX3_sum 11 = .ok (.iload_n 2, 1) := by decide +kernel
theorem dX3_sum_12 : decode cX3_sum 12 = .ok (.if_icmp .gt 28, 3) := by decide +kernel
theorem dX3_sum_15 : decode cX3_sum 15 = .ok (.iload 5, 2) := by decide +kernel
theorem dX3_sum_17 : decode cX3_sum 17 = .ok (.aload_n 0, 1) := by decide +kernel
theorem dX3_sum_18 : decode cX3_sum 18 = .ok (.getfield 25, 3) := by decide +kernel
theorem dX3_sum_21 : decode cX3_sum 21 = .ok (.if_icmp .ge 19, 3) := by decide +kernel
theorem dX3_sum_24 : decode cX3_sum 24 = .ok (.lload_n 3, 1) := by decide +kernel
theorem dX3_sum_25 : decode cX3_sum 25 = .ok (.aload_n 0, 1) := by decide +kernel
theorem dX3_sum_26 : decode cX3_sum 26 = .ok (.getfield 9, 3) := by decide +kernel
theorem dX3_sum_29 : decode cX3_sum 29 = .ok (.iload 5, 2) := by decide +kernel
theorem dX3_sum_31 : decode cX3_sum 31 = .ok (.laload, 1) := by decide +kernel
theorem dX3_sum_32 : decode cX3_sum 32 = .ok (.ladd, 1) := by decide +kernel
theorem dX3_sum_33 : decode cX3_sum 33 = .ok (.lstore_n 3, 1) := by decide +kernel
theorem dX3_sum_34 : decode cX3_sum 34 = .ok (.iinc 5 1, 3) := by decide +kernel
theorem dX3_sum_37 : decode cX3_sum 37 = .ok (.goto (-28), 3) := by decide +kernel
theorem dX3_sum_40 : decode cX3_sum 40 = .ok (.lload_n 3, 1) := by decide +kernel
theorem dX3_sum_41 : decode cX3_sum 41 = .ok (.lreturn, 1) := by decide +kernel
theorem dX3_countGaps_0 : decode cX3_countGaps 0 = .ok (.iconst 0, 1) := by decide +kernel
theorem dX3_countGaps_1 : decode cX3_countGaps 1 = .ok (.istore_n 1, 1) := by decide +kernel
theorem dX3_countGaps_2 : decode cX3_countGaps 2 = .ok (.iconst 0, 1) := by decide +kernel
theorem dX3_countGaps_3 : decode cX3_countGaps 3 = .ok (.istore_n 2, 1) := by decide +kernel
theorem dX3_countGaps_4 : decode cX3_countGaps 4 = .ok (.iload_n 2, 1) := by decide +kernel
theorem dX3_countGaps_5 : decode cX3_countGaps 5 = .ok (.aload_n 0, 1) := by decide +kernel
theorem dX3_countGaps_6 : decode cX3_countGaps 6 = .ok (.getfield 25, 3) := by decide +kernel
theorem dX3_countGaps_9 : decode cX3_countGaps 9 = .ok (.if_icmp .ge 21, 3) := by decide +kernel
theorem dX3_countGaps_12 : decode cX3_countGaps 12 = .ok (.aload_n 0, 1) := by decide +kernel
theorem dX3_countGaps_13 : decode cX3_countGaps 13 = .ok (.getfield 15, 3) := by decide +kernel
theorem dX3_countGaps_16 : decode cX3_countGaps 16 = .ok (.iload_n 2, 1) := by decide +kernel
theorem dX3_countGaps_17 : decode cX3_countGaps 17 = .ok (.baload, 1) := by decide +kernel
theorem dX3_countGaps_18 : decode cX3_countGaps 18 = .ok (.ifCond .eq 6, 3) := by decide +kernel
theorem dX3_countGaps_21 : decode cX3_countGaps 21 = .ok (.iinc 1 1, 3) := by decide +kernel
theorem dX3_countGaps_24 : decode cX3_countGaps 24 = .ok (.iinc 2 1, 3) := by decide +kernel
theorem dX3_countGaps_27 : decode cX3_countGaps 27 = .ok (.goto (-23), 3) := by decide +kernel
theorem dX3_countGaps_30 : decode cX3_countGaps 30 = .ok (.iload_n 1, 1) := by decide +kernel
theorem dX3_countGaps_31 : decode cX3_countGaps 31 = .ok (.ireturn, 1) := by decide +kernel
theorem dX3_placeOfLeast_0 : decode cX3_placeOfLeast 0 = .ok (.bipush (-4), 2) := by decide +kernel
theorem dX3_placeOfLeast_2 : decode cX3_placeOfLeast 2 = .ok (.istore_n 1, 1) := by decide +kernel
theorem dX3_placeOfLeast_3 : decode cX3_placeOfLeast 3 = .ok (.iconst 0, 1) := by decide +kernel
theorem dX3_placeOfLeast_4 : decode cX3_placeOfLeast 4 = .ok (.istore_n 2, 1) := by decide +kernel
theorem dX3_placeOfLeast_5 : decode cX3_placeOfLeast 5 = .ok (.iload_n 2, 1) := by decide +kernel
theorem dX3_placeOfLeast_6 : decode cX3_placeOfLeast 6 = .ok (.aload_n 0, 1) := by decide +kernel
theorem dX3_placeOfLeast_7 : decode cX3_placeOfLeast 7 = .ok (.getfield 25, 3) := by decide +kernel
theorem dX3_placeOfLeast_10 : decode cX3_placeOfLeast 10 = .ok (.if_icmp .ge 40, 3) := by decide +kernel
theorem dX3_placeOfLeast_13 : decode cX3_placeOfLeast 13 = .ok (.aload_n 0, 1) := by decide +kernel
theorem dX3_placeOfLeast_14 : decode cX3_placeOfLeast 14 = .ok (.getfield 15, 3) := by decide +kernel
theorem dX3_placeOfLeast_17 : decode cX3_placeOfLeast 17 = .ok (.iload_n 2, 1) := by decide +kernel
theorem dX3_placeOfLeast_18 : decode cX3_placeOfLeast 18 = .ok (.baload, 1) := by decide +kernel
theorem dX3_placeOfLeast_19 : decode cX3_placeOfLeast 19 = .ok (.ifCond .ne 25, 3) := by decide +kernel
theorem dX3_placeOfLeast_22 : decode cX3_placeOfLeast 22 = .ok (.iload_n 1, 1) := by decide +kernel
theorem dX3_placeOfLeast_23 : decode cX3_placeOfLeast 23 = .ok (.ifCond .lt 19, 3) := by decide +kernel
theorem dX3_placeOfLeast_26 : decode cX3_placeOfLeast 26 = .ok (.aload_n 0, 1) := by decide +kernel
theorem dX3_placeOfLeast_27 : decode cX3_placeOfLeast 27 = .ok (.getfield 9, 3) := by decide +kernel
theorem dX3_placeOfLeast_30 : decode cX3_placeOfLeast 30 = .ok (.iload_n 2, 1) := by decide +kernel
theorem dX3_placeOfLeast_31 : decode cX3_placeOfLeast 31 = .ok (.laload, 1) := by decide +kernel
theorem dX3_placeOfLeast_32 : decode cX3_placeOfLeast 32 = .ok (.aload_n 0, 1) := by decide +kernel
theorem dX3_placeOfLeast_33 : decode cX3_placeOfLeast 33 = .ok (.getfield 9, 3) := by decide +kernel
theorem dX3_placeOfLeast_36 : decode cX3_placeOfLeast 36 = .ok (.iload_n 1, 1) := by decide +kernel
theorem dX3_placeOfLeast_37 : decode cX3_placeOfLeast 37 = .ok (.laload, 1) := by decide +kernel
theorem dX3_placeOfLeast_38 : decode cX3_placeOfLeast 38 = .ok (.lcmp, 1) := by decide +kernel
theorem dX3_placeOfLeast_39 : decode cX3_placeOfLeast 39 = .ok (.ifCond .ge 5, 3) := by decide +kernel
theorem dX3_placeOfLeast_42 : decode cX3_placeOfLeast 42 = .ok (.iload_n 2, 1) := by decide +kernel
theorem dX3_placeOfLeast_43 : decode cX3_placeOfLeast 43 = .ok (.istore_n 1, 1) := by decide +kernel
theorem dX3_placeOfLeast_44 : decode cX3_placeOfLeast 44 = .ok (.iinc 2 1, 3) := by decide +kernel
theorem dX3_placeOfLeast_47 : decode cX3_placeOfLeast 47 = .ok (.goto (-42), 3) := by decide +kernel
theorem dX3_placeOfLeast_50 : decode cX3_placeOfLeast 50 = .ok (.iload_n 1, 1) := by decide +kernel
theorem dX3_placeOfLeast_51 : decode cX3_placeOfLeast 51 = .ok (.ireturn, 1) := by decide +kernel
theorem dX3_placeOfGreatest_0 : decode cX3_placeOfGreatest 0 = .ok (.bipush (-4), 2) := by decide +kernel
theorem dX3_placeOfGreatest_2 : decode cX3_placeOfGreatest 2 = .ok (.istore_n 1, 1) := by decide +kernel
theorem dX3_placeOfGreatest_3 : decode cX3_placeOfGreatest 3 = .ok (.iconst 0, 1) := by decide +kernel
theorem dX3_placeOfGreatest_4 : decode cX3_placeOfGreatest 4 = .ok (.istore_n 2, 1) := by decide +kernel
theorem dX3_placeOfGreatest_5 : decode cX3_placeOfGreatest 5 = .ok (.iload_n 2, 1) := by decide +kernel
theorem dX3_placeOfGreatest_6 : decode cX3_placeOfGreatest 6 = .ok (.aload_n 0, 1) := by decide +kernel
theorem dX3_placeOfGreatest_7 : decode cX3_placeOfGreatest 7 = .ok (.getfield 25, 3) := by decide +kernel
theorem dX3_placeOfGreatest_10 : decode cX3_placeOfGreatest 10 = .ok (.if_icmp .ge 40, 3) := by decide +kernel
theorem dX3_placeOfGreatest_13 : decode cX3_placeOfGreatest 13 = .ok (.aload_n 0, 1) := by decide +kernel
theorem dX3_placeOfGreatest_14 : decode cX3_placeOfGreatest 14 = .ok (.getfield 15, 3) := by decide +kernel
theorem dX3_placeOfGreatest_17 : decode cX3_placeOfGreatest 17 = .ok (.iload_n 2, 1) := by decide +kernel
theorem dX3_placeOfGreatest_18 : decode cX3_placeOfGreatest 18 = .ok (.baload, 1) := by decide +kernel
theorem dX3_placeOfGreatest_19 : decode cX3_placeOfGreatest 19 = .ok (.ifCond .ne 25, 3) := by decide +kernel
theorem dX3_placeOfGreatest_22 : decode cX3_placeOfGreatest 22 = .ok (.iload_n 1, 1) := by decide +kernel
theorem dX3_placeOfGreatest_23 : decode cX3_placeOfGreatest 23 = .ok (.ifCond .lt 19, 3) := by decide +kernel
theorem dX3_placeOfGreatest_26 : decode cX3_placeOfGreatest 26 = .ok (.aload_n 0, 1) := by decide +kernel
theorem dX3_placeOfGreatest_27 : decode cX3_placeOfGreatest 27 = .ok (.getfield 9, 3) := by decide +kernel
theorem dX3_placeOfGreatest_30 : decode cX3_placeOfGreatest 30 = .ok (.iload_n 2, 1) := by decide +kernel
theorem dX3_placeOfGreatest_31 : decode cX3_placeOfGreatest 31 = .ok (.laload, 1) := by decide +kernel
theorem dX3_placeOfGreatest_32 : decode cX3_placeOfGreatest 32 = .ok (.aload_n 0, 1) := by decide +kernel
theorem dX3_placeOfGreatest_33 : decode cX3_placeOfGreatest 33 = .ok (.getfield 9, 3) := by decide +kernel
theorem dX3_placeOfGreatest_36 : decode cX3_placeOfGreatest 36 = .ok (.iload_n 1, 1) := by decide +kernel
theorem dX3_placeOfGreatest_37 : decode cX3_placeOfGreatest 37 = .ok (.laload, 1) := by decide +kernel
theorem dX3_placeOfGreatest_38 : decode cX3_placeOfGreatest 38 = .ok (.lcmp, 1) := by decide +kernel
theorem dX3_placeOfGreatest_39 : decode cX3_placeOfGreatest 39 = .ok (.ifCond .le 5, 3) := by decide +kernel
theorem dX3_placeOfGreatest_42 : decode cX3_placeOfGreatest 42 = .ok (.iload_n 2, 1) := by decide +kernel
theorem dX3_placeOfGreatest_43 : decode cX3_placeOfGreatest 43 = .ok (.istore_n 1, 1) := by decide +kernel
theorem dX3_placeOfGreatest_44 : decode cX3_placeOfGreatest 44 = .ok (.iinc 2 1, 3) := by decide +kernel
theorem dX3_placeOfGreatest_47 : decode cX3_placeOfGreatest 47 = .ok (.goto (-42), 3) := by decide +kernel
theorem dX3_placeOfGreatest_50 : decode cX3_placeOfGreatest 50 = .ok (.iload_n 1, 1) := by decide +kernel
theorem dX3_placeOfGreatest_51 : decode cX3_placeOfGreatest 51 = .ok (.ireturn, 1) := by decide +kernel
theorem dX3_firstGap_0 : decode cX3_firstGap 0 = .ok (.iconst 0, 1) := by decide +kernel
theorem dX3_firstGap_1 : decode cX3_firstGap 1 = .ok (.istore_n 1, 1) := by decide +kernel
theorem dX3_firstGap_2 : decode cX3_firstGap 2 = .ok (.iload_n 1, 1) := by decide +kernel
theorem dX3_firstGap_3 : decode cX3_firstGap 3 = .ok (.aload_n 0, 1) := by decide +kernel
theorem dX3_firstGap_4 : decode cX3_firstGap 4 = .ok (.getfield 25, 3) := by decide +kernel
theorem dX3_firstGap_7 : decode cX3_firstGap 7 = .ok (.if_icmp .ge 20, 3) := by decide +kernel
theorem dX3_firstGap_10 : decode cX3_firstGap 10 = .ok (.aload_n 0, 1) := by decide +kernel
theorem dX3_firstGap_11 : decode cX3_firstGap 11 = .ok (.getfield 15, 3) := by decide +kernel
theorem dX3_firstGap_14 : decode cX3_firstGap 14 = .ok (.iload_n 1, 1) := by decide +kernel
theorem dX3_firstGap_15 : decode cX3_firstGap 15 = .ok (.baload, 1) := by decide +kernel
theorem dX3_firstGap_16 : decode cX3_firstGap 16 = .ok (.ifCond .eq 5, 3) := by decide +kernel
theorem dX3_firstGap_19 : decode cX3_firstGap 19 = .ok (.iload_n 1, 1) := by decide +kernel
theorem dX3_firstGap_20 : decode cX3_firstGap 20 = .ok (.ireturn, 1) := by decide +kernel
theorem dX3_firstGap_21 : decode cX3_firstGap 21 = .ok (.iinc 1 1, 3) := by decide +kernel
theorem dX3_firstGap_24 : decode cX3_firstGap 24 = .ok (.goto (-22), 3) := by decide +kernel
theorem dX3_firstGap_27 : decode cX3_firstGap 27 = .ok (.bipush (-4), 2) := by decide +kernel
theorem dX3_firstGap_29 : decode cX3_firstGap 29 = .ok (.ireturn, 1) := by decide +kernel
theorem dX3_comesTo_0 : decode cX3_comesTo 0 = .ok (.iload_n 3, 1) := by decide +kernel
theorem dX3_comesTo_1 : decode cX3_comesTo 1 = .ok (.ifCond .le 51, 3) := by decide +kernel
theorem dX3_comesTo_4 : decode cX3_comesTo 4 = .ok (.aload_n 0, 1) := by decide +kernel
theorem dX3_comesTo_5 : decode cX3_comesTo 5 = .ok (.getfield 15, 3) := by decide +kernel
theorem dX3_comesTo_8 : decode cX3_comesTo 8 = .ok (.iload_n 3, 1) := by decide +kernel
theorem dX3_comesTo_9 : decode cX3_comesTo 9 = .ok (.iconst 1, 1) := by decide +kernel
theorem dX3_comesTo_10 : decode cX3_comesTo 10 = .ok (.isub, 1) := by decide +kernel
theorem dX3_comesTo_11 : decode cX3_comesTo 11 = .ok (.baload, 1) := by decide +kernel
theorem dX3_comesTo_12 : decode cX3_comesTo 12 = .ok (.ifCond .ne 40, 3) := by decide +kernel
theorem dX3_comesTo_15 : decode cX3_comesTo 15 = .ok (.aload_n 0, 1) := by decide +kernel
theorem dX3_comesTo_16 : decode cX3_comesTo 16 = .ok (.getfield 15, 3) := by decide +kernel
theorem dX3_comesTo_19 : decode cX3_comesTo 19 = .ok (.iload_n 3, 1) := by decide +kernel
theorem dX3_comesTo_20 : decode cX3_comesTo 20 = .ok (.baload, 1) := by decide +kernel
theorem dX3_comesTo_21 : decode cX3_comesTo 21 = .ok (.ifCond .ne 31, 3) := by decide +kernel
theorem dX3_comesTo_24 : decode cX3_comesTo 24 = .ok (.aload_n 0, 1) := by decide +kernel
theorem dX3_comesTo_25 : decode cX3_comesTo 25 = .ok (.getfield 9, 3) := by decide +kernel
theorem dX3_comesTo_28 : decode cX3_comesTo 28 = .ok (.iload_n 3, 1) := by decide +kernel
theorem dX3_comesTo_29 : decode cX3_comesTo 29 = .ok (.iconst 1, 1) := by decide +kernel
theorem dX3_comesTo_30 : decode cX3_comesTo 30 = .ok (.isub, 1) := by decide +kernel
theorem dX3_comesTo_31 : decode cX3_comesTo 31 = .ok (.laload, 1) := by decide +kernel
theorem dX3_comesTo_32 : decode cX3_comesTo 32 = .ok (.lload_n 1, 1) := by decide +kernel
theorem dX3_comesTo_33 : decode cX3_comesTo 33 = .ok (.lcmp, 1) := by decide +kernel
theorem dX3_comesTo_34 : decode cX3_comesTo 34 = .ok (.ifCond .ge 18, 3) := by decide +kernel
theorem dX3_comesTo_37 : decode cX3_comesTo 37 = .ok (.aload_n 0, 1) := by decide +kernel
theorem dX3_comesTo_38 : decode cX3_comesTo 38 = .ok (.getfield 9, 3) := by decide +kernel
theorem dX3_comesTo_41 : decode cX3_comesTo 41 = .ok (.iload_n 3, 1) := by decide +kernel
theorem dX3_comesTo_42 : decode cX3_comesTo 42 = .ok (.laload, 1) := by decide +kernel
theorem dX3_comesTo_43 : decode cX3_comesTo 43 = .ok (.lload_n 1, 1) := by decide +kernel
theorem dX3_comesTo_44 : decode cX3_comesTo 44 = .ok (.lcmp, 1) := by decide +kernel
theorem dX3_comesTo_45 : decode cX3_comesTo 45 = .ok (.ifCond .lt 7, 3) := by decide +kernel
theorem dX3_comesTo_48 : decode cX3_comesTo 48 = .ok (.iconst 1, 1) := by decide +kernel
theorem dX3_comesTo_49 : decode cX3_comesTo 49 = .ok (.goto 4, 3) := by decide +kernel
theorem dX3_comesTo_52 : decode cX3_comesTo 52 = .ok (.iconst 0, 1) := by decide +kernel
theorem dX3_comesTo_53 : decode cX3_comesTo 53 = .ok (.ireturn, 1) := by decide +kernel
theorem dX3_measureTurns_0 : decode cX3_measureTurns 0 = .ok (.iconst 0, 1) := by decide +kernel
theorem dX3_measureTurns_1 : decode cX3_measureTurns 1 = .ok (.istore 4, 2) := by decide +kernel
theorem dX3_measureTurns_3 : decode cX3_measureTurns 3 = .ok (.iconst 0, 1) := by decide +kernel
theorem dX3_measureTurns_4 : decode cX3_measureTurns 4 = .ok (.istore 5, 2) := by decide +kernel
theorem dX3_measureTurns_6 : decode cX3_measureTurns 6 = .ok (.iconst 0, 1) := by decide +kernel
theorem dX3_measureTurns_7 : decode cX3_measureTurns 7 = .ok (.istore 6, 2) := by decide +kernel
theorem dX3_measureTurns_9 : decode cX3_measureTurns 9 = .ok (.iconst 0, 1) := by decide +kernel
theorem dX3_measureTurns_10 : decode cX3_measureTurns 10 = .ok (.istore 7, 2) := by decide +kernel
theorem dX3_measureTurns_12 : decode cX3_measureTurns 12 = .ok (.iconst 0, 1) := by decide +kernel
theorem dX3_measureTurns_13 : decode cX3_measureTurns 13 = .ok (.istore 8, 2) := by decide +kernel
theorem dX3_measureTurns_15 : decode cX3_measureTurns 15 = .ok (.bipush (-4), 2) := by decide +kernel
theorem dX3_measureTurns_17 : decode cX3_measureTurns 17 = .ok (.istore 9, 2) := by decide +kernel
theorem dX3_measureTurns_19 : decode cX3_measureTurns 19 = .ok (.iconst 0, 1) := by decide +kernel
theorem dX3_measureTurns_20 : decode cX3_measureTurns 20 = .ok (.istore 10, 2) := by decide +kernel
theorem dX3_measureTurns_22 : decode cX3_measureTurns 22 = .ok (.iconst 0, 1) := by decide +kernel
theorem dX3_measureTurns_23 : decode cX3_measureTurns 23 = .ok (.istore 11, 2) := by decide +kernel
theorem dX3_measureTurns_25 : decode cX3_measureTurns 25 = .ok (.iload 11, 2) := by decide +kernel
theorem dX3_measureTurns_27 : decode cX3_measureTurns 27 = .ok (.aload_n 0, 1) := by decide +kernel
theorem dX3_measureTurns_28 : decode cX3_measureTurns 28 = .ok (.getfield 25, 3) := by decide +kernel
theorem dX3_measureTurns_31 : decode cX3_measureTurns 31 = .ok (.if_icmp .ge 127, 3) := by decide +kernel
theorem dX3_measureTurns_34 : decode cX3_measureTurns 34 = .ok (.aload_n 0, 1) := by decide +kernel
theorem dX3_measureTurns_35 : decode cX3_measureTurns 35 = .ok (.getfield 15, 3) := by decide +kernel
theorem dX3_measureTurns_38 : decode cX3_measureTurns 38 = .ok (.iload 11, 2) := by decide +kernel
theorem dX3_measureTurns_40 : decode cX3_measureTurns 40 = .ok (.baload, 1) := by decide +kernel
theorem dX3_measureTurns_41 : decode cX3_measureTurns 41 = .ok (.ifCond .eq 10, 3) := by decide +kernel
theorem dX3_measureTurns_44 : decode cX3_measureTurns 44 = .ok (.bipush (-4), 2) := by decide +kernel
theorem dX3_measureTurns_46 : decode cX3_measureTurns 46 = .ok (.istore 9, 2) := by decide +kernel
theorem dX3_measureTurns_48 : decode cX3_measureTurns 48 = .ok (.goto 79, 3) := by decide +kernel
theorem dX3_measureTurns_51 : decode cX3_measureTurns 51 = .ok (.aload_n 0, 1) := by decide +kernel
theorem dX3_measureTurns_52 : decode cX3_measureTurns 52 = .ok (.lload_n 1, 1) := by decide +kernel
theorem dX3_measureTurns_53 : decode cX3_measureTurns 53 = .ok (.iload 11, 2) := by decide +kernel
theorem dX3_measureTurns_55 : decode cX3_measureTurns 55 = .ok (.invokevirtual 77, 3) := by decide +kernel
theorem dX3_measureTurns_58 : decode cX3_measureTurns 58 = .ok (.ifCond .eq 69, 3) := by decide +kernel
theorem dX3_measureTurns_61 : decode cX3_measureTurns 61 = .ok (.iload 9, 2) := by decide +kernel
theorem dX3_measureTurns_63 : decode cX3_measureTurns 63 = .ok (.bipush (-4), 2) := by decide +kernel
theorem dX3_measureTurns_65 : decode cX3_measureTurns 65 = .ok (.if_icmp .eq 55, 3) := by decide +kernel
theorem dX3_measureTurns_68 : decode cX3_measureTurns 68 = .ok (.iload 11, 2) := by decide +kernel
theorem dX3_measureTurns_70 : decode cX3_measureTurns 70 = .ok (.iload 9, 2) := by decide +kernel
theorem dX3_measureTurns_72 : decode cX3_measureTurns 72 = .ok (.isub, 1) := by decide +kernel
theorem dX3_measureTurns_73 : decode cX3_measureTurns 73 = .ok (.istore 12, 2) := by decide +kernel
theorem dX3_measureTurns_75 : decode cX3_measureTurns 75 = .ok (.iload 4, 2) := by decide +kernel
theorem dX3_measureTurns_77 : decode cX3_measureTurns 77 = .ok (.ifCond .ne 8, 3) := by decide +kernel
theorem dX3_measureTurns_80 : decode cX3_measureTurns 80 = .ok (.iload 12, 2) := by decide +kernel
theorem dX3_measureTurns_82 : decode cX3_measureTurns 82 = .ok (.goto 10, 3) := by decide +kernel
theorem dX3_measureTurns_85 : decode cX3_measureTurns 85 = .ok (.iload 5, 2) := by decide +kernel
theorem dX3_measureTurns_87 : decode cX3_measureTurns 87 = .ok (.iload 12, 2) := by decide +kernel
theorem dX3_measureTurns_89 : decode cX3_measureTurns 89 = .ok (.invokestatic 38, 3) := by decide +kernel
theorem dX3_measureTurns_92 : decode cX3_measureTurns 92 = .ok (.istore 5, 2) := by decide +kernel
theorem dX3_measureTurns_94 : decode cX3_measureTurns 94 = .ok (.iload 6, 2) := by decide +kernel
theorem dX3_measureTurns_96 : decode cX3_measureTurns 96 = .ok (.iload 12, 2) := by decide +kernel
theorem dX3_measureTurns_98 : decode cX3_measureTurns 98 = .ok (.invokestatic 74, 3) := by decide +kernel
theorem dX3_measureTurns_101 : decode cX3_measureTurns 101 = .ok (.istore 6, 2) := by decide +kernel
theorem dX3_measureTurns_103 : decode cX3_measureTurns 103 = .ok (.iload 7, 2) := by decide +kernel
theorem dX3_measureTurns_105 : decode cX3_measureTurns 105 = .ok (.iload 12, 2) := by decide +kernel
theorem dX3_measureTurns_107 : decode cX3_measureTurns 107 = .ok (.iadd, 1) := by decide +kernel
theorem dX3_measureTurns_108 : decode cX3_measureTurns 108 = .ok (.istore 7, 2) := by decide +kernel
theorem dX3_measureTurns_110 : decode cX3_measureTurns 110 = .ok (.iload 8, 2) := by decide +kernel
theorem dX3_measureTurns_112 : decode cX3_measureTurns 112 = .ok (.iload 10, 2) := by decide +kernel
theorem dX3_measureTurns_114 : decode cX3_measureTurns 114 = .ok (.iadd, 1) := by decide +kernel
theorem dX3_measureTurns_115 : decode cX3_measureTurns 115 = .ok (.istore 8, 2) := by decide +kernel
theorem dX3_measureTurns_117 : decode cX3_measureTurns 117 = .ok (.iinc 4 1, 3) := by decide +kernel
theorem dX3_measureTurns_120 : decode cX3_measureTurns 120 = .ok (.iload 11, 2) := by decide +kernel
theorem dX3_measureTurns_122 : decode cX3_measureTurns 122 = .ok (.istore 9, 2) := by decide +kernel
theorem dX3_measureTurns_124 : decode cX3_measureTurns 124 = .ok (.iconst 0, 1) := by decide +kernel
theorem dX3_measureTurns_125 : decode cX3_measureTurns 125 = .ok (.istore 10, 2) := by decide +kernel
theorem dX3_measureTurns_127 : decode cX3_measureTurns 127 = .ok (.aload_n 0, 1) := by decide +kernel
theorem dX3_measureTurns_128 : decode cX3_measureTurns 128 = .ok (.getfield 15, 3) := by decide +kernel
theorem dX3_measureTurns_131 : decode cX3_measureTurns 131 = .ok (.iload 11, 2) := by decide +kernel
theorem dX3_measureTurns_133 : decode cX3_measureTurns 133 = .ok (.baload, 1) := by decide +kernel
theorem dX3_measureTurns_134 : decode cX3_measureTurns 134 = .ok (.ifCond .ne 18, 3) := by decide +kernel
theorem dX3_measureTurns_137 : decode cX3_measureTurns 137 = .ok (.aload_n 0, 1) := by decide +kernel
theorem dX3_measureTurns_138 : decode cX3_measureTurns 138 = .ok (.getfield 9, 3) := by decide +kernel
theorem dX3_measureTurns_141 : decode cX3_measureTurns 141 = .ok (.iload 11, 2) := by decide +kernel
theorem dX3_measureTurns_143 : decode cX3_measureTurns 143 = .ok (.laload, 1) := by decide +kernel
theorem dX3_measureTurns_144 : decode cX3_measureTurns 144 = .ok (.lload_n 1, 1) := by decide +kernel
theorem dX3_measureTurns_145 : decode cX3_measureTurns 145 = .ok (.lcmp, 1) := by decide +kernel
theorem dX3_measureTurns_146 : decode cX3_measureTurns 146 = .ok (.ifCond .lt 6, 3) := by decide +kernel
theorem dX3_measureTurns_149 : decode cX3_measureTurns 149 = .ok (.iinc 10 1, 3) := by decide +kernel
theorem dX3_measureTurns_152 : decode cX3_measureTurns 152 = .ok (.iinc 11 1, 3) := by decide +kernel
theorem dX3_measureTurns_155 : decode cX3_measureTurns 155 = .ok (.goto (-130), 3) := by decide +kernel
theorem dX3_measureTurns_158 : decode cX3_measureTurns 158 = .ok (.iload_n 3, 1) := by decide +kernel
theorem dX3_measureTurns_159 : decode cX3_measureTurns 159 = .ok (.tableswitch 41 0 3 #[29, 32, 35, 38], 29) := by decide +kernel
theorem dX3_measureTurns_188 : decode cX3_measureTurns 188 = .ok (.iload 4, 2) := by decide +kernel
theorem dX3_measureTurns_190 : decode cX3_measureTurns 190 = .ok (.ireturn, 1) := by decide +kernel
theorem dX3_measureTurns_191 : decode cX3_measureTurns 191 = .ok (.iload 5, 2) := by decide +kernel
theorem dX3_measureTurns_193 : decode cX3_measureTurns 193 = .ok (.ireturn, 1) := by decide +kernel
theorem dX3_measureTurns_194 : decode cX3_measureTurns 194 = .ok (.iload 6, 2) := by decide +kernel
theorem dX3_measureTurns_196 : decode cX3_measureTurns 196 = .ok (.ireturn, 1) := by decide +kernel
theorem dX3_measureTurns_197 : decode cX3_measureTurns 197 = .ok (.iload 7, 2) := by decide +kernel
theorem dX3_measureTurns_199 : decode cX3_measureTurns 199 = .ok (.ireturn, 1) := by decide +kernel
theorem dX3_measureTurns_200 : decode cX3_measureTurns 200 = .ok (.iload 8, 2) := by decide +kernel
theorem dX3_measureTurns_202 : decode cX3_measureTurns 202 = .ok (.ireturn, 1) := by decide +kernel
theorem dX3_isInBand_0 : decode cX3_isInBand 0 = .ok (.iload_n 1, 1) := by decide +kernel
theorem dX3_isInBand_1 : decode cX3_isInBand 1 = .ok (.iconst 0, 1) := by decide +kernel
theorem dX3_isInBand_2 : decode cX3_isInBand 2 = .ok (.aload_n 0, 1) := by decide +kernel
theorem dX3_isInBand_3 : decode cX3_isInBand 3 = .ok (.getfield 25, 3) := by decide +kernel
theorem dX3_isInBand_6 : decode cX3_isInBand 6 = .ok (.iconst 1, 1) := by decide +kernel
theorem dX3_isInBand_7 : decode cX3_isInBand 7 = .ok (.isub, 1) := by decide +kernel
theorem dX3_isInBand_8 : decode cX3_isInBand 8 = .ok (.invokestatic 34, 3) := by decide +kernel
theorem dX3_isInBand_11 : decode cX3_isInBand 11 = .ok (.ifCond .eq 18, 3) := by decide +kernel
theorem dX3_isInBand_14 : decode cX3_isInBand 14 = .ok (.aload_n 0, 1) := by decide +kernel
theorem dX3_isInBand_15 : decode cX3_isInBand 15 = .ok (.getfield 15, 3) := by decide +kernel
theorem dX3_isInBand_18 : decode cX3_isInBand 18 = .ok (.iload_n 1, 1) := by decide +kernel
theorem dX3_isInBand_19 : decode cX3_isInBand 19 = .ok (.baload, 1) := by decide +kernel
theorem dX3_isInBand_20 : decode cX3_isInBand 20 = .ok (.ifCond .ne 9, 3) := by decide +kernel
theorem dX3_isInBand_23 : decode cX3_isInBand 23 = .ok (.iload 4, 2) := by decide +kernel
theorem dX3_isInBand_25 : decode cX3_isInBand 25 = .ok (.iconst 1, 1) := by decide +kernel
theorem dX3_isInBand_26 : decode cX3_isInBand 26 = .ok (.if_icmp .ge 5, 3) := by decide +kernel
theorem dX3_isInBand_29 : decode cX3_isInBand 29 = .ok (.iconst 0, 1) := by decide +kernel
theorem dX3_isInBand_30 : decode cX3_isInBand 30 = .ok (.ireturn, 1) := by decide +kernel
theorem dX3_isInBand_31 : decode cX3_isInBand 31 = .ok (.aload_n 0, 1) := by decide +kernel
theorem dX3_isInBand_32 : decode cX3_isInBand 32 = .ok (.getfield 9, 3) := by decide +kernel
theorem dX3_isInBand_35 : decode cX3_isInBand 35 = .ok (.iload_n 1, 1) := by decide +kernel
theorem dX3_isInBand_36 : decode cX3_isInBand 36 = .ok (.laload, 1) := by decide +kernel
theorem dX3_isInBand_37 : decode cX3_isInBand 37 = .ok (.lload_n 2, 1) := by decide +kernel
theorem dX3_isInBand_38 : decode cX3_isInBand 38 = .ok (.lsub, 1) := by decide +kernel
theorem dX3_isInBand_39 : decode cX3_isInBand 39 = .ok (.iload 4, 2) := by decide +kernel
theorem dX3_isInBand_41 : decode cX3_isInBand 41 = .ok (.i2l, 1) := by decide +kernel
theorem dX3_isInBand_42 : decode cX3_isInBand 42 = .ok (.invokestatic 81, 3) := by decide +kernel
theorem dX3_isInBand_45 : decode cX3_isInBand 45 = .ok (.iload 5, 2) := by decide +kernel
theorem dX3_isInBand_47 : decode cX3_isInBand 47 = .ok (.i2l, 1) := by decide +kernel
theorem dX3_isInBand_48 : decode cX3_isInBand 48 = .ok (.lcmp, 1) := by decide +kernel
theorem dX3_isInBand_49 : decode cX3_isInBand 49 = .ok (.ifCond .ne 7, 3) := by decide +kernel
theorem dX3_isInBand_52 : decode cX3_isInBand 52 = .ok (.iconst 1, 1) := by decide +kernel
theorem dX3_isInBand_53 : decode cX3_isInBand 53 = .ok (.goto 4, 3) := by decide +kernel
theorem dX3_isInBand_56 : decode cX3_isInBand 56 = .ok (.iconst 0, 1) := by decide +kernel
theorem dX3_isInBand_57 : decode cX3_isInBand 57 = .ok (.ireturn, 1) := by decide +kernel
theorem dX4_init_0 : decode cX4_init 0 = .ok (.aload_n 0, 1) := by decide +kernel
theorem dX4_init_1 : decode cX4_init 1 = .ok (.invokespecial 3, 3) := by decide +kernel
theorem dX4_init_4 : decode cX4_init 4 = .ok (.aload_n 0, 1) := by decide +kernel
theorem dX4_init_5 : decode cX4_init 5 = .ok (.new 9, 3) := by decide +kernel
theorem dX4_init_8 : decode cX4_init 8 = .ok (.dup, 1) := by decide +kernel
theorem dX4_init_9 : decode cX4_init 9 = .ok (.invokespecial 11, 3) := by decide +kernel
theorem dX4_init_12 : decode cX4_init 12 = .ok (.putfield 12, 3) := by decide +kernel
theorem dX4_init_15 : decode cX4_init 15 = .ok (.aload_n 0, 1) := by decide +kernel
theorem dX4_init_16 : decode cX4_init 16 = .ok (.new 18, 3) := by decide +kernel
theorem dX4_init_19 : decode cX4_init 19 = .ok (.dup, 1) := by decide +kernel
theorem dX4_init_20 : decode cX4_init 20 = .ok (.invokespecial 20, 3) := by decide +kernel
theorem dX4_init_23 : decode cX4_init 23 = .ok (.putfield 21, 3) := by decide +kernel
theorem dX4_init_26 : decode cX4_init 26 = .ok (.aload_n 0, 1) := by decide +kernel
theorem dX4_init_27 : decode cX4_init 27 = .ok (.new 25, 3) := by decide +kernel
theorem dX4_init_30 : decode cX4_init 30 = .ok (.dup, 1) := by decide +kernel
theorem dX4_init_31 : decode cX4_init 31 = .ok (.invokespecial 27, 3) := by decide +kernel
theorem dX4_init_34 : decode cX4_init 34 = .ok (.putfield 28, 3) := by decide +kernel
theorem dX4_init_37 : decode cX4_init 37 = .ok (.aload_n 0, 1) := by decide +kernel
theorem dX4_init_38 : decode cX4_init 38 = .ok (.new 25, 3) := by decide +kernel
theorem dX4_init_41 : decode cX4_init 41 = .ok (.dup, 1) := by decide +kernel
theorem dX4_init_42 : decode cX4_init 42 = .ok (.invokespecial 27, 3) := by decide +kernel
theorem dX4_init_45 : decode cX4_init 45 = .ok (.putfield 32, 3) := by decide +kernel
theorem dX4_init_48 : decode cX4_init 48 = .ok (.aload_n 0, 1) := by decide +kernel
theorem dX4_init_49 : decode cX4_init 49 = .ok (.bipush 8, 2) := by decide +kernel
theorem dX4_init_51 : decode cX4_init 51 = .ok (.putfield 35, 3) := by decide +kernel
theorem dX4_init_54 : decode cX4_init 54 = .ok (.aload_n 0, 1) := by decide +kernel
theorem dX4_init_55 : decode cX4_init 55 = .ok (.bipush 8, 2) := by decide +kernel
theorem dX4_init_57 : decode cX4_init 57 = .ok (.putfield 39, 3) := by decide +kernel
theorem dX4_init_60 : decode cX4_init 60 = .ok (.aload_n 0, 1) := by decide +kernel
theorem dX4_init_61 : decode cX4_init 61 = .ok (.iconst 0, 1) := by decide +kernel
theorem dX4_init_62 : decode cX4_init 62 = .ok (.putfield 42, 3) := by decide +kernel
theorem dX4_init_65 : decode cX4_init 65 = .ok (.return_, 1) := by decide +kernel
theorem dX4_takeDraft_0 : decode cX4_takeDraft 0 = .ok (.aload_n 0, 1) := by decide +kernel
theorem dX4_takeDraft_1 : decode cX4_takeDraft 1 = .ok (.getfield 28, 3) := by decide +kernel
theorem dX4_takeDraft_4 : decode cX4_takeDraft 4 = .ok (.astore_n 1, 1) := by decide +kernel
theorem dX4_takeDraft_5 : decode cX4_takeDraft 5 = .ok (.aload_n 0, 1) := by decide +kernel
theorem dX4_takeDraft_6 : decode cX4_takeDraft 6 = .ok (.aload_n 0, 1) := by decide +kernel
theorem dX4_takeDraft_7 : decode cX4_takeDraft 7 = .ok (.getfield 32, 3) := by decide +kernel
theorem dX4_takeDraft_10 : decode cX4_takeDraft 10 = .ok (.putfield 28, 3) := by decide +kernel
theorem dX4_takeDraft_13 : decode cX4_takeDraft 13 = .ok (.aload_n 0, 1) := by decide +kernel
theorem dX4_takeDraft_14 : decode cX4_takeDraft 14 = .ok (.aload_n 1, 1) := by decide +kernel
theorem dX4_takeDraft_15 : decode cX4_takeDraft 15 = .ok (.putfield 32, 3) := by decide +kernel
theorem dX4_takeDraft_18 : decode cX4_takeDraft 18 = .ok (.aload_n 0, 1) := by decide +kernel
theorem dX4_takeDraft_19 : decode cX4_takeDraft 19 = .ok (.iconst 0, 1) := by decide +kernel
theorem dX4_takeDraft_20 : decode cX4_takeDraft 20 = .ok (.putfield 42, 3) := by decide +kernel
theorem dX4_takeDraft_23 : decode cX4_takeDraft 23 = .ok (.return_, 1) := by decide +kernel
theorem dX4_beginAnew_0 : decode cX4_beginAnew 0 = .ok (.aload_n 0, 1) := by decide +kernel
theorem dX4_beginAnew_1 : decode cX4_beginAnew 1 = .ok (.iconst 1, 1) := by decide +kernel
theorem dX4_beginAnew_2 : decode cX4_beginAnew 2 = .ok (.putfield 42, 3) := by decide +kernel
theorem dX4_beginAnew_5 : decode cX4_beginAnew 5 = .ok (.aload_n 0, 1) := by decide +kernel
theorem dX4_beginAnew_6 : decode cX4_beginAnew 6 = .ok (.aload_n 0, 1) := by decide +kernel
theorem dX4_beginAnew_7 : decode cX4_beginAnew 7 = .ok (.getfield 12, 3) := by decide +kernel
theorem dX4_beginAnew_10 : decode cX4_beginAnew 10 = .ok (.getfield 45, 3) := by decide +kernel
theorem dX4_beginAnew_13 : decode cX4_beginAnew 13 = .ok (.putfield 48, 3) := by decide +kernel
theorem dX4_beginAnew_16 : decode cX4_beginAnew 16 = .ok (.aload_n 0, 1) := by decide +kernel
theorem dX4_beginAnew_17 : decode cX4_beginAnew 17 = .ok (.iconst 0, 1) := by decide +kernel
theorem dX4_beginAnew_18 : decode cX4_beginAnew 18 = .ok (.putfield 51, 3) := by decide +kernel
theorem dX4_beginAnew_21 : decode cX4_beginAnew 21 = .ok (.aload_n 0, 1) := by decide +kernel
theorem dX4_beginAnew_22 : decode cX4_beginAnew 22 = .ok (.getfield 28, 3) := by decide +kernel
theorem dX4_beginAnew_25 : decode cX4_beginAnew 25 = .ok (.invokevirtual 54, 3) := by decide +kernel
theorem dX4_beginAnew_28 : decode cX4_beginAnew 28 = .ok (.aload_n 0, 1) := by decide +kernel
theorem dX4_beginAnew_29 : decode cX4_beginAnew 29 = .ok (.aload_n 0, 1) := by decide +kernel
theorem dX4_beginAnew_30 : decode cX4_beginAnew 30 = .ok (.getfield 12, 3) := by decide +kernel
theorem dX4_beginAnew_33 : decode cX4_beginAnew 33 = .ok (.getfield 45, 3) := by decide +kernel
theorem dX4_beginAnew_36 : decode cX4_beginAnew 36 = .ok (.invokevirtual 57, 3) := by decide +kernel
theorem dX4_beginAnew_39 : decode cX4_beginAnew 39 = .ok (.return_, 1) := by decide +kernel
theorem dX4_beginFirstStage_0 : decode cX4_beginFirstStage 0 = .ok (.aload_n 0, 1) := by decide +kernel
theorem dX4_beginFirstStage_1 : decode cX4_beginFirstStage 1 = .ok (.iconst 0, 1) := by decide +kernel
theorem dX4_beginFirstStage_2 : decode cX4_beginFirstStage 2 = .ok (.putfield 61, 3) := by decide +kernel
theorem dX4_beginFirstStage_5 : decode cX4_beginFirstStage 5 = .ok (.aload_n 0, 1) := by decide +kernel
theorem dX4_beginFirstStage_6 : decode cX4_beginFirstStage 6 = .ok (.iconst 0, 1) := by decide +kernel
theorem dX4_beginFirstStage_7 : decode cX4_beginFirstStage 7 = .ok (.putfield 64, 3) := by decide +kernel
theorem dX4_beginFirstStage_10 : decode cX4_beginFirstStage 10 = .ok (.aload_n 0, 1) := by decide +kernel
theorem dX4_beginFirstStage_11 : decode cX4_beginFirstStage 11 = .ok (.iload_n 1, 1) := by decide +kernel
theorem dX4_beginFirstStage_12 : decode cX4_beginFirstStage 12 = .ok (.putfield 67, 3) := by decide +kernel
theorem dX4_beginFirstStage_15 : decode cX4_beginFirstStage 15 = .ok (.return_, 1) := by decide +kernel
theorem dX4_take_0 : decode cX4_take 0 = .ok (.aload_n 0, 1) := by decide +kernel
theorem dX4_take_1 : decode cX4_take 1 = .ok (.getfield 12, 3) := by decide +kernel
theorem dX4_take_4 : decode cX4_take 4 = .ok (.getfield 45, 3) := by decide +kernel
theorem dX4_take_7 : decode cX4_take 7 = .ok (.istore_n 2, 1) := by decide +kernel
theorem dX4_take_8 : decode cX4_take 8 = .ok (.aload_n 0, 1) := by decide +kernel
theorem dX4_take_9 : decode cX4_take 9 = .ok (.getfield 12, 3) := by decide +kernel
theorem dX4_take_12 : decode cX4_take 12 = .ok (.iload_n 2, 1) := by decide +kernel
theorem dX4_take_13 : decode cX4_take 13 = .ok (.iconst 1, 1) := by decide +kernel
theorem dX4_take_14 : decode cX4_take 14 = .ok (.isub, 1) := by decide +kernel
theorem dX4_take_15 : decode cX4_take 15 = .ok (.invokevirtual 70, 3) := by decide +kernel
theorem dX4_take_18 : decode cX4_take 18 = .ok (.istore_n 3, 1) := by decide +kernel
theorem dX4_take_19 : decode cX4_take 19 = .ok (.aload_n 0, 1) := by decide +kernel
theorem dX4_take_20 : decode cX4_take 20 = .ok (.getfield 12, 3) := by decide +kernel
theorem dX4_take_23 : decode cX4_take 23 = .ok (.iload_n 1, 1) := by decide +kernel
theorem dX4_take_24 : decode cX4_take 24 = .ok (.invokevirtual 74, 3) := by decide +kernel
theorem dX4_take_27 : decode cX4_take 27 = .ok (.aload_n 0, 1) := by decide +kernel
theorem dX4_take_28 : decode cX4_take 28 = .ok (.getfield 42, 3) := by decide +kernel
theorem dX4_take_31 : decode cX4_take 31 = .ok (.iconst 1, 1) := by decide +kernel
theorem dX4_take_32 : decode cX4_take 32 = .ok (.if_icmp .ne 18, 3) := by decide +kernel
theorem dX4_take_35 : decode cX4_take 35 = .ok (.iload_n 2, 1) := by decide +kernel
theorem dX4_take_36 : decode cX4_take 36 = .ok (.aload_n 0, 1) := by decide +kernel
theorem dX4_take_37 : decode cX4_take 37 = .ok (.getfield 48, 3) := by decide +kernel
theorem dX4_take_40 : decode cX4_take 40 = .ok (.if_icmp .le 10, 3) := by decide +kernel
theorem dX4_take_43 : decode cX4_take 43 = .ok (.aload_n 0, 1) := by decide +kernel
theorem dX4_take_44 : decode cX4_take 44 = .ok (.iload_n 2, 1) := by decide +kernel
theorem dX4_take_45 : decode cX4_take 45 = .ok (.iload_n 3, 1) := by decide +kernel
theorem dX4_take_46 : decode cX4_take 46 = .ok (.iload_n 1, 1) := by decide +kernel
theorem dX4_take_47 : decode cX4_take 47 = .ok (.invokevirtual 77, 3) := by decide +kernel
theorem dX4_take_50 : decode cX4_take 50 = .ok (.aload_n 0, 1) := by decide +kernel
theorem dX4_take_51 : decode cX4_take 51 = .ok (.getfield 42, 3) := by decide +kernel
theorem dX4_take_54 : decode cX4_take 54 = .ok (.iconst 2, 1) := by decide +kernel
theorem dX4_take_55 : decode cX4_take 55 = .ok (.if_icmp .ne 21, 3) := by decide +kernel
theorem dX4_take_58 : decode cX4_take 58 = .ok (.iload_n 2, 1) := by decide +kernel
theorem dX4_take_59 : decode cX4_take 59 = .ok (.aload_n 0, 1) := by decide +kernel
theorem dX4_take_60 : decode cX4_take 60 = .ok (.getfield 81, 3) := by decide +kernel
theorem dX4_take_63 : decode cX4_take 63 = .ok (.isub, 1) := by decide +kernel
theorem dX4_take_64 : decode cX4_take 64 = .ok (.aload_n 0, 1) := by decide +kernel
theorem dX4_take_65 : decode cX4_take 65 = .ok (.getfield 39, 3) := by decide +kernel
theorem dX4_take_68 : decode cX4_take 68 = .ok (.if_icmp .lt 8, 3) := by decide +kernel
theorem dX4_take_71 : decode cX4_take 71 = .ok (.aload_n 0, 1) := by decide +kernel
theorem dX4_take_72 : decode cX4_take 72 = .ok (.iload_n 2, 1) := by decide +kernel
theorem dX4_take_73 : decode cX4_take 73 = .ok (.invokevirtual 84, 3) := by decide +kernel
theorem dX4_take_76 : decode cX4_take 76 = .ok (.return_, 1) := by decide +kernel
theorem dX4_follow_0 : decode cX4_follow 0 = .ok (.aload_n 0, 1) := by decide +kernel
theorem dX4_follow_1 : decode cX4_follow 1 = .ok (.getfield 61, 3) := by decide +kernel
theorem dX4_follow_4 : decode cX4_follow 4 = .ok (.iconst 0, 1) := by decide +kernel
theorem dX4_follow_5 : decode cX4_follow 5 = .ok (.aload_n 0, 1) := by decide +kernel
theorem dX4_follow_6 : decode cX4_follow 6 = .ok (.getfield 28, 3) := by decide +kernel
theorem dX4_follow_9 : decode cX4_follow 9 = .ok (.getfield 87, 3) := by decide +kernel
theorem dX4_follow_12 : decode cX4_follow 12 = .ok (.iconst 1, 1) := by decide +kernel
theorem dX4_follow_13 : decode cX4_follow 13 = .ok (.isub, 1) := by decide +kernel
theorem dX4_follow_14 : decode cX4_follow 14 = .ok (.invokestatic 88, 3) := by decide +kernel
theorem dX4_follow_17 : decode cX4_follow 17 = .ok (.ifCond .ne 4, 3) := by decide +kernel
theorem dX4_follow_20 : decode cX4_follow 20 = .ok (.return_, 1) := by decide +kernel
theorem dX4_follow_21 : decode cX4_follow 21 = .ok (.aload_n 0, 1) := by decide +kernel
theorem dX4_follow_22 : decode cX4_follow 22 = .ok (.getfield 28, 3) := by decide +kernel
theorem dX4_follow_25 : decode cX4_follow 25 = .ok (.getfield 92, 3) := by decide +kernel
theorem dX4_follow_28 : decode cX4_follow 28 = .ok (.aload_n 0, 1) := by decide +kernel
theorem dX4_follow_29 : decode cX4_follow 29 = .ok (.getfield 61, 3) := by decide +kernel
theorem dX4_follow_32 : decode cX4_follow 32 = .ok (.aaload, 1) := by decide +kernel
theorem dX4_follow_33 : decode cX4_follow 33 = .ok (.astore 4, 2) := by decide +kernel
theorem dX4_follow_35 : decode cX4_follow 35 = .ok (.aload 4, 2) := by decide +kernel
theorem dX4_follow_37 : decode cX4_follow 37 = .ok (.iload_n 2, 1) := by decide +kernel
theorem dX4_follow_38 : decode cX4_follow 38 = .ok (.iload_n 3, 1) := by decide +kernel
theorem dX4_follow_39 : decode cX4_follow 39 = .ok (.invokevirtual 96, 3) := by decide +kernel
theorem dX4_follow_42 : decode cX4_follow 42 = .ok (.istore 5, 2) := by decide +kernel
theorem dX4_follow_44 : decode cX4_follow 44 = .ok (.aload_n 0, 1) := by decide +kernel
theorem dX4_follow_45 : decode cX4_follow 45 = .ok (.getfield 28, 3) := by decide +kernel
theorem dX4_follow_48 : decode cX4_follow 48 = .ok (.iload_n 2, 1) := by decide +kernel
theorem dX4_follow_49 : decode cX4_follow 49 = .ok (.iload_n 3, 1) := by decide +kernel
theorem dX4_follow_50 : decode cX4_follow 50 = .ok (.invokevirtual 102, 3) := by decide +kernel
theorem dX4_follow_53 : decode cX4_follow 53 = .ok (.aload 4, 2) := by decide +kernel
theorem dX4_follow_55 : decode cX4_follow 55 = .ok (.getfield 106, 3) := by decide +kernel
theorem dX4_follow_58 : decode cX4_follow 58 = .ok (.ifCond .le 35, 3) := by decide +kernel
theorem dX4_follow_61 : decode cX4_follow 61 = .ok (.iload_n 1, 1) := by decide +kernel
theorem dX4_follow_62 : decode cX4_follow 62 = .ok (.aload_n 0, 1) := by decide +kernel
theorem dX4_follow_63 : decode cX4_follow 63 = .ok (.getfield 67, 3) := by decide +kernel
theorem dX4_follow_66 : decode cX4_follow 66 = .ok (.isub, 1) := by decide +kernel
theorem dX4_follow_67 : decode cX4_follow 67 = .ok (.aload 4, 2) := by decide +kernel
theorem dX4_follow_69 : decode cX4_follow 69 = .ok (.getfield 106, 3) := by decide +kernel
theorem dX4_follow_72 : decode cX4_follow 72 = .ok (.if_icmp .lt 21, 3) := by decide +kernel
theorem dX4_follow_75 : decode cX4_follow 75 = .ok (.aload_n 0, 1) := by decide +kernel
theorem dX4_follow_76 : decode cX4_follow 76 = .ok (.dup, 1) := by decide +kernel
theorem dX4_follow_77 : decode cX4_follow 77 = .ok (.getfield 51, 3) := by decide +kernel
theorem dX4_follow_80 : decode cX4_follow 80 = .ok (.iconst 1, 1) := by decide +kernel
theorem dX4_follow_81 : decode cX4_follow 81 = .ok (.iadd, 1) := by decide +kernel
theorem dX4_follow_82 : decode cX4_follow 82 = .ok (.putfield 51, 3) := by decide +kernel
theorem dX4_follow_85 : decode cX4_follow 85 = .ok (.aload_n 0, 1) := by decide +kernel
theorem dX4_follow_86 : decode cX4_follow 86 = .ok (.iload_n 1, 1) := by decide +kernel
theorem dX4_follow_87 : decode cX4_follow 87 = .ok (.invokevirtual 57, 3) := by decide +kernel
theorem dX4_follow_90 : decode cX4_follow 90 = .ok (.goto 18, 3) := by decide +kernel
theorem dX4_follow_93 : decode cX4_follow 93 = .ok (.iload 5, 2) := by decide +kernel
theorem dX4_follow_95 : decode cX4_follow 95 = .ok (.ifCond .eq 13, 3) := by decide +kernel
theorem dX4_follow_98 : decode cX4_follow 98 = .ok (.aload_n 0, 1) := by decide +kernel
theorem dX4_follow_99 : decode cX4_follow 99 = .ok (.aload 4, 2) := by decide +kernel
theorem dX4_follow_101 : decode cX4_follow 101 = .ok (.getfield 109, 3) := by decide +kernel
theorem dX4_follow_104 : decode cX4_follow 104 = .ok (.iload_n 1, 1) := by decide +kernel
theorem dX4_follow_105 : decode cX4_follow 105 = .ok (.invokevirtual 112, 3) := by decide +kernel
theorem dX4_follow_108 : decode cX4_follow 108 = .ok (.return_, 1) := by decide +kernel
theorem dX4_countEvent_0 : decode cX4_countEvent 0 = .ok (.aload_n 0, 1) := by decide +kernel
theorem dX4_countEvent_1 : decode cX4_countEvent 1 = .ok (.dup, 1) := by decide +kernel
theorem dX4_countEvent_2 : decode cX4_countEvent 2 = .ok (.getfield 64, 3) := by decide +kernel
theorem dX4_countEvent_5 : decode cX4_countEvent 5 = .ok (.iconst 1, 1) := by decide +kernel
theorem dX4_countEvent_6 : decode cX4_countEvent 6 = .ok (.iadd, 1) := by decide +kernel
theorem dX4_countEvent_7 : decode cX4_countEvent 7 = .ok (.putfield 64, 3) := by decide +kernel
theorem dX4_countEvent_10 : decode cX4_countEvent 10 = .ok (.aload_n 0, 1) := by decide +kernel
theorem dX4_countEvent_11 : decode cX4_countEvent 11 = .ok (.getfield 64, 3) := by decide +kernel
theorem dX4_countEvent_14 : decode cX4_countEvent 14 = .ok (.iload_n 1, 1) := by decide +kernel
theorem dX4_countEvent_15 : decode cX4_countEvent 15 = .ok (.if_icmp .ge 4, 3) := by decide +kernel
theorem dX4_countEvent_18 : decode cX4_countEvent 18 = .ok (.return_, 1) := by decide +kernel
theorem dX4_countEvent_19 : decode cX4_countEvent 19 = .ok (.aload_n 0, 1) := by decide +kernel
theorem dX4_countEvent_20 : decode cX4_countEvent 20 = .ok (.dup, 1) := by decide +kernel
theorem dX4_countEvent_21 : decode cX4_countEvent 21 = .ok (.getfield 61, 3) := by decide +kernel
theorem dX4_countEvent_24 : decode cX4_countEvent 24 = .ok (.iconst 1, 1) := by decide +kernel
theorem dX4_countEvent_25 : decode cX4_countEvent 25 = .ok (.iadd, 1) := by decide +kernel
theorem dX4_countEvent_26 : decode cX4_countEvent 26 = .ok (.putfield 61, 3) := by decide +kernel
theorem dX4_countEvent_29 : decode cX4_countEvent 29 = .ok (.aload_n 0, 1) := by decide +kernel
theorem dX4_countEvent_30 : decode cX4_countEvent 30 = .ok (.iconst 0, 1) := by decide +kernel
theorem dX4_countEvent_31 : decode cX4_countEvent 31 = .ok (.putfield 64, 3) := by decide +kernel
theorem dX4_countEvent_34 : decode cX4_countEvent 34 = .ok (.aload_n 0, 1) := by decide +kernel
theorem dX4_countEvent_35 : decode cX4_countEvent 35 = .ok (.iload_n 2, 1) := by decide +kernel
theorem dX4_countEvent_36 : decode cX4_countEvent 36 = .ok (.putfield 67, 3) := by decide +kernel
theorem dX4_countEvent_39 : decode cX4_countEvent 39 = .ok (.aload_n 0, 1) := by decide +kernel
theorem dX4_countEvent_40 : decode cX4_countEvent 40 = .ok (.getfield 61, 3) := by decide +kernel
theorem dX4_countEvent_43 : decode cX4_countEvent 43 = .ok (.aload_n 0, 1) := by decide +kernel
theorem dX4_countEvent_44 : decode cX4_countEvent 44 = .ok (.getfield 28, 3) := by decide +kernel
theorem dX4_countEvent_47 : decode cX4_countEvent 47 = .ok (.getfield 87, 3) := by decide +kernel
theorem dX4_countEvent_50 : decode cX4_countEvent 50 = .ok (.if_icmp .ne 13, 3) := by decide +kernel
theorem dX4_countEvent_53 : decode cX4_countEvent 53 = .ok (.aload_n 0, 1) := by decide +kernel
theorem dX4_countEvent_54 : decode cX4_countEvent 54 = .ok (.iconst 2, 1) := by decide +kernel
theorem dX4_countEvent_55 : decode cX4_countEvent 55 = .ok (.putfield 42, 3) := by decide +kernel
theorem dX4_countEvent_58 : decode cX4_countEvent 58 = .ok (.aload_n 0, 1) := by decide +kernel
theorem dX4_countEvent_59 : decode cX4_countEvent 59 = .ok (.iload_n 2, 1) := by decide +kernel
theorem dX4_countEvent_60 : decode cX4_countEvent 60 = .ok (.putfield 81, 3) := by decide +kernel
theorem dX4_countEvent_63 : decode cX4_countEvent 63 = .ok (.return_, 1) := by decide +kernel
theorem dX4_keepSegment_0 : decode cX4_keepSegment 0 = .ok (.aload_n 0, 1) := by decide +kernel
theorem dX4_keepSegment_1 : decode cX4_keepSegment 1 = .ok (.getfield 81, 3) := by decide +kernel
theorem dX4_keepSegment_4 : decode cX4_keepSegment 4 = .ok (.aload_n 0, 1) := by decide +kernel
theorem dX4_keepSegment_5 : decode cX4_keepSegment 5 = .ok (.getfield 35, 3) := by decide +kernel
theorem dX4_keepSegment_8 : decode cX4_keepSegment 8 = .ok (.isub, 1) := by decide +kernel
theorem dX4_keepSegment_9 : decode cX4_keepSegment 9 = .ok (.aload_n 0, 1) := by decide +kernel
theorem dX4_keepSegment_10 : decode cX4_keepSegment 10 = .ok (.getfield 48, 3) := by decide +kernel
theorem dX4_keepSegment_13 : decode cX4_keepSegment 13 = .ok (.aload_n 0, 1) := by decide +kernel
theorem dX4_keepSegment_14 : decode cX4_keepSegment 14 = .ok (.getfield 12, 3) := by decide +kernel
theorem dX4_keepSegment_17 : decode cX4_keepSegment 17 = .ok (.invokevirtual 115, 3) := by decide +kernel
theorem dX4_keepSegment_20 : decode cX4_keepSegment 20 = .ok (.invokestatic 119, 3) := by decide +kernel
theorem dX4_keepSegment_23 : decode cX4_keepSegment 23 = .ok (.invokestatic 119, 3) := by decide +kernel
theorem dX4_keepSegment_26 : decode cX4_keepSegment 26 = .ok (.istore_n 2, 1) := by decide +kernel
theorem dX4_keepSegment_27 : decode cX4_keepSegment 27 = .ok (.aload_n 0, 1) := by decide +kernel
theorem dX4_keepSegment_28 : decode cX4_keepSegment 28 = .ok (.getfield 21, 3) := by decide +kernel
theorem dX4_keepSegment_31 : decode cX4_keepSegment 31 = .ok (.aload_n 0, 1) := by decide +kernel
theorem dX4_keepSegment_32 : decode cX4_keepSegment 32 = .ok (.getfield 12, 3) := by decide +kernel
theorem dX4_keepSegment_35 : decode cX4_keepSegment 35 = .ok (.iload_n 2, 1) := by decide +kernel
theorem dX4_keepSegment_36 : decode cX4_keepSegment 36 = .ok (.iload_n 1, 1) := by decide +kernel
theorem dX4_keepSegment_37 : decode cX4_keepSegment 37 = .ok (.aload_n 0, 1) := by decide +kernel
theorem dX4_keepSegment_38 : decode cX4_keepSegment 38 = .ok (.getfield 81, 3) := by decide +kernel
theorem dX4_keepSegment_41 : decode cX4_keepSegment 41 = .ok (.invokevirtual 125, 3) := by decide +kernel
theorem dX4_keepSegment_44 : decode cX4_keepSegment 44 = .ok (.aload_n 0, 1) := by decide +kernel
theorem dX4_keepSegment_45 : decode cX4_keepSegment 45 = .ok (.getfield 21, 3) := by decide +kernel
theorem dX4_keepSegment_48 : decode cX4_keepSegment 48 = .ok (.invokevirtual 128, 3) := by decide +kernel
theorem dX4_keepSegment_51 : decode cX4_keepSegment 51 = .ok (.ifCond .eq 11, 3) := by decide +kernel
theorem dX4_keepSegment_54 : decode cX4_keepSegment 54 = .ok (.aload_n 0, 1) := by decide +kernel
theorem dX4_keepSegment_55 : decode cX4_keepSegment 55 = .ok (.iconst 3, 1) := by decide +kernel
theorem dX4_keepSegment_56 : decode cX4_keepSegment 56 = .ok (.putfield 42, 3) := by decide +kernel
theorem dX4_keepSegment_59 : decode cX4_keepSegment 59 = .ok (.goto 7, 3) := by decide +kernel
theorem dX4_keepSegment_62 : decode cX4_keepSegment 62 = .ok (.aload_n 0, 1) := by decide +kernel
theorem dX4_keepSegment_63 : decode cX4_keepSegment 63 = .ok (.invokevirtual 132, 3) := by decide +kernel
theorem dX4_keepSegment_66 : decode cX4_keepSegment 66 = .ok (.return_, 1) := by decide +kernel
theorem dX5_init_0 : decode cX5_init 0 = .ok (.aload_n 0, 1) := by decide +kernel
theorem dX5_init_1 : decode cX5_init 1 = .ok (.invokespecial 3, 3) := by decide +kernel
theorem dX5_init_4 : decode cX5_init 4 = .ok (.aload_n 0, 1) := by decide +kernel
theorem dX5_init_5 : decode cX5_init 5 = .ok (.sipush 201, 3) := by decide +kernel
theorem dX5_init_8 : decode cX5_init 8 = .ok (.newarray .int, 2) := by decide +kernel
theorem dX5_init_10 : decode cX5_init 10 = .ok (.putfield 9, 3) := by decide +kernel
theorem dX5_init_13 : decode cX5_init 13 = .ok (.return_, 1) := by decide +kernel
theorem dX5_copyOf_0 : decode cX5_copyOf 0 = .ok (.aload_n 0, 1) := by decide +kernel
theorem dX5_copyOf_1 : decode cX5_copyOf 1 = .ok (.iload_n 2, 1) := by decide +kernel
theorem dX5_copyOf_2 : decode cX5_copyOf 2 = .ok (.putfield 15, 3) := by decide +kernel
theorem dX5_copyOf_5 : decode cX5_copyOf 5 = .ok (.aload_n 0, 1) := by decide +kernel
theorem dX5_copyOf_6 : decode cX5_copyOf 6 = .ok (.iload_n 3, 1) := by decide +kernel
theorem dX5_copyOf_7 : decode cX5_copyOf 7 = .ok (.iload_n 2, 1) := by decide +kernel
theorem dX5_copyOf_8 : decode cX5_copyOf 8 = .ok (.isub, 1) := by decide +kernel
theorem dX5_copyOf_9 : decode cX5_copyOf 9 = .ok (.iconst 1, 1) := by decide +kernel
theorem dX5_copyOf_10 : decode cX5_copyOf 10 = .ok (.iadd, 1) := by decide +kernel
theorem dX5_copyOf_11 : decode cX5_copyOf 11 = .ok (.sipush 201, 3) := by decide +kernel
theorem dX5_copyOf_14 : decode cX5_copyOf 14 = .ok (.invokestatic 19, 3) := by decide +kernel
theorem dX5_copyOf_17 : decode cX5_copyOf 17 = .ok (.putfield 25, 3) := by decide +kernel
theorem dX5_copyOf_20 : decode cX5_copyOf 20 = .ok (.aload_n 0, 1) := by decide +kernel
theorem dX5_copyOf_21 : decode cX5_copyOf 21 = .ok (.iload 4, 2) := by decide +kernel
theorem dX5_copyOf_23 : decode cX5_copyOf 23 = .ok (.putfield 28, 3) := by decide +kernel
theorem dX5_copyOf_26 : decode cX5_copyOf 26 = .ok (.iconst 0, 1) := by decide +kernel
theorem dX5_copyOf_27 : decode cX5_copyOf 27 = .ok (.istore 5, 2) := by decide +kernel
theorem dX5_copyOf_29 : decode cX5_copyOf 29 = .ok (.iload 5, 2) := by decide +kernel
theorem dX5_copyOf_31 : decode cX5_copyOf 31 = .ok (.aload_n 0, 1) := by decide +kernel
theorem dX5_copyOf_32 : decode cX5_copyOf 32 = .ok (.getfield 25, 3) := by decide +kernel
theorem dX5_copyOf_35 : decode cX5_copyOf 35 = .ok (.if_icmp .ge 24, 3) := by decide +kernel
theorem dX5_copyOf_38 : decode cX5_copyOf 38 = .ok (.aload_n 0, 1) := by decide +kernel
theorem dX5_copyOf_39 : decode cX5_copyOf 39 = .ok (.getfield 9, 3) := by decide +kernel
theorem dX5_copyOf_42 : decode cX5_copyOf 42 = .ok (.iload 5, 2) := by decide +kernel
theorem dX5_copyOf_44 : decode cX5_copyOf 44 = .ok (.aload_n 1, 1) := by decide +kernel
theorem dX5_copyOf_45 : decode cX5_copyOf 45 = .ok (.iload_n 2, 1) := by decide +kernel
theorem dX5_copyOf_46 : decode cX5_copyOf 46 = .ok (.iload 5, 2) := by decide +kernel
theorem dX5_copyOf_48 : decode cX5_copyOf 48 = .ok (.iadd, 1) := by decide +kernel
theorem dX5_copyOf_49 : decode cX5_copyOf 49 = .ok (.invokevirtual 31, 3) := by decide +kernel
theorem dX5_copyOf_52 : decode cX5_copyOf 52 = .ok (.iastore, 1) := by decide +kernel
theorem dX5_copyOf_53 : decode cX5_copyOf 53 = .ok (.iinc 5 1, 3) := by decide +kernel
theorem dX5_copyOf_56 : decode cX5_copyOf 56 = .ok (.goto (-27), 3) := by decide +kernel
theorem dX5_copyOf_59 : decode cX5_copyOf 59 = .ok (.return_, 1) := by decide +kernel
theorem dX5_has_0 : decode cX5_has 0 = .ok (.iload_n 1, 1) := by decide +kernel
theorem dX5_has_1 : decode cX5_has 1 = .ok (.iconst 0, 1) := by decide +kernel
theorem dX5_has_2 : decode cX5_has 2 = .ok (.aload_n 0, 1) := by decide +kernel
theorem dX5_has_3 : decode cX5_has 3 = .ok (.getfield 25, 3) := by decide +kernel
theorem dX5_has_6 : decode cX5_has 6 = .ok (.iconst 1, 1) := by decide +kernel
theorem dX5_has_7 : decode cX5_has 7 = .ok (.isub, 1) := by decide +kernel
theorem dX5_has_8 : decode cX5_has 8 = .ok (.invokestatic 37, 3) := by decide +kernel
theorem dX5_has_11 : decode cX5_has 11 = .ok (.ireturn, 1) := by decide +kernel
theorem dX5_numberAt_0 : decode cX5_numberAt 0 = .ok (.aload_n 0, 1) := by decide +kernel
theorem dX5_numberAt_1 : decode cX5_numberAt 1 = .ok (.iload_n 2, 1) := by decide +kernel
theorem dX5_numberAt_2 : decode cX5_numberAt 2 = .ok (.invokevirtual 41, 3) := by decide +kernel
theorem dX5_numberAt_5 : decode cX5_numberAt 5 = .ok (.ifCond .eq 16, 3) := by decide +kernel
theorem dX5_numberAt_8 : decode cX5_numberAt 8 = .ok (.iload_n 1, 1) := by decide +kernel
theorem dX5_numberAt_9 : decode cX5_numberAt 9 = .ok (.aload_n 0, 1) := by decide +kernel
theorem dX5_numberAt_10 : decode cX5_numberAt 10 = .ok (.getfield 9, 3) := by decide +kernel
theorem dX5_numberAt_13 : decode cX5_numberAt 13 = .ok (.iload_n 2, 1) := by decide +kernel
theorem dX5_numberAt_14 : decode cX5_numberAt 14 = .ok (.iaload, 1) := by decide +kernel
theorem dX5_numberAt_15 : decode cX5_numberAt 15 = .ok (.invokestatic 45, 3) := by decide +kernel
theorem dX5_numberAt_18 : decode cX5_numberAt 18 = .ok (.goto 4, 3) := by decide +kernel
theorem dX5_numberAt_21 : decode cX5_numberAt 21 = .ok (.iconst 0, 1) := by decide +kernel
theorem dX5_numberAt_22 : decode cX5_numberAt 22 = .ok (.ireturn, 1) := by decide +kernel
theorem dX5_isOne_0 : decode cX5_isOne 0 = .ok (.aload_n 0, 1) := by decide +kernel
theorem dX5_isOne_1 : decode cX5_isOne 1 = .ok (.iload_n 1, 1) := by decide +kernel
theorem dX5_isOne_2 : decode cX5_isOne 2 = .ok (.iload_n 2, 1) := by decide +kernel
theorem dX5_isOne_3 : decode cX5_isOne 3 = .ok (.invokevirtual 48, 3) := by decide +kernel
theorem dX5_isOne_6 : decode cX5_isOne 6 = .ok (.ifCond .lt 7, 3) := by decide +kernel
theorem dX5_isOne_9 : decode cX5_isOne 9 = .ok (.iconst 1, 1) := by decide +kernel
theorem dX5_isOne_10 : decode cX5_isOne 10 = .ok (.goto 4, 3) := by decide +kernel
theorem dX5_isOne_13 : decode cX5_isOne 13 = .ok (.iconst 0, 1) := by decide +kernel
theorem dX5_isOne_14 : decode cX5_isOne 14 = .ok (.ireturn, 1) := by decide +kernel
theorem dX6_init_0 : decode cX6_init 0 = .ok (.aload_n 0, 1) := by decide +kernel
theorem dX6_init_1 : decode cX6_init 1 = .ok (.invokespecial 3, 3) := by decide +kernel
theorem dX6_init_4 : decode cX6_init 4 = .ok (.aload_n 0, 1) := by decide +kernel
theorem dX6_init_5 : decode cX6_init 5 = .ok (.bipush 64, 2) := by decide +kernel
theorem dX6_init_7 : decode cX6_init 7 = .ok (.newarray .int, 2) := by decide +kernel
theorem dX6_init_9 : decode cX6_init 9 = .ok (.putfield 9, 3) := by decide +kernel
theorem dX6_init_12 : decode cX6_init 12 = .ok (.aload_n 0, 1) := by decide +kernel
theorem dX6_init_13 : decode cX6_init 13 = .ok (.iconst (-1), 1) := by decide +kernel
theorem dX6_init_14 : decode cX6_init 14 = .ok (.putfield 15, 3) := by decide +kernel
theorem dX6_init_17 : decode cX6_init 17 = .ok (.return_, 1) := by decide +kernel
theorem dX6_renew_0 : decode cX6_renew 0 = .ok (.aload_n 0, 1) := by decide +kernel
theorem dX6_renew_1 : decode cX6_renew 1 = .ok (.iload_n 1, 1) := by decide +kernel
theorem dX6_renew_2 : decode cX6_renew 2 = .ok (.putfield 15, 3) := by decide +kernel
theorem dX6_renew_5 : decode cX6_renew 5 = .ok (.aload_n 0, 1) := by decide +kernel
theorem dX6_renew_6 : decode cX6_renew 6 = .ok (.iload_n 2, 1) := by decide +kernel
theorem dX6_renew_7 : decode cX6_renew 7 = .ok (.bipush 64, 2) := by decide +kernel
theorem dX6_renew_9 : decode cX6_renew 9 = .ok (.invokestatic 19, 3) := by decide +kernel
theorem dX6_renew_12 : decode cX6_renew 12 = .ok (.putfield 25, 3) := by decide +kernel
theorem dX6_renew_15 : decode cX6_renew 15 = .ok (.iconst 0, 1) := by decide +kernel
theorem dX6_renew_16 : decode cX6_renew 16 = .ok (.istore_n 3, 1) := by decide +kernel
theorem dX6_renew_17 : decode cX6_renew 17 = .ok (.iload_n 3, 1) := by decide +kernel
theorem dX6_renew_18 : decode cX6_renew 18 = .ok (.aload_n 0, 1) := by decide +kernel
theorem dX6_renew_19 : decode cX6_renew 19 = .ok (.getfield 25, 3) := by decide +kernel
theorem dX6_renew_22 : decode cX6_renew 22 = .ok (.if_icmp .ge 16, 3) := by decide +kernel
theorem dX6_renew_25 : decode cX6_renew 25 = .ok (.aload_n 0, 1) := by decide +kernel
theorem dX6_renew_26 : decode cX6_renew 26 = .ok (.getfield 9, 3) := by decide +kernel
theorem dX6_renew_29 : decode cX6_renew 29 = .ok (.iload_n 3, 1) := by decide +kernel
theorem dX6_renew_30 : decode cX6_renew 30 = .ok (.iconst 0, 1) := by decide +kernel
theorem dX6_renew_31 : decode cX6_renew 31 = .ok (.iastore, 1) := by decide +kernel
theorem dX6_renew_32 : decode cX6_renew 32 = .ok (.iinc 3 1, 3) := by decide +kernel
theorem dX6_renew_35 : decode cX6_renew 35 = .ok (.goto (-18), 3) := by decide +kernel
theorem dX6_renew_38 : decode cX6_renew 38 = .ok (.return_, 1) := by decide +kernel
theorem dX6_isNothing_0 : decode cX6_isNothing 0 = .ok (.aload_n 0, 1) := by decide +kernel
theorem dX6_isNothing_1 : decode cX6_isNothing 1 = .ok (.getfield 15, 3) := by decide +kernel
theorem dX6_isNothing_4 : decode cX6_isNothing 4 = .ok (.iconst (-1), 1) := by decide +kernel
theorem dX6_isNothing_5 : decode cX6_isNothing 5 = .ok (.if_icmp .ne 7, 3) := by decide +kernel
theorem dX6_isNothing_8 : decode cX6_isNothing 8 = .ok (.iconst 1, 1) := by decide +kernel
theorem dX6_isNothing_9 : decode cX6_isNothing 9 = .ok (.goto 4, 3) := by decide +kernel
theorem dX6_isNothing_12 : decode cX6_isNothing 12 = .ok (.iconst 0, 1) := by decide +kernel
theorem dX6_isNothing_13 : decode cX6_isNothing 13 = .ok (.ireturn, 1) := by decide +kernel
theorem dX6_has_0 : decode cX6_has 0 = .ok (.iload_n 1, 1) := by decide +kernel
theorem dX6_has_1 : decode cX6_has 1 = .ok (.iconst 0, 1) := by decide +kernel
theorem dX6_has_2 : decode cX6_has 2 = .ok (.aload_n 0, 1) := by decide +kernel
theorem dX6_has_3 : decode cX6_has 3 = .ok (.getfield 25, 3) := by decide +kernel
theorem dX6_has_6 : decode cX6_has 6 = .ok (.iconst 1, 1) := by decide +kernel
theorem dX6_has_7 : decode cX6_has 7 = .ok (.isub, 1) := by decide +kernel
theorem dX6_has_8 : decode cX6_has 8 = .ok (.invokestatic 28, 3) := by decide +kernel
theorem dX6_has_11 : decode cX6_has 11 = .ok (.ireturn, 1) := by decide +kernel
theorem dX6_put_0 : decode cX6_put 0 = .ok (.aload_n 0, 1) := by decide +kernel
theorem dX6_put_1 : decode cX6_put 1 = .ok (.iload_n 1, 1) := by decide +kernel
theorem dX6_put_2 : decode cX6_put 2 = .ok (.invokevirtual 32, 3) := by decide +kernel
theorem dX6_put_5 : decode cX6_put 5 = .ok (.ifCond .eq 35, 3) := by decide +kernel
theorem dX6_put_8 : decode cX6_put 8 = .ok (.aload_n 0, 1) := by decide +kernel
theorem dX6_put_9 : decode cX6_put 9 = .ok (.getfield 9, 3) := by decide +kernel
theorem dX6_put_12 : decode cX6_put 12 = .ok (.iload_n 1, 1) := by decide +kernel
theorem dX6_put_13 : decode cX6_put 13 = .ok (.aload_n 0, 1) := by decide +kernel
theorem dX6_put_14 : decode cX6_put 14 = .ok (.getfield 15, 3) := by decide +kernel
theorem dX6_put_17 : decode cX6_put 17 = .ok (.ifCond .ne 8, 3) := by decide +kernel
theorem dX6_put_20 : decode cX6_put 20 = .ok (.iload_n 2, 1) := by decide +kernel
theorem dX6_put_21 : decode cX6_put 21 = .ok (.i2b, 1) := by decide +kernel
theorem dX6_put_22 : decode cX6_put 22 = .ok (.goto 17, 3) := by decide +kernel
theorem dX6_put_25 : decode cX6_put 25 = .ok (.aload_n 0, 1) := by decide +kernel
theorem dX6_put_26 : decode cX6_put 26 = .ok (.getfield 15, 3) := by decide +kernel
theorem dX6_put_29 : decode cX6_put 29 = .ok (.iconst 1, 1) := by decide +kernel
theorem dX6_put_30 : decode cX6_put 30 = .ok (.if_icmp .ne 8, 3) := by decide +kernel
theorem dX6_put_33 : decode cX6_put 33 = .ok (.iload_n 2, 1) := by decide +kernel
theorem dX6_put_34 : decode cX6_put 34 = .ok (.i2s, 1) := by decide +kernel
theorem dX6_put_35 : decode cX6_put 35 = .ok (.goto 4, 3) := by decide +kernel
theorem dX6_put_38 : decode cX6_put 38 = .ok (.iload_n 2, 1) := by decide +kernel
theorem dX6_put_39 : decode cX6_put 39 = .ok (.iastore, 1) := by decide +kernel
theorem dX6_put_40 : decode cX6_put 40 = .ok (.return_, 1) := by decide +kernel
theorem dX6_faultAs_0 : decode cX6_faultAs 0 = .ok (.aload_n 0, 1) := by decide +kernel
theorem dX6_faultAs_1 : decode cX6_faultAs 1 = .ok (.invokevirtual 36, 3) := by decide +kernel
theorem dX6_faultAs_4 : decode cX6_faultAs 4 = .ok (.ifCond .eq 5, 3) := by decide +kernel
theorem dX6_faultAs_7 : decode cX6_faultAs 7 = .ok (.iconst 1, 1) := by decide +kernel
theorem dX6_faultAs_8 : decode cX6_faultAs 8 = .ok (.ireturn, 1) := by decide +kernel
theorem dX6_faultAs_9 : decode cX6_faultAs 9 = .ok (.aload_n 0, 1) := by decide +kernel
theorem dX6_faultAs_10 : decode cX6_faultAs 10 = .ok (.getfield 15, 3) := by decide +kernel
theorem dX6_faultAs_13 : decode cX6_faultAs 13 = .ok (.iload_n 1, 1) := by decide +kernel
theorem dX6_faultAs_14 : decode cX6_faultAs 14 = .ok (.if_icmp .eq 5, 3) := by decide +kernel
theorem dX6_faultAs_17 : decode cX6_faultAs 17 = .ok (.iconst 3, 1) := by decide +kernel
theorem dX6_faultAs_18 : decode cX6_faultAs 18 = .ok (.ireturn, 1) := by decide +kernel
theorem dX6_faultAs_19 : decode cX6_faultAs 19 = .ok (.iload_n 2, 1) := by decide +kernel
theorem dX6_faultAs_20 : decode cX6_faultAs 20 = .ok (.aload_n 0, 1) := by decide +kernel
theorem dX6_faultAs_21 : decode cX6_faultAs 21 = .ok (.getfield 25, 3) := by decide +kernel
theorem dX6_faultAs_24 : decode cX6_faultAs 24 = .ok (.iconst 2, 1) := by decide +kernel
theorem dX6_faultAs_25 : decode cX6_faultAs 25 = .ok (.idiv, 1) := by decide +kernel
theorem dX6_faultAs_26 : decode cX6_faultAs 26 = .ok (.if_icmp .le 7, 3) := by decide +kernel
theorem dX6_faultAs_29 : decode cX6_faultAs 29 = .ok (.iconst 2, 1) := by decide +kernel
theorem dX6_faultAs_30 : decode cX6_faultAs 30 = .ok (.goto 4, 3) := by decide +kernel
theorem dX6_faultAs_33 : decode cX6_faultAs 33 = .ok (.iconst 0, 1) := by decide +kernel
theorem dX6_faultAs_34 : decode cX6_faultAs 34 = .ok (.ireturn, 1) := by decide +kernel
theorem dX6_allows_0 : decode cX6_allows 0 = .ok (.iconst 2, 1) := by decide +kernel
theorem dX6_allows_1 : decode cX6_allows 1 = .ok (.iload_n 1, 1) := by decide +kernel
theorem dX6_allows_2 : decode cX6_allows 2 = .ok (.imul, 1) := by decide +kernel
theorem dX6_allows_3 : decode cX6_allows 3 = .ok (.istore_n 3, 1) := by decide +kernel
theorem dX6_allows_4 : decode cX6_allows 4 = .ok (.aload_n 0, 1) := by decide +kernel
theorem dX6_allows_5 : decode cX6_allows 5 = .ok (.iload_n 3, 1) := by decide +kernel
theorem dX6_allows_6 : decode cX6_allows 6 = .ok (.invokevirtual 32, 3) := by decide +kernel
theorem dX6_allows_9 : decode cX6_allows 9 = .ok (.ifCond .eq 34, 3) := by decide +kernel
theorem dX6_allows_12 : decode cX6_allows 12 = .ok (.aload_n 0, 1) := by decide +kernel
theorem dX6_allows_13 : decode cX6_allows 13 = .ok (.iload_n 3, 1) := by decide +kernel
theorem dX6_allows_14 : decode cX6_allows 14 = .ok (.iconst 1, 1) := by decide +kernel
theorem dX6_allows_15 : decode cX6_allows 15 = .ok (.iadd, 1) := by decide +kernel
theorem dX6_allows_16 : decode cX6_allows 16 = .ok (.invokevirtual 32, 3) := by decide +kernel
theorem dX6_allows_19 : decode cX6_allows 19 = .ok (.ifCond .eq 24, 3) := by decide +kernel
theorem dX6_allows_22 : decode cX6_allows 22 = .ok (.iload_n 2, 1) := by decide +kernel
theorem dX6_allows_23 : decode cX6_allows 23 = .ok (.aload_n 0, 1) := by decide +kernel
theorem dX6_allows_24 : decode cX6_allows 24 = .ok (.getfield 9, 3) := by decide +kernel
theorem dX6_allows_27 : decode cX6_allows 27 = .ok (.iload_n 3, 1) := by decide +kernel
theorem dX6_allows_28 : decode cX6_allows 28 = .ok (.iaload, 1) := by decide +kernel
theorem dX6_allows_29 : decode cX6_allows 29 = .ok (.aload_n 0, 1) := by decide +kernel
theorem dX6_allows_30 : decode cX6_allows 30 = .ok (.getfield 9, 3) := by decide +kernel
theorem dX6_allows_33 : decode cX6_allows 33 = .ok (.iload_n 3, 1) := by decide +kernel
theorem dX6_allows_34 : decode cX6_allows 34 = .ok (.iconst 1, 1) := by decide +kernel
theorem dX6_allows_35 : decode cX6_allows 35 = .ok (.iadd, 1) := by decide +kernel
theorem dX6_allows_36 : decode cX6_allows 36 = .ok (.iaload, 1) := by decide +kernel
theorem dX6_allows_37 : decode cX6_allows 37 = .ok (.invokestatic 28, 3) := by decide +kernel
theorem dX6_allows_40 : decode cX6_allows 40 = .ok (.ifCond .eq 7, 3) := by decide +kernel
theorem dX6_allows_43 : decode cX6_allows 43 = .ok (.iconst 1, 1) := by decide +kernel
theorem dX6_allows_44 : decode cX6_allows 44 = .ok (.goto 4, 3) := by decide +kernel
theorem dX6_allows_47 : decode cX6_allows 47 = .ok (.iconst 0, 1) := by decide +kernel
theorem dX6_allows_48 : decode cX6_allows 48 = .ok (.ireturn, 1) := by decide +kernel
theorem dX7_init_0 : decode cX7_init 0 = .ok (.aload_n 0, 1) := by decide +kernel
theorem dX7_init_1 : decode cX7_init 1 = .ok (.invokespecial 3, 3) := by decide +kernel
theorem dX7_init_4 : decode cX7_init 4 = .ok (.return_, 1) := by decide +kernel
theorem dX7_happens_0 : decode cX7_happens 0 = .ok (.aload_n 0, 1) := by decide +kernel
theorem dX7_happens_1 : decode cX7_happens 1 = .ok (.getfield 9, 3) := by decide +kernel
theorem dX7_happens_4 : decode cX7_happens 4 = .ok (.iload_n 1, 1) := by decide +kernel
theorem dX7_happens_5 : decode cX7_happens 5 = .ok (.invokestatic 15, 3) := by decide +kernel
theorem dX7_happens_8 : decode cX7_happens 8 = .ok (.istore_n 3, 1) := by decide +kernel
theorem dX7_happens_9 : decode cX7_happens 9 = .ok (.aload_n 0, 1) := by decide +kernel
theorem dX7_happens_10 : decode cX7_happens 10 = .ok (.getfield 9, 3) := by decide +kernel
theorem dX7_happens_13 : decode cX7_happens 13 = .ok (.iload_n 2, 1) := by decide +kernel
theorem dX7_happens_14 : decode cX7_happens 14 = .ok (.invokestatic 15, 3) := by decide +kernel
theorem dX7_happens_17 : decode cX7_happens 17 = .ok (.istore 4, 2) := by decide +kernel
theorem dX7_happens_19 : decode cX7_happens 19 = .ok (.aload_n 0, 1) := by decide +kernel
theorem dX7_happens_20 : decode cX7_happens 20 = .ok (.getfield 19, 3) := by decide +kernel
theorem dX7_happens_23 : decode cX7_happens 23 = .ok (.ifCond .le 16, 3) := by decide +kernel
theorem dX7_happens_26 : decode cX7_happens 26 = .ok (.iload 4, 2) := by decide +kernel
theorem dX7_happens_28 : decode cX7_happens 28 = .ok (.aload_n 0, 1) := by decide +kernel
theorem dX7_happens_29 : decode cX7_happens 29 = .ok (.getfield 22, 3) := by decide +kernel
theorem dX7_happens_32 : decode cX7_happens 32 = .ok (.if_icmp .ge 7, 3) := by decide +kernel
theorem dX7_happens_35 : decode cX7_happens 35 = .ok (.iconst 1, 1) := by decide +kernel
theorem dX7_happens_36 : decode cX7_happens 36 = .ok (.goto 4, 3) := by decide +kernel
theorem dX7_happens_39 : decode cX7_happens 39 = .ok (.iconst 0, 1) := by decide +kernel
theorem dX7_happens_40 : decode cX7_happens 40 = .ok (.istore 5, 2) := by decide +kernel
theorem dX7_happens_42 : decode cX7_happens 42 = .ok (.aload_n 0, 1) := by decide +kernel
theorem dX7_happens_43 : decode cX7_happens 43 = .ok (.getfield 25, 3) := by decide +kernel
theorem dX7_happens_46 : decode cX7_happens 46 = .ok (.tableswitch 259 0 7 #[46, 69, 92, 114, 136, 154, 191, 228], 46) := by decide +kernel
theorem dX7_happens_92 : decode cX7_happens 92 = .ok (.iload_n 3, 1) := by decide +kernel
theorem dX7_happens_93 : decode cX7_happens 93 = .ok (.aload_n 0, 1) := by decide +kernel
theorem dX7_happens_94 : decode cX7_happens 94 = .ok (.getfield 22, 3) := by decide +kernel
theorem dX7_happens_97 : decode cX7_happens 97 = .ok (.if_icmp .ge 16, 3) := by decide +kernel
theorem dX7_happens_100 : decode cX7_happens 100 = .ok (.iload 4, 2) := by decide +kernel
theorem dX7_happens_102 : decode cX7_happens 102 = .ok (.aload_n 0, 1) := by decide +kernel
theorem dX7_happens_103 : decode cX7_happens 103 = .ok (.getfield 22, 3) := by decide +kernel
theorem dX7_happens_106 : decode cX7_happens 106 = .ok (.if_icmp .lt 7, 3) := by decide +kernel
theorem dX7_happens_109 : decode cX7_happens 109 = .ok (.iconst 1, 1) := by decide +kernel
theorem dX7_happens_110 : decode cX7_happens 110 = .ok (.goto 4, 3) := by decide +kernel
theorem dX7_happens_113 : decode cX7_happens 113 = .ok (.iconst 0, 1) := by decide +kernel
theorem dX7_happens_114 : decode cX7_happens 114 = .ok (.ireturn, 1) := by decide +kernel
theorem dX7_happens_115 : decode cX7_happens 115 = .ok (.iload_n 3, 1) := by decide +kernel
theorem dX7_happens_116 : decode cX7_happens 116 = .ok (.aload_n 0, 1) := by decide +kernel
theorem dX7_happens_117 : decode cX7_happens 117 = .ok (.getfield 22, 3) := by decide +kernel
theorem dX7_happens_120 : decode cX7_happens 120 = .ok (.if_icmp .lt 16, 3) := by decide +kernel
theorem dX7_happens_123 : decode cX7_happens 123 = .ok (.iload 4, 2) := by decide +kernel
theorem dX7_happens_125 : decode cX7_happens 125 = .ok (.aload_n 0, 1) := by decide +kernel
theorem dX7_happens_126 : decode cX7_happens 126 = .ok (.getfield 22, 3) := by decide +kernel
theorem dX7_happens_129 : decode cX7_happens 129 = .ok (.if_icmp .ge 7, 3) := by decide +kernel
theorem dX7_happens_132 : decode cX7_happens 132 = .ok (.iconst 1, 1) := by decide +kernel
theorem dX7_happens_133 : decode cX7_happens 133 = .ok (.goto 4, 3) := by decide +kernel
theorem dX7_happens_136 : decode cX7_happens 136 = .ok (.iconst 0, 1) := by decide +kernel
theorem dX7_happens_137 : decode cX7_happens 137 = .ok (.ireturn, 1) := by decide +kernel
theorem dX7_happens_138 : decode cX7_happens 138 = .ok (.iload 5, 2) := by decide +kernel
theorem dX7_happens_140 : decode cX7_happens 140 = .ok (.ifCond .eq 18, 3) := by decide +kernel
theorem dX7_happens_143 : decode cX7_happens 143 = .ok (.aload_n 0, 1) := by decide +kernel
theorem dX7_happens_144 : decode cX7_happens 144 = .ok (.getfield 19, 3) := by decide +kernel
theorem dX7_happens_147 : decode cX7_happens 147 = .ok (.aload_n 0, 1) := by decide +kernel
theorem dX7_happens_148 : decode cX7_happens 148 = .ok (.getfield 28, 3) := by decide +kernel
theorem dX7_happens_151 : decode cX7_happens 151 = .ok (.if_icmp .lt 7, 3) := by decide +kernel
theorem dX7_happens_154 : decode cX7_happens 154 = .ok (.iconst 1, 1) := by decide +kernel
theorem dX7_happens_155 : decode cX7_happens 155 = .ok (.goto 4, 3) := by decide +kernel
theorem dX7_happens_158 : decode cX7_happens 158 = .ok (.iconst 0, 1) := by decide +kernel
theorem dX7_happens_159 : decode cX7_happens 159 = .ok (.ireturn, 1) := by decide +kernel
theorem dX7_happens_160 : decode cX7_happens 160 = .ok (.iload 5, 2) := by decide +kernel
theorem dX7_happens_162 : decode cX7_happens 162 = .ok (.ifCond .eq 18, 3) := by decide +kernel
theorem dX7_happens_165 : decode cX7_happens 165 = .ok (.aload_n 0, 1) := by decide +kernel
theorem dX7_happens_166 : decode cX7_happens 166 = .ok (.getfield 19, 3) := by decide +kernel
theorem dX7_happens_169 : decode cX7_happens 169 = .ok (.aload_n 0, 1) := by decide +kernel
theorem dX7_happens_170 : decode cX7_happens 170 = .ok (.getfield 28, 3) := by decide +kernel
theorem dX7_happens_173 : decode cX7_happens 173 = .ok (.if_icmp .ge 7, 3) := by decide +kernel
theorem dX7_happens_176 : decode cX7_happens 176 = .ok (.iconst 1, 1) := by decide +kernel
theorem dX7_happens_177 : decode cX7_happens 177 = .ok (.goto 4, 3) := by decide +kernel
theorem dX7_happens_180 : decode cX7_happens 180 = .ok (.iconst 0, 1) := by decide +kernel
theorem dX7_happens_181 : decode cX7_happens 181 = .ok (.ireturn, 1) := by decide +kernel
theorem dX7_happens_182 : decode cX7_happens 182 = .ok (.iload 5, 2) := by decide +kernel
theorem dX7_happens_184 : decode cX7_happens 184 = .ok (.ifCond .eq 14, 3) := by decide +kernel
theorem dX7_happens_187 : decode cX7_happens 187 = .ok (.aload_n 0, 1) := by decide +kernel
theorem dX7_happens_188 : decode cX7_happens 188 = .ok (.getfield 31, 3) := by decide +kernel
theorem dX7_happens_191 : decode cX7_happens 191 = .ok (.ifCond .ne 7, 3) := by decide +kernel
theorem dX7_happens_194 : decode cX7_happens 194 = .ok (.iconst 1, 1) := by decide +kernel
theorem dX7_happens_195 : decode cX7_happens 195 = .ok (.goto 4, 3) := by decide +kernel
theorem dX7_happens_198 : decode cX7_happens 198 = .ok (.iconst 0, 1) := by decide +kernel
theorem dX7_happens_199 : decode cX7_happens 199 = .ok (.ireturn, 1) := by decide +kernel
theorem dX7_happens_200 : decode cX7_happens 200 = .ok (.iload 4, 2) := by decide +kernel
theorem dX7_happens_202 : decode cX7_happens 202 = .ok (.aload_n 0, 1) := by decide +kernel
theorem dX7_happens_203 : decode cX7_happens 203 = .ok (.getfield 22, 3) := by decide +kernel
theorem dX7_happens_206 : decode cX7_happens 206 = .ok (.aload_n 0, 1) := by decide +kernel
theorem dX7_happens_207 : decode cX7_happens 207 = .ok (.getfield 35, 3) := by decide +kernel
theorem dX7_happens_210 : decode cX7_happens 210 = .ok (.invokestatic 38, 3) := by decide +kernel
theorem dX7_happens_213 : decode cX7_happens 213 = .ok (.ifCond .eq 22, 3) := by decide +kernel
theorem dX7_happens_216 : decode cX7_happens 216 = .ok (.iload_n 3, 1) := by decide +kernel
theorem dX7_happens_217 : decode cX7_happens 217 = .ok (.aload_n 0, 1) := by decide +kernel
theorem dX7_happens_218 : decode cX7_happens 218 = .ok (.getfield 22, 3) := by decide +kernel
theorem dX7_happens_221 : decode cX7_happens 221 = .ok (.aload_n 0, 1) := by decide +kernel
theorem dX7_happens_222 : decode cX7_happens 222 = .ok (.getfield 35, 3) := by decide +kernel
theorem dX7_happens_225 : decode cX7_happens 225 = .ok (.invokestatic 38, 3) := by decide +kernel
theorem dX7_happens_228 : decode cX7_happens 228 = .ok (.ifCond .ne 7, 3) := by decide +kernel
theorem dX7_happens_231 : decode cX7_happens 231 = .ok (.iconst 1, 1) := by decide +kernel
theorem dX7_happens_232 : decode cX7_happens 232 = .ok (.goto 4, 3) := by decide +kernel
theorem dX7_happens_235 : decode cX7_happens 235 = .ok (.iconst 0, 1) := by decide +kernel
theorem dX7_happens_236 : decode cX7_happens 236 = .ok (.ireturn, 1) := by decide +kernel
theorem dX7_happens_237 : decode cX7_happens 237 = .ok (.iload_n 3, 1) := by decide +kernel
theorem dX7_happens_238 : decode cX7_happens 238 = .ok (.aload_n 0, 1) := by decide +kernel
theorem dX7_happens_239 : decode cX7_happens 239 = .ok (.getfield 22, 3) := by decide +kernel
theorem dX7_happens_242 : decode cX7_happens 242 = .ok (.aload_n 0, 1) := by decide +kernel
theorem dX7_happens_243 : decode cX7_happens 243 = .ok (.getfield 35, 3) := by decide +kernel
theorem dX7_happens_246 : decode cX7_happens 246 = .ok (.invokestatic 38, 3) := by decide +kernel
theorem dX7_happens_249 : decode cX7_happens 249 = .ok (.ifCond .eq 23, 3) := by decide +kernel
theorem dX7_happens_252 : decode cX7_happens 252 = .ok (.iload 4, 2) := by decide +kernel
theorem dX7_happens_254 : decode cX7_happens 254 = .ok (.aload_n 0, 1) := by decide +kernel
theorem dX7_happens_255 : decode cX7_happens 255 = .ok (.getfield 22, 3) := by decide +kernel
theorem dX7_happens_258 : decode cX7_happens 258 = .ok (.aload_n 0, 1) := by decide +kernel
theorem dX7_happens_259 : decode cX7_happens 259 = .ok (.getfield 35, 3) := by decide +kernel
theorem dX7_happens_262 : decode cX7_happens 262 = .ok (.invokestatic 38, 3) := by decide +kernel
theorem dX7_happens_265 : decode cX7_happens 265 = .ok (.ifCond .ne 7, 3) := by decide +kernel
theorem dX7_happens_268 : decode cX7_happens 268 = .ok (.iconst 1, 1) := by decide +kernel
theorem dX7_happens_269 : decode cX7_happens 269 = .ok (.goto 4, 3) := by decide +kernel
theorem dX7_happens_272 : decode cX7_happens 272 = .ok (.iconst 0, 1) := by decide +kernel
theorem dX7_happens_273 : decode cX7_happens 273 = .ok (.ireturn, 1) := by decide +kernel
theorem dX7_happens_274 : decode cX7_happens 274 = .ok (.iload 4, 2) := by decide +kernel
theorem dX7_happens_276 : decode cX7_happens 276 = .ok (.aload_n 0, 1) := by decide +kernel
theorem dX7_happens_277 : decode cX7_happens 277 = .ok (.getfield 42, 3) := by decide +kernel
theorem dX7_happens_280 : decode cX7_happens 280 = .ok (.iload_n 2, 1) := by decide +kernel
theorem dX7_happens_281 : decode cX7_happens 281 = .ok (.invokestatic 15, 3) := by decide +kernel
theorem dX7_happens_284 : decode cX7_happens 284 = .ok (.if_icmp .ne 19, 3) := by decide +kernel
theorem dX7_happens_287 : decode cX7_happens 287 = .ok (.iload_n 3, 1) := by decide +kernel
theorem dX7_happens_288 : decode cX7_happens 288 = .ok (.aload_n 0, 1) := by decide +kernel
theorem dX7_happens_289 : decode cX7_happens 289 = .ok (.getfield 42, 3) := by decide +kernel
theorem dX7_happens_292 : decode cX7_happens 292 = .ok (.iload_n 1, 1) := by decide +kernel
theorem dX7_happens_293 : decode cX7_happens 293 = .ok (.invokestatic 15, 3) := by decide +kernel
theorem dX7_happens_296 : decode cX7_happens 296 = .ok (.if_icmp .eq 7, 3) := by decide +kernel
theorem dX7_happens_299 : decode cX7_happens 299 = .ok (.iconst 1, 1) := by decide +kernel
theorem dX7_happens_300 : decode cX7_happens 300 = .ok (.goto 4, 3) := by decide +kernel
theorem dX7_happens_303 : decode cX7_happens 303 = .ok (.iconst 0, 1) := by decide +kernel
theorem dX7_happens_304 : decode cX7_happens 304 = .ok (.ireturn, 1) := by decide +kernel
theorem dX7_happens_305 : decode cX7_happens 305 = .ok (.iconst 0, 1) := by decide +kernel
theorem dX7_happens_306 : decode cX7_happens 306 = .ok (.ireturn, 1) := by decide +kernel
theorem dX7_followHigh_0 : decode cX7_followHigh 0 = .ok (.aload_n 0, 1) := by decide +kernel
theorem dX7_followHigh_1 : decode cX7_followHigh 1 = .ok (.getfield 9, 3) := by decide +kernel
theorem dX7_followHigh_4 : decode cX7_followHigh 4 = .ok (.iload_n 1, 1) := by decide +kernel
theorem dX7_followHigh_5 : decode cX7_followHigh 5 = .ok (.invokestatic 15, 3) := by decide +kernel
theorem dX7_followHigh_8 : decode cX7_followHigh 8 = .ok (.istore_n 3, 1) := by decide +kernel
theorem dX7_followHigh_9 : decode cX7_followHigh 9 = .ok (.aload_n 0, 1) := by decide +kernel
theorem dX7_followHigh_10 : decode cX7_followHigh 10 = .ok (.getfield 9, 3) := by decide +kernel
theorem dX7_followHigh_13 : decode cX7_followHigh 13 = .ok (.iload_n 2, 1) := by decide +kernel
theorem dX7_followHigh_14 : decode cX7_followHigh 14 = .ok (.invokestatic 15, 3) := by decide +kernel
theorem dX7_followHigh_17 : decode cX7_followHigh 17 = .ok (.istore 4, 2) := by decide +kernel
theorem dX7_followHigh_19 : decode cX7_followHigh 19 = .ok (.iload 4, 2) := by decide +kernel
theorem dX7_followHigh_21 : decode cX7_followHigh 21 = .ok (.aload_n 0, 1) := by decide +kernel
theorem dX7_followHigh_22 : decode cX7_followHigh 22 = .ok (.getfield 22, 3) := by decide +kernel
theorem dX7_followHigh_25 : decode cX7_followHigh 25 = .ok (.if_icmp .ge 11, 3) := by decide +kernel
theorem dX7_followHigh_28 : decode cX7_followHigh 28 = .ok (.aload_n 0, 1) := by decide +kernel
theorem dX7_followHigh_29 : decode cX7_followHigh 29 = .ok (.iconst 0, 1) := by decide +kernel
theorem dX7_followHigh_30 : decode cX7_followHigh 30 = .ok (.putfield 19, 3) := by decide +kernel
theorem dX7_followHigh_33 : decode cX7_followHigh 33 = .ok (.goto 79, 3) := by decide +kernel
theorem dX7_followHigh_36 : decode cX7_followHigh 36 = .ok (.iload_n 3, 1) := by decide +kernel
theorem dX7_followHigh_37 : decode cX7_followHigh 37 = .ok (.aload_n 0, 1) := by decide +kernel
theorem dX7_followHigh_38 : decode cX7_followHigh 38 = .ok (.getfield 22, 3) := by decide +kernel
theorem dX7_followHigh_41 : decode cX7_followHigh 41 = .ok (.if_icmp .ge 29, 3) := by decide +kernel
theorem dX7_followHigh_44 : decode cX7_followHigh 44 = .ok (.aload_n 0, 1) := by decide +kernel
theorem dX7_followHigh_45 : decode cX7_followHigh 45 = .ok (.iconst 1, 1) := by decide +kernel
theorem dX7_followHigh_46 : decode cX7_followHigh 46 = .ok (.putfield 19, 3) := by decide +kernel
theorem dX7_followHigh_49 : decode cX7_followHigh 49 = .ok (.aload_n 0, 1) := by decide +kernel
theorem dX7_followHigh_50 : decode cX7_followHigh 50 = .ok (.iload 4, 2) := by decide +kernel
theorem dX7_followHigh_52 : decode cX7_followHigh 52 = .ok (.aload_n 0, 1) := by decide +kernel
theorem dX7_followHigh_53 : decode cX7_followHigh 53 = .ok (.getfield 35, 3) := by decide +kernel
theorem dX7_followHigh_56 : decode cX7_followHigh 56 = .ok (.if_icmp .lt 7, 3) := by decide +kernel
theorem dX7_followHigh_59 : decode cX7_followHigh 59 = .ok (.iconst 1, 1) := by decide +kernel
theorem dX7_followHigh_60 : decode cX7_followHigh 60 = .ok (.goto 4, 3) := by decide +kernel
theorem dX7_followHigh_63 : decode cX7_followHigh 63 = .ok (.iconst 0, 1) := by decide +kernel
theorem dX7_followHigh_64 : decode cX7_followHigh 64 = .ok (.putfield 31, 3) := by decide +kernel
theorem dX7_followHigh_67 : decode cX7_followHigh 67 = .ok (.goto 45, 3) := by decide +kernel
theorem dX7_followHigh_70 : decode cX7_followHigh 70 = .ok (.aload_n 0, 1) := by decide +kernel
theorem dX7_followHigh_71 : decode cX7_followHigh 71 = .ok (.getfield 19, 3) := by decide +kernel
theorem dX7_followHigh_74 : decode cX7_followHigh 74 = .ok (.ifCond .le 38, 3) := by decide +kernel
theorem dX7_followHigh_77 : decode cX7_followHigh 77 = .ok (.aload_n 0, 1) := by decide +kernel
theorem dX7_followHigh_78 : decode cX7_followHigh 78 = .ok (.dup, 1) := by decide +kernel
theorem dX7_followHigh_79 : decode cX7_followHigh 79 = .ok (.getfield 19, 3) := by decide +kernel
theorem dX7_followHigh_82 : decode cX7_followHigh 82 = .ok (.iconst 1, 1) := by decide +kernel
theorem dX7_followHigh_83 : decode cX7_followHigh 83 = .ok (.iadd, 1) := by decide +kernel
theorem dX7_followHigh_84 : decode cX7_followHigh 84 = .ok (.putfield 19, 3) := by decide +kernel
theorem dX7_followHigh_87 : decode cX7_followHigh 87 = .ok (.aload_n 0, 1) := by decide +kernel
theorem dX7_followHigh_88 : decode cX7_followHigh 88 = .ok (.aload_n 0, 1) := by decide +kernel
theorem dX7_followHigh_89 : decode cX7_followHigh 89 = .ok (.getfield 31, 3) := by decide +kernel
theorem dX7_followHigh_92 : decode cX7_followHigh 92 = .ok (.ifCond .ne 12, 3) := by decide +kernel
theorem dX7_followHigh_95 : decode cX7_followHigh 95 = .ok (.iload 4, 2) := by decide +kernel
theorem dX7_followHigh_97 : decode cX7_followHigh 97 = .ok (.aload_n 0, 1) := by decide +kernel
theorem dX7_followHigh_98 : decode cX7_followHigh 98 = .ok (.getfield 35, 3) := by decide +kernel
theorem dX7_followHigh_101 : decode cX7_followHigh 101 = .ok (.if_icmp .lt 7, 3) := by decide +kernel
theorem dX7_followHigh_104 : decode cX7_followHigh 104 = .ok (.iconst 1, 1) := by decide +kernel
theorem dX7_followHigh_105 : decode cX7_followHigh 105 = .ok (.goto 4, 3) := by decide +kernel
theorem dX7_followHigh_108 : decode cX7_followHigh 108 = .ok (.iconst 0, 1) := by decide +kernel
theorem dX7_followHigh_109 : decode cX7_followHigh 109 = .ok (.putfield 31, 3) := by decide +kernel
theorem dX7_followHigh_112 : decode cX7_followHigh 112 = .ok (.return_, 1) := by decide +kernel
theorem dX8_init_0 : decode cX8_init 0 = .ok (.aload_n 0, 1) := by decide +kernel
theorem dX8_init_1 : decode cX8_init 1 = .ok (.invokespecial 3, 3) := by decide +kernel
theorem dX8_init_4 : decode cX8_init 4 = .ok (.aload_n 0, 1) := by decide +kernel
theorem dX8_init_5 : decode cX8_init 5 = .ok (.bipush 8, 2) := by decide +kernel
theorem dX8_init_7 : decode cX8_init 7 = .ok (.anewarray 9, 3) := by decide +kernel
theorem dX8_init_10 : decode cX8_init 10 = .ok (.putfield 11, 3) := by decide +kernel
theorem dX8_init_13 : decode cX8_init 13 = .ok (.iconst 0, 1) := by decide +kernel
theorem dX8_init_14 : decode cX8_init 14 = .ok (.istore_n 1, 1) := by decide +kernel
theorem dX8_init_15 : decode cX8_init 15 = .ok (.iload_n 1, 1) := by decide +kernel
theorem dX8_init_16 : decode cX8_init 16 = .ok (.bipush 8, 2) := by decide +kernel
theorem dX8_init_18 : decode cX8_init 18 = .ok (.if_icmp .ge 22, 3) := by decide +kernel
theorem dX8_init_21 : decode cX8_init 21 = .ok (.aload_n 0, 1) := by decide +kernel
theorem dX8_init_22 : decode cX8_init 22 = .ok (.getfield 11, 3) := by decide +kernel
theorem dX8_init_25 : decode cX8_init 25 = .ok (.iload_n 1, 1) := by decide +kernel
theorem dX8_init_26 : decode cX8_init 26 = .ok (.new 9, 3) := by decide +kernel
theorem dX8_init_29 : decode cX8_init 29 = .ok (.dup, 1) := by decide +kernel
theorem dX8_init_30 : decode cX8_init 30 = .ok (.invokespecial 17, 3) := by decide +kernel
theorem dX8_init_33 : decode cX8_init 33 = .ok (.aastore, 1) := by decide +kernel
theorem dX8_init_34 : decode cX8_init 34 = .ok (.iinc 1 1, 3) := by decide +kernel
theorem dX8_init_37 : decode cX8_init 37 = .ok (.goto (-22), 3) := by decide +kernel
theorem dX8_init_40 : decode cX8_init 40 = .ok (.return_, 1) := by decide +kernel
theorem dX8_isFull_0 : decode cX8_isFull 0 = .ok (.aload_n 0, 1) := by decide +kernel
theorem dX8_isFull_1 : decode cX8_isFull 1 = .ok (.getfield 18, 3) := by decide +kernel
theorem dX8_isFull_4 : decode cX8_isFull 4 = .ok (.bipush 8, 2) := by decide +kernel
theorem dX8_isFull_6 : decode cX8_isFull 6 = .ok (.if_icmp .lt 7, 3) := by decide +kernel
theorem dX8_isFull_9 : decode cX8_isFull 9 = .ok (.iconst 1, 1) := by decide +kernel
theorem dX8_isFull_10 : decode cX8_isFull 10 = .ok (.goto 4, 3) := by decide +kernel
theorem dX8_isFull_13 : decode cX8_isFull 13 = .ok (.iconst 0, 1) := by decide +kernel
theorem dX8_isFull_14 : decode cX8_isFull 14 = .ok (.ireturn, 1) := by decide +kernel
theorem dX8_has_0 : decode cX8_has 0 = .ok (.iload_n 1, 1) := by decide +kernel
theorem dX8_has_1 : decode cX8_has 1 = .ok (.iconst 0, 1) := by decide +kernel
theorem dX8_has_2 : decode cX8_has 2 = .ok (.aload_n 0, 1) := by decide +kernel
theorem dX8_has_3 : decode cX8_has 3 = .ok (.getfield 18, 3) := by decide +kernel
theorem dX8_has_6 : decode cX8_has 6 = .ok (.iconst 1, 1) := by decide +kernel
theorem dX8_has_7 : decode cX8_has 7 = .ok (.isub, 1) := by decide +kernel
theorem dX8_has_8 : decode cX8_has 8 = .ok (.invokestatic 22, 3) := by decide +kernel
theorem dX8_has_11 : decode cX8_has 11 = .ok (.ireturn, 1) := by decide +kernel
theorem dX8_get_0 : decode cX8_get 0 = .ok (.aload_n 0, 1) := by decide +kernel
theorem dX8_get_1 : decode cX8_get 1 = .ok (.getfield 11, 3) := by decide +kernel
theorem dX8_get_4 : decode cX8_get 4 = .ok (.aload_n 0, 1) := by decide +kernel
theorem dX8_get_5 : decode cX8_get 5 = .ok (.iload_n 1, 1) := by decide +kernel
theorem dX8_get_6 : decode cX8_get 6 = .ok (.invokevirtual 26, 3) := by decide +kernel
theorem dX8_get_9 : decode cX8_get 9 = .ok (.ifCond .eq 7, 3) := by decide +kernel
theorem dX8_get_12 : decode cX8_get 12 = .ok (.iload_n 1, 1) := by decide +kernel
theorem dX8_get_13 : decode cX8_get 13 = .ok (.goto 4, 3) := by decide +kernel
theorem dX8_get_16 : decode cX8_get 16 = .ok (.iconst 0, 1) := by decide +kernel
theorem dX8_get_17 : decode cX8_get 17 = .ok (.aaload, 1) := by decide +kernel
theorem dX8_get_18 : decode cX8_get 18 = .ok (.areturn, 1) := by decide +kernel
theorem dX8_add_0 : decode cX8_add 0 = .ok (.aload_n 0, 1) := by decide +kernel
theorem dX8_add_1 : decode cX8_add 1 = .ok (.invokevirtual 30, 3) := by decide +kernel
theorem dX8_add_4 : decode cX8_add 4 = .ok (.ifCond .ne 30, 3) := by decide +kernel
theorem dX8_add_7 : decode cX8_add 7 = .ok (.aload_n 0, 1) := by decide +kernel
theorem dX8_add_8 : decode cX8_add 8 = .ok (.getfield 11, 3) := by decide +kernel
theorem dX8_add_11 : decode cX8_add 11 = .ok (.aload_n 0, 1) := by decide +kernel
theorem dX8_add_12 : decode cX8_add 12 = .ok (.getfield 18, 3) := by decide +kernel
theorem dX8_add_15 : decode cX8_add 15 = .ok (.aaload, 1) := by decide +kernel
theorem dX8_add_16 : decode cX8_add 16 = .ok (.aload_n 1, 1) := by decide +kernel
theorem dX8_add_17 : decode cX8_add 17 = .ok (.iload_n 2, 1) := by decide +kernel
theorem dX8_add_18 : decode cX8_add 18 = .ok (.iload_n 3, 1) := by decide +kernel
theorem dX8_add_19 : decode cX8_add 19 = .ok (.iload 4, 2) := by decide +kernel
theorem dX8_add_21 : decode cX8_add 21 = .ok (.invokevirtual 34, 3) := by decide +kernel
theorem dX8_add_24 : decode cX8_add 24 = .ok (.aload_n 0, 1) := by decide +kernel
theorem dX8_add_25 : decode cX8_add 25 = .ok (.dup, 1) := by decide +kernel
theorem dX8_add_26 : decode cX8_add 26 = .ok (.getfield 18, 3) := by decide +kernel
theorem dX8_add_29 : decode cX8_add 29 = .ok (.iconst 1, 1) := by decide +kernel
theorem dX8_add_30 : decode cX8_add 30 = .ok (.iadd, 1) := by decide +kernel
theorem dX8_add_31 : decode cX8_add 31 = .ok (.putfield 18, 3) := by decide +kernel
theorem dX8_add_34 : decode cX8_add 34 = .ok (.return_, 1) := by decide +kernel
theorem dX8_removeLatest_0 : decode cX8_removeLatest 0 = .ok (.aload_n 0, 1) := by decide +kernel
theorem dX8_removeLatest_1 : decode cX8_removeLatest 1 = .ok (.getfield 18, 3) := by decide +kernel
theorem dX8_removeLatest_4 : decode cX8_removeLatest 4 = .ok (.ifCond .ne 5, 3) := by decide +kernel
theorem dX8_removeLatest_7 : decode cX8_removeLatest 7 = .ok (.iconst 0, 1) := by decide +kernel
theorem dX8_removeLatest_8 : decode cX8_removeLatest 8 = .ok (.ireturn, 1) := by decide +kernel
theorem dX8_removeLatest_9 : decode cX8_removeLatest 9 = .ok (.aload_n 0, 1) := by decide +kernel
theorem dX8_removeLatest_10 : decode cX8_removeLatest 10 = .ok (.dup, 1) := by decide +kernel
theorem dX8_removeLatest_11 : decode cX8_removeLatest 11 = .ok (.getfield 18, 3) := by decide +kernel
theorem dX8_removeLatest_14 : decode cX8_removeLatest 14 = .ok (.iconst 1, 1) := by decide +kernel
theorem dX8_removeLatest_15 : decode cX8_removeLatest 15 = .ok (.isub, 1) := by decide +kernel
theorem dX8_removeLatest_16 : decode cX8_removeLatest 16 = .ok (.putfield 18, 3) := by decide +kernel
theorem dX8_removeLatest_19 : decode cX8_removeLatest 19 = .ok (.iconst 1, 1) := by decide +kernel
theorem dX8_removeLatest_20 : decode cX8_removeLatest 20 = .ok (.ireturn, 1) := by decide +kernel
theorem dX9_init_0 : decode cX9_init 0 = .ok (.aload_n 0, 1) := by decide +kernel
theorem dX9_init_1 : decode cX9_init 1 = .ok (.invokespecial 3, 3) := by decide +kernel
theorem dX9_init_4 : decode cX9_init 4 = .ok (.aload_n 0, 1) := by decide +kernel
theorem dX9_init_5 : decode cX9_init 5 = .ok (.sipush 200, 3) := by decide +kernel
theorem dX9_init_8 : decode cX9_init 8 = .ok (.newarray .byte, 2) := by decide +kernel
theorem dX9_init_10 : decode cX9_init 10 = .ok (.putfield 9, 3) := by decide +kernel
theorem dX9_init_13 : decode cX9_init 13 = .ok (.aload_n 0, 1) := by decide +kernel
theorem dX9_init_14 : decode cX9_init 14 = .ok (.sipush 201, 3) := by decide +kernel
theorem dX9_init_17 : decode cX9_init 17 = .ok (.newarray .int, 2) := by decide +kernel
theorem dX9_init_19 : decode cX9_init 19 = .ok (.putfield 15, 3) := by decide +kernel
theorem dX9_init_22 : decode cX9_init 22 = .ok (.aload_n 0, 1) := by decide +kernel
theorem dX9_init_23 : decode cX9_init 23 = .ok (.sipush 201, 3) := by decide +kernel
theorem dX9_init_26 : decode cX9_init 26 = .ok (.newarray .int, 2) := by decide +kernel
theorem dX9_init_28 : decode cX9_init 28 = .ok (.putfield 19, 3) := by decide +kernel
theorem dX9_init_31 : decode cX9_init 31 = .ok (.aload_n 0, 1) := by decide +kernel
theorem dX9_init_32 : decode cX9_init 32 = .ok (.sipush 201, 3) := by decide +kernel
theorem dX9_init_35 : decode cX9_init 35 = .ok (.newarray .int, 2) := by decide +kernel
theorem dX9_init_37 : decode cX9_init 37 = .ok (.putfield 22, 3) := by decide +kernel
theorem dX9_init_40 : decode cX9_init 40 = .ok (.return_, 1) := by decide +kernel
theorem dX9_append_0 : decode cX9_append 0 = .ok (.aload_n 0, 1) := by decide +kernel
theorem dX9_append_1 : decode cX9_append 1 = .ok (.getfield 25, 3) := by decide +kernel
theorem dX9_append_4 : decode cX9_append 4 = .ok (.sipush 192, 3) := by decide +kernel
theorem dX9_append_7 : decode cX9_append 7 = .ok (.if_icmp .le 5, 3) := by decide +kernel
theorem dX9_append_10 : decode cX9_append 10 = .ok (.iconst 0, 1) := by decide +kernel
theorem dX9_append_11 : decode cX9_append 11 = .ok (.ireturn, 1) := by decide +kernel
theorem dX9_append_12 : decode cX9_append 12 = .ok (.bipush 56, 2) := by decide +kernel
theorem dX9_append_14 : decode cX9_append 14 = .ok (.istore_n 3, 1) := by decide +kernel
theorem dX9_append_15 : decode cX9_append 15 = .ok (.iload_n 3, 1) := by decide +kernel
theorem dX9_append_16 : decode cX9_append 16 = .ok (.ifCond .lt 33, 3) := by decide +kernel
theorem dX9_append_19 : decode cX9_append 19 = .ok (.aload_n 0, 1) := by decide +kernel
theorem dX9_append_20 : decode cX9_append 20 = .ok (.getfield 9, 3) := by decide +kernel
theorem dX9_append_23 : decode cX9_append 23 = .ok (.aload_n 0, 1) := by decide +kernel
theorem dX9_append_24 : decode cX9_append 24 = .ok (.getfield 25, 3) := by decide +kernel
theorem dX9_append_27 : decode cX9_append 27 = .ok (.lload_n 1, 1) := by decide +kernel
theorem dX9_append_28 : decode cX9_append 28 = .ok (.iload_n 3, 1) := by decide +kernel
theorem dX9_append_29 : decode cX9_append 29 = .ok (.lshr, 1) := by decide +kernel
theorem dX9_append_30 : decode cX9_append 30 = .ok (.l2i, 1) := by decide +kernel
theorem dX9_append_31 : decode cX9_append 31 = .ok (.i2b, 1) := by decide +kernel
theorem dX9_append_32 : decode cX9_append 32 = .ok (.bastore, 1) := by decide +kernel
theorem dX9_append_33 : decode cX9_append 33 = .ok (.aload_n 0, 1) := by decide +kernel
theorem dX9_append_34 : decode cX9_append 34 = .ok (.dup, 1) := by decide +kernel
theorem dX9_append_35 : decode cX9_append 35 = .ok (.getfield 25, 3) := by decide +kernel
theorem dX9_append_38 : decode cX9_append 38 = .ok (.iconst 1, 1) := by decide +kernel
theorem dX9_append_39 : decode cX9_append 39 = .ok (.iadd, 1) := by decide +kernel
theorem dX9_append_40 : decode cX9_append 40 = .ok (.putfield 25, 3) := by decide +kernel
theorem dX9_append_43 : decode cX9_append 43 = .ok (.iinc 3 (-8), 3) := by decide +kernel
theorem dX9_append_46 : decode cX9_append 46 = .ok (.goto (-31), 3) := by decide +kernel
theorem dX9_append_49 : decode cX9_append 49 = .ok (.iconst 1, 1) := by decide +kernel
theorem dX9_append_50 : decode cX9_append 50 = .ok (.ireturn, 1) := by decide +kernel
theorem dX9_cutTo_0 : decode cX9_cutTo 0 = .ok (.iload_n 1, 1) := by decide +kernel
theorem dX9_cutTo_1 : decode cX9_cutTo 1 = .ok (.iconst 0, 1) := by decide +kernel
theorem dX9_cutTo_2 : decode cX9_cutTo 2 = .ok (.aload_n 0, 1) := by decide +kernel
theorem dX9_cutTo_3 : decode cX9_cutTo 3 = .ok (.getfield 25, 3) := by decide +kernel
theorem dX9_cutTo_6 : decode cX9_cutTo 6 = .ok (.invokestatic 29, 3) := by decide +kernel
theorem dX9_cutTo_9 : decode cX9_cutTo 9 = .ok (.ifCond .ne 5, 3) := by decide +kernel
theorem dX9_cutTo_12 : decode cX9_cutTo 12 = .ok (.iconst 0, 1) := by decide +kernel
theorem dX9_cutTo_13 : decode cX9_cutTo 13 = .ok (.ireturn, 1) := by decide +kernel
theorem dX9_cutTo_14 : decode cX9_cutTo 14 = .ok (.aload_n 0, 1) := by decide +kernel
theorem dX9_cutTo_15 : decode cX9_cutTo 15 = .ok (.iload_n 1, 1) := by decide +kernel
theorem dX9_cutTo_16 : decode cX9_cutTo 16 = .ok (.putfield 25, 3) := by decide +kernel
theorem dX9_cutTo_19 : decode cX9_cutTo 19 = .ok (.iconst 1, 1) := by decide +kernel
theorem dX9_cutTo_20 : decode cX9_cutTo 20 = .ok (.ireturn, 1) := by decide +kernel
theorem dX9_split_0 : decode cX9_split 0 = .ok (.aload_n 0, 1) := by decide +kernel
theorem dX9_split_1 : decode cX9_split 1 = .ok (.iconst 0, 1) := by decide +kernel
theorem dX9_split_2 : decode cX9_split 2 = .ok (.putfield 33, 3) := by decide +kernel
theorem dX9_split_5 : decode cX9_split 5 = .ok (.iconst 0, 1) := by decide +kernel
theorem dX9_split_6 : decode cX9_split 6 = .ok (.istore_n 1, 1) := by decide +kernel
theorem dX9_split_7 : decode cX9_split 7 = .ok (.iload_n 1, 1) := by decide +kernel
theorem dX9_split_8 : decode cX9_split 8 = .ok (.aload_n 0, 1) := by decide +kernel
theorem dX9_split_9 : decode cX9_split 9 = .ok (.getfield 25, 3) := by decide +kernel
theorem dX9_split_12 : decode cX9_split 12 = .ok (.if_icmp .ge 35, 3) := by decide +kernel
theorem dX9_split_15 : decode cX9_split 15 = .ok (.aload_n 0, 1) := by decide +kernel
theorem dX9_split_16 : decode cX9_split 16 = .ok (.getfield 9, 3) := by decide +kernel
theorem dX9_split_19 : decode cX9_split 19 = .ok (.iload_n 1, 1) := by decide +kernel
theorem dX9_split_20 : decode cX9_split 20 = .ok (.baload, 1) := by decide +kernel
theorem dX9_split_21 : decode cX9_split 21 = .ok (.bipush 32, 2) := by decide +kernel
theorem dX9_split_23 : decode cX9_split 23 = .ok (.if_icmp .ne 7, 3) := by decide +kernel
theorem dX9_split_26 : decode cX9_split 26 = .ok (.iload_n 1, 1) := by decide +kernel
theorem dX9_split_27 : decode cX9_split 27 = .ok (.goto 8, 3) := by decide +kernel
theorem dX9_split_30 : decode cX9_split 30 = .ok (.aload_n 0, 1) := by decide +kernel
theorem dX9_split_31 : decode cX9_split 31 = .ok (.iload_n 1, 1) := by decide +kernel
theorem dX9_split_32 : decode cX9_split 32 = .ok (.invokevirtual 36, 3) := by decide +kernel
theorem dX9_split_35 : decode cX9_split 35 = .ok (.istore_n 2, 1) := by decide +kernel
theorem dX9_split_36 : decode cX9_split 36 = .ok (.iload_n 2, 1) := by decide +kernel
theorem dX9_split_37 : decode cX9_split 37 = .ok (.iload_n 1, 1) := by decide +kernel
theorem dX9_split_38 : decode cX9_split 38 = .ok (.iconst 1, 1) := by decide +kernel
theorem dX9_split_39 : decode cX9_split 39 = .ok (.iadd, 1) := by decide +kernel
theorem dX9_split_40 : decode cX9_split 40 = .ok (.invokestatic 40, 3) := by decide +kernel
theorem dX9_split_43 : decode cX9_split 43 = .ok (.istore_n 1, 1) := by decide +kernel
theorem dX9_split_44 : decode cX9_split 44 = .ok (.goto (-37), 3) := by decide +kernel
theorem dX9_split_47 : decode cX9_split 47 = .ok (.aload_n 0, 1) := by decide +kernel
theorem dX9_split_48 : decode cX9_split 48 = .ok (.iconst 0, 1) := by decide +kernel
theorem dX9_split_49 : decode cX9_split 49 = .ok (.aload_n 0, 1) := by decide +kernel
theorem dX9_split_50 : decode cX9_split 50 = .ok (.getfield 25, 3) := by decide +kernel
theorem dX9_split_53 : decode cX9_split 53 = .ok (.iconst 0, 1) := by decide +kernel
theorem dX9_split_54 : decode cX9_split 54 = .ok (.invokevirtual 46, 3) := by decide +kernel
theorem dX9_split_57 : decode cX9_split 57 = .ok (.return_, 1) := by decide +kernel
theorem dX9_put_0 : decode cX9_put 0 = .ok (.aload_n 0, 1) := by decide +kernel
theorem dX9_put_1 : decode cX9_put 1 = .ok (.getfield 33, 3) := by decide +kernel
theorem dX9_put_4 : decode cX9_put 4 = .ok (.aload_n 0, 1) := by decide +kernel
theorem dX9_put_5 : decode cX9_put 5 = .ok (.getfield 15, 3) := by decide +kernel
theorem dX9_put_8 : decode cX9_put 8 = .ok (.arraylength, 1) := by decide +kernel
theorem dX9_put_9 : decode cX9_put 9 = .ok (.if_icmp .ge 43, 3) := by decide +kernel
theorem dX9_put_12 : decode cX9_put 12 = .ok (.aload_n 0, 1) := by decide +kernel
theorem dX9_put_13 : decode cX9_put 13 = .ok (.getfield 15, 3) := by decide +kernel
theorem dX9_put_16 : decode cX9_put 16 = .ok (.aload_n 0, 1) := by decide +kernel
theorem dX9_put_17 : decode cX9_put 17 = .ok (.getfield 33, 3) := by decide +kernel
theorem dX9_put_20 : decode cX9_put 20 = .ok (.iload_n 1, 1) := by decide +kernel
theorem dX9_put_21 : decode cX9_put 21 = .ok (.iastore, 1) := by decide +kernel
theorem dX9_put_22 : decode cX9_put 22 = .ok (.aload_n 0, 1) := by decide +kernel
theorem dX9_put_23 : decode cX9_put 23 = .ok (.getfield 19, 3) := by decide +kernel
theorem dX9_put_26 : decode cX9_put 26 = .ok (.aload_n 0, 1) := by decide +kernel
theorem dX9_put_27 : decode cX9_put 27 = .ok (.getfield 33, 3) := by decide +kernel
theorem dX9_put_30 : decode cX9_put 30 = .ok (.iload_n 2, 1) := by decide +kernel
theorem dX9_put_31 : decode cX9_put 31 = .ok (.iastore, 1) := by decide +kernel
theorem dX9_put_32 : decode cX9_put 32 = .ok (.aload_n 0, 1) := by decide +kernel
theorem dX9_put_33 : decode cX9_put 33 = .ok (.getfield 22, 3) := by decide +kernel
theorem dX9_put_36 : decode cX9_put 36 = .ok (.aload_n 0, 1) := by decide +kernel
theorem dX9_put_37 : decode cX9_put 37 = .ok (.getfield 33, 3) := by decide +kernel
theorem dX9_put_40 : decode cX9_put 40 = .ok (.iload_n 3, 1) := by decide +kernel
theorem dX9_put_41 : decode cX9_put 41 = .ok (.iastore, 1) := by decide +kernel
theorem dX9_put_42 : decode cX9_put 42 = .ok (.aload_n 0, 1) := by decide +kernel
theorem dX9_put_43 : decode cX9_put 43 = .ok (.dup, 1) := by decide +kernel
theorem dX9_put_44 : decode cX9_put 44 = .ok (.getfield 33, 3) := by decide +kernel
theorem dX9_put_47 : decode cX9_put 47 = .ok (.iconst 1, 1) := by decide +kernel
theorem dX9_put_48 : decode cX9_put 48 = .ok (.iadd, 1) := by decide +kernel
theorem dX9_put_49 : decode cX9_put 49 = .ok (.putfield 33, 3) := by decide +kernel
theorem dX9_put_52 : decode cX9_put 52 = .ok (.return_, 1) := by decide +kernel
theorem dX9_addToken_0 : decode cX9_addToken 0 = .ok (.aload_n 0, 1) := by decide +kernel
theorem dX9_addToken_1 : decode cX9_addToken 1 = .ok (.getfield 9, 3) := by decide +kernel
theorem dX9_addToken_4 : decode cX9_addToken 4 = .ok (.iload_n 1, 1) := by decide +kernel
theorem dX9_addToken_5 : decode cX9_addToken 5 = .ok (.baload, 1) := by decide +kernel
theorem dX9_addToken_6 : decode cX9_addToken 6 = .ok (.istore_n 2, 1) := by decide +kernel
theorem dX9_addToken_7 : decode cX9_addToken 7 = .ok (.iload_n 2, 1) := by decide +kernel
theorem dX9_addToken_8 : decode cX9_addToken 8 = .ok (.bipush 42, 2) := by decide +kernel
theorem dX9_addToken_10 : decode cX9_addToken 10 = .ok (.if_icmp .eq 9, 3) := by decide +kernel
theorem dX9_addToken_13 : decode cX9_addToken 13 = .ok (.iload_n 2, 1) := by decide +kernel
theorem dX9_addToken_14 : decode cX9_addToken 14 = .ok (.bipush 59, 2) := by decide +kernel
theorem dX9_addToken_16 : decode cX9_addToken 16 = .ok (.if_icmp .ne 24, 3) := by decide +kernel
theorem dX9_addToken_19 : decode cX9_addToken 19 = .ok (.aload_n 0, 1) := by decide +kernel
theorem dX9_addToken_20 : decode cX9_addToken 20 = .ok (.iload_n 2, 1) := by decide +kernel
theorem dX9_addToken_21 : decode cX9_addToken 21 = .ok (.bipush 42, 2) := by decide +kernel
theorem dX9_addToken_23 : decode cX9_addToken 23 = .ok (.if_icmp .ne 7, 3) := by decide +kernel
theorem dX9_addToken_26 : decode cX9_addToken 26 = .ok (.iconst 3, 1) := by decide +kernel
theorem dX9_addToken_27 : decode cX9_addToken 27 = .ok (.goto 4, 3) := by decide +kernel
theorem dX9_addToken_30 : decode cX9_addToken 30 = .ok (.iconst 4, 1) := by decide +kernel
theorem dX9_addToken_31 : decode cX9_addToken 31 = .ok (.iload_n 1, 1) := by decide +kernel
theorem dX9_addToken_32 : decode cX9_addToken 32 = .ok (.iconst 0, 1) := by decide +kernel
theorem dX9_addToken_33 : decode cX9_addToken 33 = .ok (.invokevirtual 46, 3) := by decide +kernel
theorem dX9_addToken_36 : decode cX9_addToken 36 = .ok (.iload_n 1, 1) := by decide +kernel
theorem dX9_addToken_37 : decode cX9_addToken 37 = .ok (.iconst 1, 1) := by decide +kernel
theorem dX9_addToken_38 : decode cX9_addToken 38 = .ok (.iadd, 1) := by decide +kernel
theorem dX9_addToken_39 : decode cX9_addToken 39 = .ok (.ireturn, 1) := by decide +kernel
theorem dX9_addToken_40 : decode cX9_addToken 40 = .ok (.iload_n 2, 1) := by decide +kernel
theorem dX9_addToken_41 : decode cX9_addToken 41 = .ok (.bipush 97, 2) := by decide +kernel
theorem dX9_addToken_43 : decode cX9_addToken 43 = .ok (.bipush 122, 2) := by decide +kernel
theorem dX9_addToken_45 : decode cX9_addToken 45 = .ok (.invokestatic 29, 3) := by decide +kernel
theorem dX9_addToken_48 : decode cX9_addToken 48 = .ok (.ifCond .eq 11, 3) := by decide +kernel
theorem dX9_addToken_51 : decode cX9_addToken 51 = .ok (.aload_n 0, 1) := by decide +kernel
theorem dX9_addToken_52 : decode cX9_addToken 52 = .ok (.iload_n 1, 1) := by decide +kernel
theorem dX9_addToken_53 : decode cX9_addToken 53 = .ok (.invokevirtual 50, 3) := by decide +kernel
theorem dX9_addToken_56 : decode cX9_addToken 56 = .ok (.goto 8, 3) := by decide +kernel
theorem dX9_addToken_59 : decode cX9_addToken 59 = .ok (.aload_n 0, 1) := by decide +kernel
theorem dX9_addToken_60 : decode cX9_addToken 60 = .ok (.iload_n 1, 1) := by decide +kernel
theorem dX9_addToken_61 : decode cX9_addToken 61 = .ok (.invokevirtual 53, 3) := by decide +kernel
theorem dX9_addToken_64 : decode cX9_addToken 64 = .ok (.ireturn, 1) := by decide +kernel
theorem dX9_addWord_0 : decode cX9_addWord 0 = .ok (.iload_n 1, 1) := by decide +kernel
theorem dX9_addWord_1 : decode cX9_addWord 1 = .ok (.istore_n 2, 1) := by decide +kernel
theorem dX9_addWord_2 : decode cX9_addWord 2 = .ok (.iload_n 2, 1) := by decide +kernel
theorem dX9_addWord_3 : decode cX9_addWord 3 = .ok (.aload_n 0, 1) := by decide +kernel
theorem dX9_addWord_4 : decode cX9_addWord 4 = .ok (.getfield 25, 3) := by decide +kernel
theorem dX9_addWord_7 : decode cX9_addWord 7 = .ok (.if_icmp .ge 25, 3) := by decide +kernel
theorem dX9_addWord_10 : decode cX9_addWord 10 = .ok (.aload_n 0, 1) := by decide +kernel
theorem dX9_addWord_11 : decode cX9_addWord 11 = .ok (.getfield 9, 3) := by decide +kernel
theorem dX9_addWord_14 : decode cX9_addWord 14 = .ok (.iload_n 2, 1) := by decide +kernel
theorem dX9_addWord_15 : decode cX9_addWord 15 = .ok (.baload, 1) := by decide +kernel
theorem dX9_addWord_16 : decode cX9_addWord 16 = .ok (.bipush 97, 2) := by decide +kernel
theorem dX9_addWord_18 : decode cX9_addWord 18 = .ok (.bipush 122, 2) := by decide +kernel
theorem dX9_addWord_20 : decode cX9_addWord 20 = .ok (.invokestatic 29, 3) := by decide +kernel
theorem dX9_addWord_23 : decode cX9_addWord 23 = .ok (.ifCond .eq 9, 3) := by decide +kernel
theorem dX9_addWord_26 : decode cX9_addWord 26 = .ok (.iinc 2 1, 3) := by decide +kernel
theorem dX9_addWord_29 : decode cX9_addWord 29 = .ok (.goto (-27), 3) := by decide +kernel
theorem dX9_addWord_32 : decode cX9_addWord 32 = .ok (.aload_n 0, 1) := by decide +kernel
theorem dX9_addWord_33 : decode cX9_addWord 33 = .ok (.iload_n 1, 1) := by decide +kernel
theorem dX9_addWord_34 : decode cX9_addWord 34 = .ok (.iload_n 2, 1) := by decide +kernel
theorem dX9_addWord_35 : decode cX9_addWord 35 = .ok (.invokevirtual 56, 3) := by decide +kernel
theorem dX9_addWord_38 : decode cX9_addWord 38 = .ok (.istore_n 3, 1) := by decide +kernel
theorem dX9_addWord_39 : decode cX9_addWord 39 = .ok (.aload_n 0, 1) := by decide +kernel
theorem dX9_addWord_40 : decode cX9_addWord 40 = .ok (.iload_n 3, 1) := by decide +kernel
theorem dX9_addWord_41 : decode cX9_addWord 41 = .ok (.bipush 9, 2) := by decide +kernel
theorem dX9_addWord_43 : decode cX9_addWord 43 = .ok (.if_icmp .ne 7, 3) := by decide +kernel
theorem dX9_addWord_46 : decode cX9_addWord 46 = .ok (.iconst 5, 1) := by decide +kernel
theorem dX9_addWord_47 : decode cX9_addWord 47 = .ok (.goto 4, 3) := by decide +kernel
theorem dX9_addWord_50 : decode cX9_addWord 50 = .ok (.iconst 1, 1) := by decide +kernel
theorem dX9_addWord_51 : decode cX9_addWord 51 = .ok (.iload_n 1, 1) := by decide +kernel
theorem dX9_addWord_52 : decode cX9_addWord 52 = .ok (.iload_n 3, 1) := by decide +kernel
theorem dX9_addWord_53 : decode cX9_addWord 53 = .ok (.invokevirtual 46, 3) := by decide +kernel
theorem dX9_addWord_56 : decode cX9_addWord 56 = .ok (.iload_n 2, 1) := by decide +kernel
theorem dX9_addWord_57 : decode cX9_addWord 57 = .ok (.ireturn, 1) := by decide +kernel
theorem dX9_addNumber_0 : decode cX9_addNumber 0 = .ok (.aload_n 0, 1) := by decide +kernel
theorem dX9_addNumber_1 : decode cX9_addNumber 1 = .ok (.getfield 9, 3) := by decide +kernel
theorem dX9_addNumber_4 : decode cX9_addNumber 4 = .ok (.iload_n 1, 1) := by decide +kernel
theorem dX9_addNumber_5 : decode cX9_addNumber 5 = .ok (.baload, 1) := by decide +kernel
theorem dX9_addNumber_6 : decode cX9_addNumber 6 = .ok (.bipush 45, 2) := by decide +kernel
theorem dX9_addNumber_8 : decode cX9_addNumber 8 = .ok (.if_icmp .ne 7, 3) := by decide +kernel
theorem dX9_addNumber_11 : decode cX9_addNumber 11 = .ok (.iconst 1, 1) := by decide +kernel
theorem dX9_addNumber_12 : decode cX9_addNumber 12 = .ok (.goto 4, 3) := by decide +kernel
theorem dX9_addNumber_15 : decode cX9_addNumber 15 = .ok (.iconst 0, 1) := by decide +kernel
theorem dX9_addNumber_16 : decode cX9_addNumber 16 = .ok (.istore_n 2, 1) := by decide +kernel
theorem dX9_addNumber_17 : decode cX9_addNumber 17 = .ok (.iload_n 2, 1) := by decide +kernel
theorem dX9_addNumber_18 : decode cX9_addNumber 18 = .ok (.ifCond .eq 9, 3) := by decide +kernel
theorem dX9_addNumber_21 : decode cX9_addNumber 21 = .ok (.iload_n 1, 1) := by decide +kernel
theorem dX9_addNumber_22 : decode cX9_addNumber 22 = .ok (.iconst 1, 1) := by decide +kernel
theorem dX9_addNumber_23 : decode cX9_addNumber 23 = .ok (.iadd, 1) := by decide +kernel
theorem dX9_addNumber_24 : decode cX9_addNumber 24 = .ok (.goto 4, 3) := by decide +kernel
theorem dX9_addNumber_27 : decode cX9_addNumber 27 = .ok (.iload_n 1, 1) := by decide +kernel
theorem dX9_addNumber_28 : decode cX9_addNumber 28 = .ok (.istore_n 3, 1) := by decide +kernel
theorem dX9_addNumber_29 : decode cX9_addNumber 29 = .ok (.iload_n 3, 1) := by decide +kernel
theorem dX9_addNumber_30 : decode cX9_addNumber 30 = .ok (.istore 4, 2) := by decide +kernel
theorem dX9_addNumber_32 : decode cX9_addNumber 32 = .ok (.iconst 0, 1) := by decide +kernel
theorem dX9_addNumber_33 : decode cX9_addNumber 33 = .ok (.istore 5, 2) := by decide +kernel
theorem dX9_addNumber_35 : decode cX9_addNumber 35 = .ok (.iload 4, 2) := by decide +kernel
theorem dX9_addNumber_37 : decode cX9_addNumber 37 = .ok (.aload_n 0, 1) := by decide +kernel
theorem dX9_addNumber_38 : decode cX9_addNumber 38 = .ok (.getfield 25, 3) := by decide +kernel
theorem dX9_addNumber_41 : decode cX9_addNumber 41 = .ok (.if_icmp .ge 44, 3) := by decide +kernel
theorem dX9_addNumber_44 : decode cX9_addNumber 44 = .ok (.aload_n 0, 1) := by decide +kernel
theorem dX9_addNumber_45 : decode cX9_addNumber 45 = .ok (.getfield 9, 3) := by decide +kernel
theorem dX9_addNumber_48 : decode cX9_addNumber 48 = .ok (.iload 4, 2) := by decide +kernel
theorem dX9_addNumber_50 : decode cX9_addNumber 50 = .ok (.baload, 1) := by decide +kernel
theorem dX9_addNumber_51 : decode cX9_addNumber 51 = .ok (.bipush 48, 2) := by decide +kernel
theorem dX9_addNumber_53 : decode cX9_addNumber 53 = .ok (.bipush 57, 2) := by decide +kernel
theorem dX9_addNumber_55 : decode cX9_addNumber 55 = .ok (.invokestatic 29, 3) := by decide +kernel
theorem dX9_addNumber_58 : decode cX9_addNumber 58 = .ok (.ifCond .eq 27, 3) := by decide +kernel
theorem dX9_addNumber_61 : decode cX9_addNumber 61 = .ok (.bipush 10, 2) := by decide +kernel
theorem dX9_addNumber_63 : decode cX9_addNumber 63 = .ok (.iload 5, 2) := by decide +kernel
theorem dX9_addNumber_65 : decode cX9_addNumber 65 = .ok (.imul, 1) := by decide +kernel
theorem dX9_addNumber_66 : decode cX9_addNumber 66 = .ok (.aload_n 0, 1) := by decide +kernel
theorem dX9_addNumber_67 : decode cX9_addNumber 67 = .ok (.getfield 9, 3) := by decide +kernel
theorem dX9_addNumber_70 : decode cX9_addNumber 70 = .ok (.iload 4, 2) := by decide +kernel
theorem dX9_addNumber_72 : decode cX9_addNumber 72 = .ok (.baload, 1) := by decide +kernel
theorem dX9_addNumber_73 : decode cX9_addNumber 73 = .ok (.iadd, 1) := by decide +kernel
theorem dX9_addNumber_74 : decode cX9_addNumber 74 = .ok (.bipush 48, 2) := by decide +kernel
theorem dX9_addNumber_76 : decode cX9_addNumber 76 = .ok (.isub, 1) := by decide +kernel
theorem dX9_addNumber_77 : decode cX9_addNumber 77 = .ok (.istore 5, 2) := by decide +kernel
theorem dX9_addNumber_79 : decode cX9_addNumber 79 = .ok (.iinc 4 1, 3) := by decide +kernel
theorem dX9_addNumber_82 : decode cX9_addNumber 82 = .ok (.goto (-47), 3) := by decide +kernel
theorem dX9_addNumber_85 : decode cX9_addNumber 85 = .ok (.iload 4, 2) := by decide +kernel
theorem dX9_addNumber_87 : decode cX9_addNumber 87 = .ok (.iload_n 3, 1) := by decide +kernel
theorem dX9_addNumber_88 : decode cX9_addNumber 88 = .ok (.isub, 1) := by decide +kernel
theorem dX9_addNumber_89 : decode cX9_addNumber 89 = .ok (.iconst 1, 1) := by decide +kernel
theorem dX9_addNumber_90 : decode cX9_addNumber 90 = .ok (.iconst 3, 1) := by decide +kernel
theorem dX9_addNumber_91 : decode cX9_addNumber 91 = .ok (.invokestatic 29, 3) := by decide +kernel
theorem dX9_addNumber_94 : decode cX9_addNumber 94 = .ok (.istore 6, 2) := by decide +kernel
theorem dX9_addNumber_96 : decode cX9_addNumber 96 = .ok (.aload_n 0, 1) := by decide +kernel
theorem dX9_addNumber_97 : decode cX9_addNumber 97 = .ok (.iload 6, 2) := by decide +kernel
theorem dX9_addNumber_99 : decode cX9_addNumber 99 = .ok (.ifCond .eq 7, 3) := by decide +kernel
theorem dX9_addNumber_102 : decode cX9_addNumber 102 = .ok (.iconst 2, 1) := by decide +kernel
theorem dX9_addNumber_103 : decode cX9_addNumber 103 = .ok (.goto 4, 3) := by decide +kernel
theorem dX9_addNumber_106 : decode cX9_addNumber 106 = .ok (.iconst 5, 1) := by decide +kernel
theorem dX9_addNumber_107 : decode cX9_addNumber 107 = .ok (.iload_n 1, 1) := by decide +kernel
theorem dX9_addNumber_108 : decode cX9_addNumber 108 = .ok (.iload_n 2, 1) := by decide +kernel
theorem dX9_addNumber_109 : decode cX9_addNumber 109 = .ok (.ifCond .eq 9, 3) := by decide +kernel
theorem dX9_addNumber_112 : decode cX9_addNumber 112 = .ok (.iload 5, 2) := by decide +kernel
theorem dX9_addNumber_114 : decode cX9_addNumber 114 = .ok (.ineg, 1) := by decide +kernel
theorem dX9_addNumber_115 : decode cX9_addNumber 115 = .ok (.goto 5, 3) := by decide +kernel
theorem dX9_addNumber_118 : decode cX9_addNumber 118 = .ok (.iload 5, 2) := by decide +kernel
theorem dX9_addNumber_120 : decode cX9_addNumber 120 = .ok (.invokevirtual 46, 3) := by decide +kernel
theorem dX9_addNumber_123 : decode cX9_addNumber 123 = .ok (.iload 4, 2) := by decide +kernel
theorem dX9_addNumber_125 : decode cX9_addNumber 125 = .ok (.ireturn, 1) := by decide +kernel
theorem dX9_wordOf_0 : decode cX9_wordOf 0 = .ok (.aload_n 0, 1) := by decide +kernel
theorem dX9_wordOf_1 : decode cX9_wordOf 1 = .ok (.iload_n 1, 1) := by decide +kernel
theorem dX9_wordOf_2 : decode cX9_wordOf 2 = .ok (.iload_n 2, 1) := by decide +kernel
theorem dX9_wordOf_3 : decode cX9_wordOf 3 = .ok (.ldc 59, 2) := by decide +kernel
theorem dX9_wordOf_5 : decode cX9_wordOf 5 = .ok (.invokevirtual 61, 3) := by decide +kernel
theorem dX9_wordOf_8 : decode cX9_wordOf 8 = .ok (.ifCond .eq 5, 3) := by decide +kernel
theorem dX9_wordOf_11 : decode cX9_wordOf 11 = .ok (.iconst 0, 1) := by decide +kernel
theorem dX9_wordOf_12 : decode cX9_wordOf 12 = .ok (.ireturn, 1) := by decide +kernel
theorem dX9_wordOf_13 : decode cX9_wordOf 13 = .ok (.aload_n 0, 1) := by decide +kernel
theorem dX9_wordOf_14 : decode cX9_wordOf 14 = .ok (.iload_n 1, 1) := by decide +kernel
theorem dX9_wordOf_15 : decode cX9_wordOf 15 = .ok (.iload_n 2, 1) := by decide +kernel
theorem dX9_wordOf_16 : decode cX9_wordOf 16 = .ok (.ldc 65, 2) := by decide +kernel
theorem dX9_wordOf_18 : decode cX9_wordOf 18 = .ok (.invokevirtual 61, 3) := by decide +kernel
theorem dX9_wordOf_21 : decode cX9_wordOf 21 = .ok (.ifCond .eq 5, 3) := by decide +kernel
theorem dX9_wordOf_24 : decode cX9_wordOf 24 = .ok (.iconst 1, 1) := by decide +kernel
theorem dX9_wordOf_25 : decode cX9_wordOf 25 = .ok (.ireturn, 1) := by decide +kernel
theorem dX9_wordOf_26 : decode cX9_wordOf 26 = .ok (.aload_n 0, 1) := by decide +kernel
theorem dX9_wordOf_27 : decode cX9_wordOf 27 = .ok (.iload_n 1, 1) := by decide +kernel
theorem dX9_wordOf_28 : decode cX9_wordOf 28 = .ok (.iload_n 2, 1) := by decide +kernel
theorem dX9_wordOf_29 : decode cX9_wordOf 29 = .ok (.ldc 67, 2) := by decide +kernel
theorem dX9_wordOf_31 : decode cX9_wordOf 31 = .ok (.invokevirtual 61, 3) := by decide +kernel
theorem dX9_wordOf_34 : decode cX9_wordOf 34 = .ok (.ifCond .eq 5, 3) := by decide +kernel
theorem dX9_wordOf_37 : decode cX9_wordOf 37 = .ok (.iconst 2, 1) := by decide +kernel
theorem dX9_wordOf_38 : decode cX9_wordOf 38 = .ok (.ireturn, 1) := by decide +kernel
theorem dX9_wordOf_39 : decode cX9_wordOf 39 = .ok (.aload_n 0, 1) := by decide +kernel
theorem dX9_wordOf_40 : decode cX9_wordOf 40 = .ok (.iload_n 1, 1) := by decide +kernel
theorem dX9_wordOf_41 : decode cX9_wordOf 41 = .ok (.iload_n 2, 1) := by decide +kernel
theorem dX9_wordOf_42 : decode cX9_wordOf 42 = .ok (.ldc 69, 2) := by decide +kernel
theorem dX9_wordOf_44 : decode cX9_wordOf 44 = .ok (.invokevirtual 61, 3) := by decide +kernel
theorem dX9_wordOf_47 : decode cX9_wordOf 47 = .ok (.ifCond .eq 5, 3) := by decide +kernel
theorem dX9_wordOf_50 : decode cX9_wordOf 50 = .ok (.iconst 3, 1) := by decide +kernel
theorem dX9_wordOf_51 : decode cX9_wordOf 51 = .ok (.ireturn, 1) := by decide +kernel
theorem dX9_wordOf_52 : decode cX9_wordOf 52 = .ok (.aload_n 0, 1) := by decide +kernel
theorem dX9_wordOf_53 : decode cX9_wordOf 53 = .ok (.iload_n 1, 1) := by decide +kernel
theorem dX9_wordOf_54 : decode cX9_wordOf 54 = .ok (.iload_n 2, 1) := by decide +kernel
theorem dX9_wordOf_55 : decode cX9_wordOf 55 = .ok (.ldc 71, 2) := by decide +kernel
theorem dX9_wordOf_57 : decode cX9_wordOf 57 = .ok (.invokevirtual 61, 3) := by decide +kernel
theorem dX9_wordOf_60 : decode cX9_wordOf 60 = .ok (.ifCond .eq 5, 3) := by decide +kernel
theorem dX9_wordOf_63 : decode cX9_wordOf 63 = .ok (.iconst 4, 1) := by decide +kernel
theorem dX9_wordOf_64 : decode cX9_wordOf 64 = .ok (.ireturn, 1) := by decide +kernel
theorem dX9_wordOf_65 : decode cX9_wordOf 65 = .ok (.aload_n 0, 1) := by decide +kernel
theorem dX9_wordOf_66 : decode cX9_wordOf 66 = .ok (.iload_n 1, 1) := by decide +kernel
theorem dX9_wordOf_67 : decode cX9_wordOf 67 = .ok (.iload_n 2, 1) := by decide +kernel
theorem dX9_wordOf_68 : decode cX9_wordOf 68 = .ok (.ldc 73, 2) := by decide +kernel
theorem dX9_wordOf_70 : decode cX9_wordOf 70 = .ok (.invokevirtual 61, 3) := by decide +kernel
theorem dX9_wordOf_73 : decode cX9_wordOf 73 = .ok (.ifCond .eq 5, 3) := by decide +kernel
theorem dX9_wordOf_76 : decode cX9_wordOf 76 = .ok (.iconst 5, 1) := by decide +kernel
theorem dX9_wordOf_77 : decode cX9_wordOf 77 = .ok (.ireturn, 1) := by decide +kernel
theorem dX9_wordOf_78 : decode cX9_wordOf 78 = .ok (.aload_n 0, 1) := by decide +kernel
theorem dX9_wordOf_79 : decode cX9_wordOf 79 = .ok (.iload_n 1, 1) := by decide +kernel
theorem dX9_wordOf_80 : decode cX9_wordOf 80 = .ok (.iload_n 2, 1) := by decide +kernel
theorem dX9_wordOf_81 : decode cX9_wordOf 81 = .ok (.ldc 75, 2) := by decide +kernel
theorem dX9_wordOf_83 : decode cX9_wordOf 83 = .ok (.invokevirtual 61, 3) := by decide +kernel
theorem dX9_wordOf_86 : decode cX9_wordOf 86 = .ok (.ifCond .eq 6, 3) := by decide +kernel
theorem dX9_wordOf_89 : decode cX9_wordOf 89 = .ok (.bipush 6, 2) := by decide +kernel
theorem dX9_wordOf_91 : decode cX9_wordOf 91 = .ok (.ireturn, 1) := by decide +kernel
theorem dX9_wordOf_92 : decode cX9_wordOf 92 = .ok (.aload_n 0, 1) := by decide +kernel
theorem dX9_wordOf_93 : decode cX9_wordOf 93 = .ok (.iload_n 1, 1) := by decide +kernel
theorem dX9_wordOf_94 : decode cX9_wordOf 94 = .ok (.iload_n 2, 1) := by decide +kernel
theorem dX9_wordOf_95 : decode cX9_wordOf 95 = .ok (.ldc 77, 2) := by decide +kernel
theorem dX9_wordOf_97 : decode cX9_wordOf 97 = .ok (.invokevirtual 61, 3) := by decide +kernel
theorem dX9_wordOf_100 : decode cX9_wordOf 100 = .ok (.ifCond .eq 6, 3) := by decide +kernel
theorem dX9_wordOf_103 : decode cX9_wordOf 103 = .ok (.bipush 7, 2) := by decide +kernel
theorem dX9_wordOf_105 : decode cX9_wordOf 105 = .ok (.ireturn, 1) := by decide +kernel
theorem dX9_wordOf_106 : decode cX9_wordOf 106 = .ok (.aload_n 0, 1) := by decide +kernel
theorem dX9_wordOf_107 : decode cX9_wordOf 107 = .ok (.iload_n 1, 1) := by decide +kernel
theorem dX9_wordOf_108 : decode cX9_wordOf 108 = .ok (.iload_n 2, 1) := by decide +kernel
theorem dX9_wordOf_109 : decode cX9_wordOf 109 = .ok (.ldc 79, 2) := by decide +kernel
theorem dX9_wordOf_111 : decode cX9_wordOf 111 = .ok (.invokevirtual 61, 3) := by decide +kernel
theorem dX9_wordOf_114 : decode cX9_wordOf 114 = .ok (.ifCond .eq 6, 3) := by decide +kernel
theorem dX9_wordOf_117 : decode cX9_wordOf 117 = .ok (.bipush 8, 2) := by decide +kernel
theorem dX9_wordOf_119 : decode cX9_wordOf 119 = .ok (.ireturn, 1) := by decide +kernel
theorem dX9_wordOf_120 : decode cX9_wordOf 120 = .ok (.bipush 9, 2) := by decide +kernel
theorem dX9_wordOf_122 : decode cX9_wordOf 122 = .ok (.ireturn, 1) := by decide +kernel
theorem dX9_spells_0 : decode cX9_spells 0 = .ok (.iload_n 1, 1) := by decide +kernel
theorem dX9_spells_1 : decode cX9_spells 1 = .ok (.ifCond .lt 21, 3) := by decide +kernel
theorem dX9_spells_4 : decode cX9_spells 4 = .ok (.iload_n 2, 1) := by decide +kernel
theorem dX9_spells_5 : decode cX9_spells 5 = .ok (.aload_n 0, 1) := by decide +kernel
theorem dX9_spells_6 : decode cX9_spells 6 = .ok (.getfield 25, 3) := by decide +kernel
theorem dX9_spells_9 : decode cX9_spells 9 = .ok (.if_icmp .gt 13, 3) := by decide +kernel
theorem dX9_spells_12 : decode cX9_spells 12 = .ok (.iload_n 2, 1) := by decide +kernel
theorem dX9_spells_13 : decode cX9_spells 13 = .ok (.iload_n 1, 1) := by decide +kernel
theorem dX9_spells_14 : decode cX9_spells 14 = .ok (.isub, 1) := by decide +kernel
theorem dX9_spells_15 : decode cX9_spells 15 = .ok (.aload_n 3, 1) := by decide +kernel
theorem dX9_spells_16 : decode cX9_spells 16 = .ok (.invokevirtual 81, 3) := by decide +kernel
theorem dX9_spells_19 : decode cX9_spells 19 = .ok (.if_icmp .eq 5, 3) := by decide +kernel
theorem dX9_spells_22 : decode cX9_spells 22 = .ok (.iconst 0, 1) := by decide +kernel
theorem dX9_spells_23 : decode cX9_spells 23 = .ok (.ireturn, 1) := by decide +kernel
theorem dX9_spells_24 : decode cX9_spells 24 = .ok (.iconst 0, 1) := by decide +kernel
theorem dX9_spells_25 : decode cX9_spells 25 = .ok (.istore 4, 2) := by decide +kernel
theorem dX9_spells_27 : decode cX9_spells 27 = .ok (.iload 4, 2) := by decide +kernel
theorem dX9_spells_29 : decode cX9_spells 29 = .ok (.aload_n 3, 1) := by decide +kernel
theorem dX9_spells_30 : decode cX9_spells 30 = .ok (.invokevirtual 81, 3) := by decide +kernel
theorem dX9_spells_33 : decode cX9_spells 33 = .ok (.if_icmp .ge 29, 3) := by decide +kernel
theorem dX9_spells_36 : decode cX9_spells 36 = .ok (.aload_n 0, 1) := by decide +kernel
theorem dX9_spells_37 : decode cX9_spells 37 = .ok (.getfield 9, 3) := by decide +kernel
theorem dX9_spells_40 : decode cX9_spells 40 = .ok (.iload_n 1, 1) := by decide +kernel
theorem dX9_spells_41 : decode cX9_spells 41 = .ok (.iload 4, 2) := by decide +kernel
theorem dX9_spells_43 : decode cX9_spells 43 = .ok (.iadd, 1) := by decide +kernel
theorem dX9_spells_44 : decode cX9_spells 44 = .ok (.baload, 1) := by decide +kernel
theorem dX9_spells_45 : decode cX9_spells 45 = .ok (.aload_n 3, 1) := by decide +kernel
theorem dX9_spells_46 : decode cX9_spells 46 = .ok (.iload 4, 2) := by decide +kernel
theorem dX9_spells_48 : decode cX9_spells 48 = .ok (.invokevirtual 86, 3) := by decide +kernel
theorem dX9_spells_51 : decode cX9_spells 51 = .ok (.if_icmp .eq 5, 3) := by decide +kernel
theorem dX9_spells_54 : decode cX9_spells 54 = .ok (.iconst 0, 1) := by decide +kernel
theorem dX9_spells_55 : decode cX9_spells 55 = .ok (.ireturn, 1) := by decide +kernel
theorem dX9_spells_56 : decode cX9_spells 56 = .ok (.iinc 4 1, 3) := by decide +kernel
theorem dX9_spells_59 : decode cX9_spells 59 = .ok (.goto (-32), 3) := by decide +kernel
theorem dX9_spells_62 : decode cX9_spells 62 = .ok (.iconst 1, 1) := by decide +kernel
theorem dX9_spells_63 : decode cX9_spells 63 = .ok (.ireturn, 1) := by decide +kernel
theorem dX10_init_0 : decode cX10_init 0 = .ok (.aload_n 0, 1) := by decide +kernel
theorem dX10_init_1 : decode cX10_init 1 = .ok (.invokespecial 3, 3) := by decide +kernel
theorem dX10_init_4 : decode cX10_init 4 = .ok (.aload_n 0, 1) := by decide +kernel
theorem dX10_init_5 : decode cX10_init 5 = .ok (.bipush 20, 2) := by decide +kernel
theorem dX10_init_7 : decode cX10_init 7 = .ok (.newarray .int, 2) := by decide +kernel
theorem dX10_init_9 : decode cX10_init 9 = .ok (.putfield 9, 3) := by decide +kernel
theorem dX10_init_12 : decode cX10_init 12 = .ok (.aload_n 0, 1) := by decide +kernel
theorem dX10_init_13 : decode cX10_init 13 = .ok (.bipush 20, 2) := by decide +kernel
theorem dX10_init_15 : decode cX10_init 15 = .ok (.newarray .int, 2) := by decide +kernel
theorem dX10_init_17 : decode cX10_init 17 = .ok (.putfield 15, 3) := by decide +kernel
theorem dX10_init_20 : decode cX10_init 20 = .ok (.aload_n 0, 1) := by decide +kernel
theorem dX10_init_21 : decode cX10_init 21 = .ok (.bipush (-4), 2) := by decide +kernel
theorem dX10_init_23 : decode cX10_init 23 = .ok (.putfield 18, 3) := by decide +kernel
theorem dX10_init_26 : decode cX10_init 26 = .ok (.return_, 1) := by decide +kernel
theorem dX10_has_0 : decode cX10_has 0 = .ok (.iload_n 1, 1) := by decide +kernel
theorem dX10_has_1 : decode cX10_has 1 = .ok (.iconst 0, 1) := by decide +kernel
theorem dX10_has_2 : decode cX10_has 2 = .ok (.aload_n 0, 1) := by decide +kernel
theorem dX10_has_3 : decode cX10_has 3 = .ok (.getfield 22, 3) := by decide +kernel
theorem dX10_has_6 : decode cX10_has 6 = .ok (.iconst 1, 1) := by decide +kernel
theorem dX10_has_7 : decode cX10_has 7 = .ok (.isub, 1) := by decide +kernel
theorem dX10_has_8 : decode cX10_has 8 = .ok (.invokestatic 25, 3) := by decide +kernel
theorem dX10_has_11 : decode cX10_has 11 = .ok (.ireturn, 1) := by decide +kernel
theorem dX10_clear_0 : decode cX10_clear 0 = .ok (.aload_n 0, 1) := by decide +kernel
theorem dX10_clear_1 : decode cX10_clear 1 = .ok (.iconst 0, 1) := by decide +kernel
theorem dX10_clear_2 : decode cX10_clear 2 = .ok (.putfield 22, 3) := by decide +kernel
theorem dX10_clear_5 : decode cX10_clear 5 = .ok (.aload_n 0, 1) := by decide +kernel
theorem dX10_clear_6 : decode cX10_clear 6 = .ok (.bipush (-4), 2) := by decide +kernel
theorem dX10_clear_8 : decode cX10_clear 8 = .ok (.putfield 18, 3) := by decide +kernel
theorem dX10_clear_11 : decode cX10_clear 11 = .ok (.aload_n 0, 1) := by decide +kernel
theorem dX10_clear_12 : decode cX10_clear 12 = .ok (.iconst 0, 1) := by decide +kernel
theorem dX10_clear_13 : decode cX10_clear 13 = .ok (.putfield 29, 3) := by decide +kernel
theorem dX10_clear_16 : decode cX10_clear 16 = .ok (.aload_n 0, 1) := by decide +kernel
theorem dX10_clear_17 : decode cX10_clear 17 = .ok (.iconst 0, 1) := by decide +kernel
theorem dX10_clear_18 : decode cX10_clear 18 = .ok (.putfield 33, 3) := by decide +kernel
theorem dX10_clear_21 : decode cX10_clear 21 = .ok (.return_, 1) := by decide +kernel
theorem dX10_add_0 : decode cX10_add 0 = .ok (.aload_n 0, 1) := by decide +kernel
theorem dX10_add_1 : decode cX10_add 1 = .ok (.getfield 22, 3) := by decide +kernel
theorem dX10_add_4 : decode cX10_add 4 = .ok (.bipush 20, 2) := by decide +kernel
theorem dX10_add_6 : decode cX10_add 6 = .ok (.if_icmp .ge 33, 3) := by decide +kernel
theorem dX10_add_9 : decode cX10_add 9 = .ok (.aload_n 0, 1) := by decide +kernel
theorem dX10_add_10 : decode cX10_add 10 = .ok (.getfield 9, 3) := by decide +kernel
theorem dX10_add_13 : decode cX10_add 13 = .ok (.aload_n 0, 1) := by decide +kernel
theorem dX10_add_14 : decode cX10_add 14 = .ok (.getfield 22, 3) := by decide +kernel
theorem dX10_add_17 : decode cX10_add 17 = .ok (.iload_n 1, 1) := by decide +kernel
theorem dX10_add_18 : decode cX10_add 18 = .ok (.iastore, 1) := by decide +kernel
theorem dX10_add_19 : decode cX10_add 19 = .ok (.aload_n 0, 1) := by decide +kernel
theorem dX10_add_20 : decode cX10_add 20 = .ok (.getfield 15, 3) := by decide +kernel
theorem dX10_add_23 : decode cX10_add 23 = .ok (.aload_n 0, 1) := by decide +kernel
theorem dX10_add_24 : decode cX10_add 24 = .ok (.getfield 22, 3) := by decide +kernel
theorem dX10_add_27 : decode cX10_add 27 = .ok (.iload_n 2, 1) := by decide +kernel
theorem dX10_add_28 : decode cX10_add 28 = .ok (.iastore, 1) := by decide +kernel
theorem dX10_add_29 : decode cX10_add 29 = .ok (.aload_n 0, 1) := by decide +kernel
theorem dX10_add_30 : decode cX10_add 30 = .ok (.dup, 1) := by decide +kernel
theorem dX10_add_31 : decode cX10_add 31 = .ok (.getfield 22, 3) := by decide +kernel
theorem dX10_add_34 : decode cX10_add 34 = .ok (.iconst 1, 1) := by decide +kernel
theorem dX10_add_35 : decode cX10_add 35 = .ok (.iadd, 1) := by decide +kernel
theorem dX10_add_36 : decode cX10_add 36 = .ok (.putfield 22, 3) := by decide +kernel
theorem dX10_add_39 : decode cX10_add 39 = .ok (.return_, 1) := by decide +kernel
theorem dX10_readOne_0 : decode cX10_readOne 0 = .ok (.aload_n 0, 1) := by decide +kernel
theorem dX10_readOne_1 : decode cX10_readOne 1 = .ok (.invokevirtual 36, 3) := by decide +kernel
theorem dX10_readOne_4 : decode cX10_readOne 4 = .ok (.iload_n 3, 1) := by decide +kernel
theorem dX10_readOne_5 : decode cX10_readOne 5 = .ok (.iconst 2, 1) := by decide +kernel
theorem dX10_readOne_6 : decode cX10_readOne 6 = .ok (.idiv, 1) := by decide +kernel
theorem dX10_readOne_7 : decode cX10_readOne 7 = .ok (.istore 4, 2) := by decide +kernel
theorem dX10_readOne_9 : decode cX10_readOne 9 = .ok (.iload 4, 2) := by decide +kernel
theorem dX10_readOne_11 : decode cX10_readOne 11 = .ok (.bipush 9, 2) := by decide +kernel
theorem dX10_readOne_13 : decode cX10_readOne 13 = .ok (.iload_n 3, 1) := by decide +kernel
theorem dX10_readOne_14 : decode cX10_readOne 14 = .ok (.imul, 1) := by decide +kernel
theorem dX10_readOne_15 : decode cX10_readOne 15 = .ok (.iadd, 1) := by decide +kernel
theorem dX10_readOne_16 : decode cX10_readOne 16 = .ok (.istore 5, 2) := by decide +kernel
theorem dX10_readOne_18 : decode cX10_readOne 18 = .ok (.iconst 0, 1) := by decide +kernel
theorem dX10_readOne_19 : decode cX10_readOne 19 = .ok (.istore 6, 2) := by decide +kernel
theorem dX10_readOne_21 : decode cX10_readOne 21 = .ok (.iload 6, 2) := by decide +kernel
theorem dX10_readOne_23 : decode cX10_readOne 23 = .ok (.iload 5, 2) := by decide +kernel
theorem dX10_readOne_25 : decode cX10_readOne 25 = .ok (.iadd, 1) := by decide +kernel
theorem dX10_readOne_26 : decode cX10_readOne 26 = .ok (.aload_n 1, 1) := by decide +kernel
theorem dX10_readOne_27 : decode cX10_readOne 27 = .ok (.getfield 39, 3) := by decide +kernel
theorem dX10_readOne_30 : decode cX10_readOne 30 = .ok (.if_icmp .ge 82, 3) := by decide +kernel
theorem dX10_readOne_33 : decode cX10_readOne 33 = .ok (.aload_n 0, 1) := by decide +kernel
theorem dX10_readOne_34 : decode cX10_readOne 34 = .ok (.getfield 22, 3) := by decide +kernel
theorem dX10_readOne_37 : decode cX10_readOne 37 = .ok (.bipush 20, 2) := by decide +kernel
theorem dX10_readOne_39 : decode cX10_readOne 39 = .ok (.if_icmp .ge 73, 3) := by decide +kernel
theorem dX10_readOne_42 : decode cX10_readOne 42 = .ok (.aload_n 1, 1) := by decide +kernel
theorem dX10_readOne_43 : decode cX10_readOne 43 = .ok (.iload_n 2, 1) := by decide +kernel
theorem dX10_readOne_44 : decode cX10_readOne 44 = .ok (.iload 6, 2) := by decide +kernel
theorem dX10_readOne_46 : decode cX10_readOne 46 = .ok (.iload 4, 2) := by decide +kernel
theorem dX10_readOne_48 : decode cX10_readOne 48 = .ok (.invokestatic 44, 3) := by decide +kernel
theorem dX10_readOne_51 : decode cX10_readOne 51 = .ok (.ifCond .ne 9, 3) := by decide +kernel
theorem dX10_readOne_54 : decode cX10_readOne 54 = .ok (.iinc 6 1, 3) := by decide +kernel
theorem dX10_readOne_57 : decode cX10_readOne 57 = .ok (.goto (-36), 3) := by decide +kernel
theorem dX10_readOne_60 : decode cX10_readOne 60 = .ok (.aload_n 1, 1) := by decide +kernel
theorem dX10_readOne_61 : decode cX10_readOne 61 = .ok (.iload_n 2, 1) := by decide +kernel
theorem dX10_readOne_62 : decode cX10_readOne 62 = .ok (.iload 6, 2) := by decide +kernel
theorem dX10_readOne_64 : decode cX10_readOne 64 = .ok (.iload 5, 2) := by decide +kernel
theorem dX10_readOne_66 : decode cX10_readOne 66 = .ok (.iadd, 1) := by decide +kernel
theorem dX10_readOne_67 : decode cX10_readOne 67 = .ok (.invokevirtual 48, 3) := by decide +kernel
theorem dX10_readOne_70 : decode cX10_readOne 70 = .ok (.ifCond .ne 13, 3) := by decide +kernel
theorem dX10_readOne_73 : decode cX10_readOne 73 = .ok (.aload_n 0, 1) := by decide +kernel
theorem dX10_readOne_74 : decode cX10_readOne 74 = .ok (.iload 6, 2) := by decide +kernel
theorem dX10_readOne_76 : decode cX10_readOne 76 = .ok (.iload 5, 2) := by decide +kernel
theorem dX10_readOne_78 : decode cX10_readOne 78 = .ok (.iadd, 1) := by decide +kernel
theorem dX10_readOne_79 : decode cX10_readOne 79 = .ok (.putfield 18, 3) := by decide +kernel
theorem dX10_readOne_82 : decode cX10_readOne 82 = .ok (.return_, 1) := by decide +kernel
theorem dX10_readOne_83 : decode cX10_readOne 83 = .ok (.aload_n 0, 1) := by decide +kernel
theorem dX10_readOne_84 : decode cX10_readOne 84 = .ok (.aload_n 1, 1) := by decide +kernel
theorem dX10_readOne_85 : decode cX10_readOne 85 = .ok (.iload_n 2, 1) := by decide +kernel
theorem dX10_readOne_86 : decode cX10_readOne 86 = .ok (.iload 6, 2) := by decide +kernel
theorem dX10_readOne_88 : decode cX10_readOne 88 = .ok (.iload 4, 2) := by decide +kernel
theorem dX10_readOne_90 : decode cX10_readOne 90 = .ok (.iadd, 1) := by decide +kernel
theorem dX10_readOne_91 : decode cX10_readOne 91 = .ok (.iload_n 3, 1) := by decide +kernel
theorem dX10_readOne_92 : decode cX10_readOne 92 = .ok (.invokestatic 52, 3) := by decide +kernel
theorem dX10_readOne_95 : decode cX10_readOne 95 = .ok (.iload 6, 2) := by decide +kernel
theorem dX10_readOne_97 : decode cX10_readOne 97 = .ok (.invokevirtual 56, 3) := by decide +kernel
theorem dX10_readOne_100 : decode cX10_readOne 100 = .ok (.iload 6, 2) := by decide +kernel
theorem dX10_readOne_102 : decode cX10_readOne 102 = .ok (.iload 5, 2) := by decide +kernel
theorem dX10_readOne_104 : decode cX10_readOne 104 = .ok (.iconst 1, 1) := by decide +kernel
theorem dX10_readOne_105 : decode cX10_readOne 105 = .ok (.iadd, 1) := by decide +kernel
theorem dX10_readOne_106 : decode cX10_readOne 106 = .ok (.iadd, 1) := by decide +kernel
theorem dX10_readOne_107 : decode cX10_readOne 107 = .ok (.istore 6, 2) := by decide +kernel
theorem dX10_readOne_109 : decode cX10_readOne 109 = .ok (.goto (-88), 3) := by decide +kernel
theorem dX10_readOne_112 : decode cX10_readOne 112 = .ok (.return_, 1) := by decide +kernel
theorem dX10_beginsByte_0 : decode cX10_beginsByte 0 = .ok (.aload_n 0, 1) := by decide +kernel
theorem dX10_beginsByte_1 : decode cX10_beginsByte 1 = .ok (.iload_n 1, 1) := by decide +kernel
theorem dX10_beginsByte_2 : decode cX10_beginsByte 2 = .ok (.iload_n 2, 1) := by decide +kernel
theorem dX10_beginsByte_3 : decode cX10_beginsByte 3 = .ok (.invokevirtual 48, 3) := by decide +kernel
theorem dX10_beginsByte_6 : decode cX10_beginsByte 6 = .ok (.ifCond .ne 22, 3) := by decide +kernel
theorem dX10_beginsByte_9 : decode cX10_beginsByte 9 = .ok (.iload_n 2, 1) := by decide +kernel
theorem dX10_beginsByte_10 : decode cX10_beginsByte 10 = .ok (.ifCond .eq 14, 3) := by decide +kernel
theorem dX10_beginsByte_13 : decode cX10_beginsByte 13 = .ok (.aload_n 0, 1) := by decide +kernel
theorem dX10_beginsByte_14 : decode cX10_beginsByte 14 = .ok (.iload_n 1, 1) := by decide +kernel
theorem dX10_beginsByte_15 : decode cX10_beginsByte 15 = .ok (.iload_n 2, 1) := by decide +kernel
theorem dX10_beginsByte_16 : decode cX10_beginsByte 16 = .ok (.iconst 1, 1) := by decide +kernel
theorem dX10_beginsByte_17 : decode cX10_beginsByte 17 = .ok (.isub, 1) := by decide +kernel
theorem dX10_beginsByte_18 : decode cX10_beginsByte 18 = .ok (.invokevirtual 48, 3) := by decide +kernel
theorem dX10_beginsByte_21 : decode cX10_beginsByte 21 = .ok (.ifCond .eq 7, 3) := by decide +kernel
theorem dX10_beginsByte_24 : decode cX10_beginsByte 24 = .ok (.iconst 1, 1) := by decide +kernel
theorem dX10_beginsByte_25 : decode cX10_beginsByte 25 = .ok (.goto 4, 3) := by decide +kernel
theorem dX10_beginsByte_28 : decode cX10_beginsByte 28 = .ok (.iconst 0, 1) := by decide +kernel
theorem dX10_beginsByte_29 : decode cX10_beginsByte 29 = .ok (.istore 4, 2) := by decide +kernel
theorem dX10_beginsByte_31 : decode cX10_beginsByte 31 = .ok (.iload 4, 2) := by decide +kernel
theorem dX10_beginsByte_33 : decode cX10_beginsByte 33 = .ok (.ifCond .eq 18, 3) := by decide +kernel
theorem dX10_beginsByte_36 : decode cX10_beginsByte 36 = .ok (.aload_n 0, 1) := by decide +kernel
theorem dX10_beginsByte_37 : decode cX10_beginsByte 37 = .ok (.iload_n 1, 1) := by decide +kernel
theorem dX10_beginsByte_38 : decode cX10_beginsByte 38 = .ok (.iload_n 2, 1) := by decide +kernel
theorem dX10_beginsByte_39 : decode cX10_beginsByte 39 = .ok (.iload_n 3, 1) := by decide +kernel
theorem dX10_beginsByte_40 : decode cX10_beginsByte 40 = .ok (.iadd, 1) := by decide +kernel
theorem dX10_beginsByte_41 : decode cX10_beginsByte 41 = .ok (.invokevirtual 48, 3) := by decide +kernel
theorem dX10_beginsByte_44 : decode cX10_beginsByte 44 = .ok (.ifCond .ne 7, 3) := by decide +kernel
theorem dX10_beginsByte_47 : decode cX10_beginsByte 47 = .ok (.iconst 1, 1) := by decide +kernel
theorem dX10_beginsByte_48 : decode cX10_beginsByte 48 = .ok (.goto 4, 3) := by decide +kernel
theorem dX10_beginsByte_51 : decode cX10_beginsByte 51 = .ok (.iconst 0, 1) := by decide +kernel
theorem dX10_beginsByte_52 : decode cX10_beginsByte 52 = .ok (.ireturn, 1) := by decide +kernel
theorem dX10_byteBehind_0 : decode cX10_byteBehind 0 = .ok (.iconst 0, 1) := by decide +kernel
theorem dX10_byteBehind_1 : decode cX10_byteBehind 1 = .ok (.istore 4, 2) := by decide +kernel
theorem dX10_byteBehind_3 : decode cX10_byteBehind 3 = .ok (.iconst 0, 1) := by decide +kernel
theorem dX10_byteBehind_4 : decode cX10_byteBehind 4 = .ok (.istore 5, 2) := by decide +kernel
theorem dX10_byteBehind_6 : decode cX10_byteBehind 6 = .ok (.iload 5, 2) := by decide +kernel
theorem dX10_byteBehind_8 : decode cX10_byteBehind 8 = .ok (.bipush 8, 2) := by decide +kernel
theorem dX10_byteBehind_10 : decode cX10_byteBehind 10 = .ok (.if_icmp .ge 34, 3) := by decide +kernel
theorem dX10_byteBehind_13 : decode cX10_byteBehind 13 = .ok (.aload_n 0, 1) := by decide +kernel
theorem dX10_byteBehind_14 : decode cX10_byteBehind 14 = .ok (.iload_n 1, 1) := by decide +kernel
theorem dX10_byteBehind_15 : decode cX10_byteBehind 15 = .ok (.iload_n 2, 1) := by decide +kernel
theorem dX10_byteBehind_16 : decode cX10_byteBehind 16 = .ok (.iload_n 3, 1) := by decide +kernel
theorem dX10_byteBehind_17 : decode cX10_byteBehind 17 = .ok (.iload 5, 2) := by decide +kernel
theorem dX10_byteBehind_19 : decode cX10_byteBehind 19 = .ok (.iconst 1, 1) := by decide +kernel
theorem dX10_byteBehind_20 : decode cX10_byteBehind 20 = .ok (.iadd, 1) := by decide +kernel
theorem dX10_byteBehind_21 : decode cX10_byteBehind 21 = .ok (.imul, 1) := by decide +kernel
theorem dX10_byteBehind_22 : decode cX10_byteBehind 22 = .ok (.iadd, 1) := by decide +kernel
theorem dX10_byteBehind_23 : decode cX10_byteBehind 23 = .ok (.invokevirtual 48, 3) := by decide +kernel
theorem dX10_byteBehind_26 : decode cX10_byteBehind 26 = .ok (.ifCond .eq 12, 3) := by decide +kernel
theorem dX10_byteBehind_29 : decode cX10_byteBehind 29 = .ok (.iload 4, 2) := by decide +kernel
theorem dX10_byteBehind_31 : decode cX10_byteBehind 31 = .ok (.iconst 1, 1) := by decide +kernel
theorem dX10_byteBehind_32 : decode cX10_byteBehind 32 = .ok (.iload 5, 2) := by decide +kernel
theorem dX10_byteBehind_34 : decode cX10_byteBehind 34 = .ok (.ishl, 1) := by decide +kernel
theorem dX10_byteBehind_35 : decode cX10_byteBehind 35 = .ok (.ior, 1) := by decide +kernel
theorem dX10_byteBehind_36 : decode cX10_byteBehind 36 = .ok (.istore 4, 2) := by decide +kernel
theorem dX10_byteBehind_38 : decode cX10_byteBehind 38 = .ok (.iinc 5 1, 3) := by decide +kernel
theorem dX10_byteBehind_41 : decode cX10_byteBehind 41 = .ok (.goto (-35), 3) := by decide +kernel
theorem dX10_byteBehind_44 : decode cX10_byteBehind 44 = .ok (.iload 4, 2) := by decide +kernel
theorem dX10_byteBehind_46 : decode cX10_byteBehind 46 = .ok (.ireturn, 1) := by decide +kernel
theorem dX10_readTwo_0 : decode cX10_readTwo 0 = .ok (.aload_n 0, 1) := by decide +kernel
theorem dX10_readTwo_1 : decode cX10_readTwo 1 = .ok (.invokevirtual 36, 3) := by decide +kernel
theorem dX10_readTwo_4 : decode cX10_readTwo 4 = .ok (.iconst 1, 1) := by decide +kernel
theorem dX10_readTwo_5 : decode cX10_readTwo 5 = .ok (.istore 4, 2) := by decide +kernel
theorem dX10_readTwo_7 : decode cX10_readTwo 7 = .ok (.iload 4, 2) := by decide +kernel
theorem dX10_readTwo_9 : decode cX10_readTwo 9 = .ok (.aload_n 1, 1) := by decide +kernel
theorem dX10_readTwo_10 : decode cX10_readTwo 10 = .ok (.getfield 39, 3) := by decide +kernel
theorem dX10_readTwo_13 : decode cX10_readTwo 13 = .ok (.if_icmp .ge 102, 3) := by decide +kernel
theorem dX10_readTwo_16 : decode cX10_readTwo 16 = .ok (.aload_n 0, 1) := by decide +kernel
theorem dX10_readTwo_17 : decode cX10_readTwo 17 = .ok (.getfield 22, 3) := by decide +kernel
theorem dX10_readTwo_20 : decode cX10_readTwo 20 = .ok (.bipush 20, 2) := by decide +kernel
theorem dX10_readTwo_22 : decode cX10_readTwo 22 = .ok (.if_icmp .ge 93, 3) := by decide +kernel
theorem dX10_readTwo_25 : decode cX10_readTwo 25 = .ok (.aload_n 0, 1) := by decide +kernel
theorem dX10_readTwo_26 : decode cX10_readTwo 26 = .ok (.getfield 18, 3) := by decide +kernel
theorem dX10_readTwo_29 : decode cX10_readTwo 29 = .ok (.bipush (-4), 2) := by decide +kernel
theorem dX10_readTwo_31 : decode cX10_readTwo 31 = .ok (.if_icmp .ne 84, 3) := by decide +kernel
theorem dX10_readTwo_34 : decode cX10_readTwo 34 = .ok (.aload_n 1, 1) := by decide +kernel
theorem dX10_readTwo_35 : decode cX10_readTwo 35 = .ok (.iload_n 3, 1) := by decide +kernel
theorem dX10_readTwo_36 : decode cX10_readTwo 36 = .ok (.iload 4, 2) := by decide +kernel
theorem dX10_readTwo_38 : decode cX10_readTwo 38 = .ok (.invokevirtual 48, 3) := by decide +kernel
theorem dX10_readTwo_41 : decode cX10_readTwo 41 = .ok (.istore 5, 2) := by decide +kernel
theorem dX10_readTwo_43 : decode cX10_readTwo 43 = .ok (.aload_n 1, 1) := by decide +kernel
theorem dX10_readTwo_44 : decode cX10_readTwo 44 = .ok (.iload_n 2, 1) := by decide +kernel
theorem dX10_readTwo_45 : decode cX10_readTwo 45 = .ok (.iload 4, 2) := by decide +kernel
theorem dX10_readTwo_47 : decode cX10_readTwo 47 = .ok (.invokevirtual 48, 3) := by decide +kernel
