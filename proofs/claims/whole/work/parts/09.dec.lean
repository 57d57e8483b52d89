theorem dX0_addClaim_0 : decode cX0_addClaim 0 = .ok (.aload_n 0, 1) := by decide +kernel
theorem dX0_addClaim_1 : decode cX0_addClaim 1 = .ok (.lload_n 1, 1) := by decide +kernel
theorem dX0_addClaim_2 : decode cX0_addClaim 2 = .ok (.iconst 0, 1) := by decide +kernel
theorem dX0_addClaim_3 : decode cX0_addClaim 3 = .ok (.iload_n 3, 1) := by decide +kernel
theorem dX0_addClaim_4 : decode cX0_addClaim 4 = .ok (.iload 4, 2) := by decide +kernel
theorem dX0_addClaim_6 : decode cX0_addClaim 6 = .ok (.iconst (-1), 1) := by decide +kernel
theorem dX0_addClaim_7 : decode cX0_addClaim 7 = .ok (.iconst (-1), 1) := by decide +kernel
theorem dX0_addClaim_8 : decode cX0_addClaim 8 = .ok (.invokevirtual 77, 3) := by decide +kernel
theorem dX0_addClaim_11 : decode cX0_addClaim 11 = .ok (.return_, 1) := by decide +kernel
theorem dX0_addItem_0 : decode cX0_addItem 0 = .ok (.aload_n 0, 1) := by decide +kernel
theorem dX0_addItem_1 : decode cX0_addItem 1 = .ok (.getfield 57, 3) := by decide +kernel
theorem dX0_addItem_4 : decode cX0_addItem 4 = .ok (.ifCond .lt 116, 3) := by decide +kernel
theorem dX0_addItem_7 : decode cX0_addItem 7 = .ok (.aload_n 0, 1) := by decide +kernel
theorem dX0_addItem_8 : decode cX0_addItem 8 = .ok (.getfield 57, 3) := by decide +kernel
theorem dX0_addItem_11 : decode cX0_addItem 11 = .ok (.bipush 40, 2) := by decide +kernel
theorem dX0_addItem_13 : decode cX0_addItem 13 = .ok (.if_icmp .ge 107, 3) := by decide +kernel
theorem dX0_addItem_16 : decode cX0_addItem 16 = .ok (.aload_n 0, 1) := by decide +kernel
theorem dX0_addItem_17 : decode cX0_addItem 17 = .ok (.getfield 19, 3) := by decide +kernel
theorem dX0_addItem_20 : decode cX0_addItem 20 = .ok (.aload_n 0, 1) := by decide +kernel
theorem dX0_addItem_21 : decode cX0_addItem 21 = .ok (.getfield 57, 3) := by decide +kernel
theorem dX0_addItem_24 : decode cX0_addItem 24 = .ok (.lload_n 1, 1) := by decide +kernel
theorem dX0_addItem_25 : decode cX0_addItem 25 = .ok (.lastore, 1) := by decide +kernel
theorem dX0_addItem_26 : decode cX0_addItem 26 = .ok (.aload_n 0, 1) := by decide +kernel
theorem dX0_addItem_27 : decode cX0_addItem 27 = .ok (.getfield 22, 3) := by decide +kernel
theorem dX0_addItem_30 : decode cX0_addItem 30 = .ok (.aload_n 0, 1) := by decide +kernel
theorem dX0_addItem_31 : decode cX0_addItem 31 = .ok (.getfield 57, 3) := by decide +kernel
theorem dX0_addItem_34 : decode cX0_addItem 34 = .ok (.iload_n 3, 1) := by decide +kernel
theorem dX0_addItem_35 : decode cX0_addItem 35 = .ok (.iastore, 1) := by decide +kernel
theorem dX0_addItem_36 : decode cX0_addItem 36 = .ok (.aload_n 0, 1) := by decide +kernel
theorem dX0_addItem_37 : decode cX0_addItem 37 = .ok (.getfield 25, 3) := by decide +kernel
theorem dX0_addItem_40 : decode cX0_addItem 40 = .ok (.aload_n 0, 1) := by decide +kernel
theorem dX0_addItem_41 : decode cX0_addItem 41 = .ok (.getfield 57, 3) := by decide +kernel
theorem dX0_addItem_44 : decode cX0_addItem 44 = .ok (.iload 4, 2) := by decide +kernel
theorem dX0_addItem_46 : decode cX0_addItem 46 = .ok (.iastore, 1) := by decide +kernel
theorem dX0_addItem_47 : decode cX0_addItem 47 = .ok (.aload_n 0, 1) := by decide +kernel
theorem dX0_addItem_48 : decode cX0_addItem 48 = .ok (.getfield 28, 3) := by decide +kernel
theorem dX0_addItem_51 : decode cX0_addItem 51 = .ok (.aload_n 0, 1) := by decide +kernel
theorem dX0_addItem_52 : decode cX0_addItem 52 = .ok (.getfield 57, 3) := by decide +kernel
theorem dX0_addItem_55 : decode cX0_addItem 55 = .ok (.iload 5, 2) := by decide +kernel
theorem dX0_addItem_57 : decode cX0_addItem 57 = .ok (.iastore, 1) := by decide +kernel
theorem dX0_addItem_58 : decode cX0_addItem 58 = .ok (.aload_n 0, 1) := by decide +kernel
theorem dX0_addItem_59 : decode cX0_addItem 59 = .ok (.getfield 31, 3) := by decide +kernel
theorem dX0_addItem_62 : decode cX0_addItem 62 = .ok (.aload_n 0, 1) := by decide +kernel
theorem dX0_addItem_63 : decode cX0_addItem 63 = .ok (.getfield 57, 3) := by decide +kernel
theorem dX0_addItem_66 : decode cX0_addItem 66 = .ok (.iload 6, 2) := by decide +kernel
theorem dX0_addItem_68 : decode cX0_addItem 68 = .ok (.iastore, 1) := by decide +kernel
theorem dX0_addItem_69 : decode cX0_addItem 69 = .ok (.aload_n 0, 1) := by decide +kernel
theorem dX0_addItem_70 : decode cX0_addItem 70 = .ok (.getfield 34, 3) := by decide +kernel
theorem dX0_addItem_73 : decode cX0_addItem 73 = .ok (.aload_n 0, 1) := by decide +kernel
theorem dX0_addItem_74 : decode cX0_addItem 74 = .ok (.getfield 57, 3) := by decide +kernel
theorem dX0_addItem_77 : decode cX0_addItem 77 = .ok (.iload 7, 2) := by decide +kernel
theorem dX0_addItem_79 : decode cX0_addItem 79 = .ok (.iastore, 1) := by decide +kernel
theorem dX0_addItem_80 : decode cX0_addItem 80 = .ok (.aload_n 0, 1) := by decide +kernel
theorem dX0_addItem_81 : decode cX0_addItem 81 = .ok (.getfield 37, 3) := by decide +kernel
theorem dX0_addItem_84 : decode cX0_addItem 84 = .ok (.aload_n 0, 1) := by decide +kernel
theorem dX0_addItem_85 : decode cX0_addItem 85 = .ok (.getfield 57, 3) := by decide +kernel
theorem dX0_addItem_88 : decode cX0_addItem 88 = .ok (.iload_n 3, 1) := by decide +kernel
theorem dX0_addItem_89 : decode cX0_addItem 89 = .ok (.iconst 1, 1) := by decide +kernel
theorem dX0_addItem_90 : decode cX0_addItem 90 = .ok (.if_icmp .ne 18, 3) := by decide +kernel
theorem dX0_addItem_93 : decode cX0_addItem 93 = .ok (.iload 5, 2) := by decide +kernel
theorem dX0_addItem_95 : decode cX0_addItem 95 = .ok (.aload_n 0, 1) := by decide +kernel
theorem dX0_addItem_96 : decode cX0_addItem 96 = .ok (.iload 7, 2) := by decide +kernel
theorem dX0_addItem_98 : decode cX0_addItem 98 = .ok (.invokevirtual 85, 3) := by decide +kernel
theorem dX0_addItem_101 : decode cX0_addItem 101 = .ok (.if_icmp .lt 7, 3) := by decide +kernel
theorem dX0_addItem_104 : decode cX0_addItem 104 = .ok (.iconst 1, 1) := by decide +kernel
theorem dX0_addItem_105 : decode cX0_addItem 105 = .ok (.goto 4, 3) := by decide +kernel
theorem dX0_addItem_108 : decode cX0_addItem 108 = .ok (.iconst 0, 1) := by decide +kernel
theorem dX0_addItem_109 : decode cX0_addItem 109 = .ok (.bastore, 1) := by decide +kernel
theorem dX0_addItem_110 : decode cX0_addItem 110 = .ok (.aload_n 0, 1) := by decide +kernel
theorem dX0_addItem_111 : decode cX0_addItem 111 = .ok (.dup, 1) := by decide +kernel
theorem dX0_addItem_112 : decode cX0_addItem 112 = .ok (.getfield 57, 3) := by decide +kernel
theorem dX0_addItem_115 : decode cX0_addItem 115 = .ok (.iconst 1, 1) := by decide +kernel
theorem dX0_addItem_116 : decode cX0_addItem 116 = .ok (.iadd, 1) := by decide +kernel
theorem dX0_addItem_117 : decode cX0_addItem 117 = .ok (.putfield 57, 3) := by decide +kernel
theorem dX0_addItem_120 : decode cX0_addItem 120 = .ok (.return_, 1) := by decide +kernel
theorem dX0_addMove_0 : decode cX0_addMove 0 = .ok (.aload_n 0, 1) := by decide +kernel
theorem dX0_addMove_1 : decode cX0_addMove 1 = .ok (.lload_n 1, 1) := by decide +kernel
theorem dX0_addMove_2 : decode cX0_addMove 2 = .ok (.iload_n 3, 1) := by decide +kernel
theorem dX0_addMove_3 : decode cX0_addMove 3 = .ok (.aload_n 0, 1) := by decide +kernel
theorem dX0_addMove_4 : decode cX0_addMove 4 = .ok (.iload 4, 2) := by decide +kernel
theorem dX0_addMove_6 : decode cX0_addMove 6 = .ok (.invokevirtual 81, 3) := by decide +kernel
theorem dX0_addMove_9 : decode cX0_addMove 9 = .ok (.iload 6, 2) := by decide +kernel
theorem dX0_addMove_11 : decode cX0_addMove 11 = .ok (.iload 4, 2) := by decide +kernel
theorem dX0_addMove_13 : decode cX0_addMove 13 = .ok (.iload 5, 2) := by decide +kernel
theorem dX0_addMove_15 : decode cX0_addMove 15 = .ok (.invokevirtual 77, 3) := by decide +kernel
theorem dX0_addMove_18 : decode cX0_addMove 18 = .ok (.return_, 1) := by decide +kernel
theorem dX0_addSpeaker_0 : decode cX0_addSpeaker 0 = .ok (.aload_n 0, 1) := by decide +kernel
theorem dX0_addSpeaker_1 : decode cX0_addSpeaker 1 = .ok (.getfield 50, 3) := by decide +kernel
theorem dX0_addSpeaker_4 : decode cX0_addSpeaker 4 = .ok (.ifCond .lt 42, 3) := by decide +kernel
theorem dX0_addSpeaker_7 : decode cX0_addSpeaker 7 = .ok (.aload_n 0, 1) := by decide +kernel
theorem dX0_addSpeaker_8 : decode cX0_addSpeaker 8 = .ok (.getfield 50, 3) := by decide +kernel
theorem dX0_addSpeaker_11 : decode cX0_addSpeaker 11 = .ok (.bipush 6, 2) := by decide +kernel
theorem dX0_addSpeaker_13 : decode cX0_addSpeaker 13 = .ok (.if_icmp .ge 33, 3) := by decide +kernel
theorem dX0_addSpeaker_16 : decode cX0_addSpeaker 16 = .ok (.aload_n 0, 1) := by decide +kernel
theorem dX0_addSpeaker_17 : decode cX0_addSpeaker 17 = .ok (.getfield 9, 3) := by decide +kernel
theorem dX0_addSpeaker_20 : decode cX0_addSpeaker 20 = .ok (.aload_n 0, 1) := by decide +kernel
theorem dX0_addSpeaker_21 : decode cX0_addSpeaker 21 = .ok (.getfield 50, 3) := by decide +kernel
theorem dX0_addSpeaker_24 : decode cX0_addSpeaker 24 = .ok (.lload_n 1, 1) := by decide +kernel
theorem dX0_addSpeaker_25 : decode cX0_addSpeaker 25 = .ok (.lastore, 1) := by decide +kernel
theorem dX0_addSpeaker_26 : decode cX0_addSpeaker 26 = .ok (.aload_n 0, 1) := by decide +kernel
theorem dX0_addSpeaker_27 : decode cX0_addSpeaker 27 = .ok (.getfield 15, 3) := by decide +kernel
theorem dX0_addSpeaker_30 : decode cX0_addSpeaker 30 = .ok (.aload_n 0, 1) := by decide +kernel
theorem dX0_addSpeaker_31 : decode cX0_addSpeaker 31 = .ok (.getfield 50, 3) := by decide +kernel
theorem dX0_addSpeaker_34 : decode cX0_addSpeaker 34 = .ok (.iload_n 3, 1) := by decide +kernel
theorem dX0_addSpeaker_35 : decode cX0_addSpeaker 35 = .ok (.iastore, 1) := by decide +kernel
theorem dX0_addSpeaker_36 : decode cX0_addSpeaker 36 = .ok (.aload_n 0, 1) := by decide +kernel
theorem dX0_addSpeaker_37 : decode cX0_addSpeaker 37 = .ok (.dup, 1) := by decide +kernel
theorem dX0_addSpeaker_38 : decode cX0_addSpeaker 38 = .ok (.getfield 50, 3) := by decide +kernel
theorem dX0_addSpeaker_41 : decode cX0_addSpeaker 41 = .ok (.iconst 1, 1) := by decide +kernel
theorem dX0_addSpeaker_42 : decode cX0_addSpeaker 42 = .ok (.iadd, 1) := by decide +kernel
theorem dX0_addSpeaker_43 : decode cX0_addSpeaker 43 = .ok (.putfield 50, 3) := by decide +kernel
theorem dX0_addSpeaker_46 : decode cX0_addSpeaker 46 = .ok (.return_, 1) := by decide +kernel
theorem dX0_addTime_0 : decode cX0_addTime 0 = .ok (.aload_n 0, 1) := by decide +kernel
theorem dX0_addTime_1 : decode cX0_addTime 1 = .ok (.iload_n 1, 1) := by decide +kernel
theorem dX0_addTime_2 : decode cX0_addTime 2 = .ok (.invokevirtual 70, 3) := by decide +kernel
theorem dX0_addTime_5 : decode cX0_addTime 5 = .ok (.ifCond .eq 13, 3) := by decide +kernel
theorem dX0_addTime_8 : decode cX0_addTime 8 = .ok (.aload_n 0, 1) := by decide +kernel
theorem dX0_addTime_9 : decode cX0_addTime 9 = .ok (.getfield 15, 3) := by decide +kernel
theorem dX0_addTime_12 : decode cX0_addTime 12 = .ok (.iload_n 1, 1) := by decide +kernel
theorem dX0_addTime_13 : decode cX0_addTime 13 = .ok (.dup2, 1) := by decide +kernel
theorem dX0_addTime_14 : decode cX0_addTime 14 = .ok (.iaload, 1) := by decide +kernel
theorem dX0_addTime_15 : decode cX0_addTime 15 = .ok (.iload_n 2, 1) := by decide +kernel
theorem dX0_addTime_16 : decode cX0_addTime 16 = .ok (.iadd, 1) := by decide +kernel
theorem dX0_addTime_17 : decode cX0_addTime 17 = .ok (.iastore, 1) := by decide +kernel
theorem dX0_addTime_18 : decode cX0_addTime 18 = .ok (.return_, 1) := by decide +kernel
theorem dX0_allItems_0 : decode cX0_allItems 0 = .ok (.aload_n 0, 1) := by decide +kernel
theorem dX0_allItems_1 : decode cX0_allItems 1 = .ok (.getfield 57, 3) := by decide +kernel
theorem dX0_allItems_4 : decode cX0_allItems 4 = .ok (.invokestatic 88, 3) := by decide +kernel
theorem dX0_allItems_7 : decode cX0_allItems 7 = .ok (.lconst 1, 1) := by decide +kernel
theorem dX0_allItems_8 : decode cX0_allItems 8 = .ok (.lsub, 1) := by decide +kernel
theorem dX0_allItems_9 : decode cX0_allItems 9 = .ok (.lreturn, 1) := by decide +kernel
theorem dX0_concededItems_0 : decode cX0_concededItems 0 = .ok (.aload_n 0, 1) := by decide +kernel
theorem dX0_concededItems_1 : decode cX0_concededItems 1 = .ok (.getfield 63, 3) := by decide +kernel
theorem dX0_concededItems_4 : decode cX0_concededItems 4 = .ok (.lreturn, 1) := by decide +kernel
theorem dX0_goBack_0 : decode cX0_goBack 0 = .ok (.aload_n 0, 1) := by decide +kernel
theorem dX0_goBack_1 : decode cX0_goBack 1 = .ok (.getfield 41, 3) := by decide +kernel
theorem dX0_goBack_4 : decode cX0_goBack 4 = .ok (.iconst 0, 1) := by decide +kernel
theorem dX0_goBack_5 : decode cX0_goBack 5 = .ok (.aload_n 0, 1) := by decide +kernel
theorem dX0_goBack_6 : decode cX0_goBack 6 = .ok (.getfield 15, 3) := by decide +kernel
theorem dX0_goBack_9 : decode cX0_goBack 9 = .ok (.iconst 0, 1) := by decide +kernel
theorem dX0_goBack_10 : decode cX0_goBack 10 = .ok (.bipush 6, 2) := by decide +kernel
theorem dX0_goBack_12 : decode cX0_goBack 12 = .ok (.invokestatic 44, 3) := by decide +kernel
theorem dX0_goBack_15 : decode cX0_goBack 15 = .ok (.aload_n 0, 1) := by decide +kernel
theorem dX0_goBack_16 : decode cX0_goBack 16 = .ok (.aload_n 0, 1) := by decide +kernel
theorem dX0_goBack_17 : decode cX0_goBack 17 = .ok (.getfield 54, 3) := by decide +kernel
theorem dX0_goBack_20 : decode cX0_goBack 20 = .ok (.putfield 50, 3) := by decide +kernel
theorem dX0_goBack_23 : decode cX0_goBack 23 = .ok (.aload_n 0, 1) := by decide +kernel
theorem dX0_goBack_24 : decode cX0_goBack 24 = .ok (.aload_n 0, 1) := by decide +kernel
theorem dX0_goBack_25 : decode cX0_goBack 25 = .ok (.getfield 60, 3) := by decide +kernel
theorem dX0_goBack_28 : decode cX0_goBack 28 = .ok (.putfield 57, 3) := by decide +kernel
theorem dX0_goBack_31 : decode cX0_goBack 31 = .ok (.aload_n 0, 1) := by decide +kernel
theorem dX0_goBack_32 : decode cX0_goBack 32 = .ok (.aload_n 0, 1) := by decide +kernel
theorem dX0_goBack_33 : decode cX0_goBack 33 = .ok (.getfield 67, 3) := by decide +kernel
theorem dX0_goBack_36 : decode cX0_goBack 36 = .ok (.putfield 63, 3) := by decide +kernel
theorem dX0_goBack_39 : decode cX0_goBack 39 = .ok (.return_, 1) := by decide +kernel
theorem dX0_hasItem_0 : decode cX0_hasItem 0 = .ok (.iload_n 1, 1) := by decide +kernel
theorem dX0_hasItem_1 : decode cX0_hasItem 1 = .ok (.ifCond .lt 21, 3) := by decide +kernel
theorem dX0_hasItem_4 : decode cX0_hasItem 4 = .ok (.iload_n 1, 1) := by decide +kernel
theorem dX0_hasItem_5 : decode cX0_hasItem 5 = .ok (.aload_n 0, 1) := by decide +kernel
theorem dX0_hasItem_6 : decode cX0_hasItem 6 = .ok (.getfield 57, 3) := by decide +kernel
theorem dX0_hasItem_9 : decode cX0_hasItem 9 = .ok (.if_icmp .ge 13, 3) := by decide +kernel
theorem dX0_hasItem_12 : decode cX0_hasItem 12 = .ok (.iload_n 1, 1) := by decide +kernel
theorem dX0_hasItem_13 : decode cX0_hasItem 13 = .ok (.bipush 40, 2) := by decide +kernel
theorem dX0_hasItem_15 : decode cX0_hasItem 15 = .ok (.if_icmp .ge 7, 3) := by decide +kernel
theorem dX0_hasItem_18 : decode cX0_hasItem 18 = .ok (.iconst 1, 1) := by decide +kernel
theorem dX0_hasItem_19 : decode cX0_hasItem 19 = .ok (.goto 4, 3) := by decide +kernel
theorem dX0_hasItem_22 : decode cX0_hasItem 22 = .ok (.iconst 0, 1) := by decide +kernel
theorem dX0_hasItem_23 : decode cX0_hasItem 23 = .ok (.ireturn, 1) := by decide +kernel
theorem dX0_hasSpeaker_0 : decode cX0_hasSpeaker 0 = .ok (.iload_n 1, 1) := by decide +kernel
theorem dX0_hasSpeaker_1 : decode cX0_hasSpeaker 1 = .ok (.ifCond .lt 21, 3) := by decide +kernel
theorem dX0_hasSpeaker_4 : decode cX0_hasSpeaker 4 = .ok (.iload_n 1, 1) := by decide +kernel
theorem dX0_hasSpeaker_5 : decode cX0_hasSpeaker 5 = .ok (.aload_n 0, 1) := by decide +kernel
theorem dX0_hasSpeaker_6 : decode cX0_hasSpeaker 6 = .ok (.getfield 50, 3) := by decide +kernel
theorem dX0_hasSpeaker_9 : decode cX0_hasSpeaker 9 = .ok (.if_icmp .ge 13, 3) := by decide +kernel
theorem dX0_hasSpeaker_12 : decode cX0_hasSpeaker 12 = .ok (.iload_n 1, 1) := by decide +kernel
theorem dX0_hasSpeaker_13 : decode cX0_hasSpeaker 13 = .ok (.bipush 6, 2) := by decide +kernel
theorem dX0_hasSpeaker_15 : decode cX0_hasSpeaker 15 = .ok (.if_icmp .ge 7, 3) := by decide +kernel
theorem dX0_hasSpeaker_18 : decode cX0_hasSpeaker 18 = .ok (.iconst 1, 1) := by decide +kernel
theorem dX0_hasSpeaker_19 : decode cX0_hasSpeaker 19 = .ok (.goto 4, 3) := by decide +kernel
theorem dX0_hasSpeaker_22 : decode cX0_hasSpeaker 22 = .ok (.iconst 0, 1) := by decide +kernel
theorem dX0_hasSpeaker_23 : decode cX0_hasSpeaker 23 = .ok (.ireturn, 1) := by decide +kernel
theorem dX0_isConceded_0 : decode cX0_isConceded 0 = .ok (.aload_n 0, 1) := by decide +kernel
theorem dX0_isConceded_1 : decode cX0_isConceded 1 = .ok (.getfield 63, 3) := by decide +kernel
theorem dX0_isConceded_4 : decode cX0_isConceded 4 = .ok (.iload_n 1, 1) := by decide +kernel
theorem dX0_isConceded_5 : decode cX0_isConceded 5 = .ok (.invokestatic 88, 3) := by decide +kernel
theorem dX0_isConceded_8 : decode cX0_isConceded 8 = .ok (.land, 1) := by decide +kernel
theorem dX0_isConceded_9 : decode cX0_isConceded 9 = .ok (.lconst 0, 1) := by decide +kernel
theorem dX0_isConceded_10 : decode cX0_isConceded 10 = .ok (.lcmp, 1) := by decide +kernel
theorem dX0_isConceded_11 : decode cX0_isConceded 11 = .ok (.ifCond .eq 7, 3) := by decide +kernel
theorem dX0_isConceded_14 : decode cX0_isConceded 14 = .ok (.iconst 1, 1) := by decide +kernel
theorem dX0_isConceded_15 : decode cX0_isConceded 15 = .ok (.goto 4, 3) := by decide +kernel
theorem dX0_isConceded_18 : decode cX0_isConceded 18 = .ok (.iconst 0, 1) := by decide +kernel
theorem dX0_isConceded_19 : decode cX0_isConceded 19 = .ok (.ireturn, 1) := by decide +kernel
theorem dX0_isStrongAttack_0 : decode cX0_isStrongAttack 0 = .ok (.aload_n 0, 1) := by decide +kernel
theorem dX0_isStrongAttack_1 : decode cX0_isStrongAttack 1 = .ok (.iload_n 1, 1) := by decide +kernel
theorem dX0_isStrongAttack_2 : decode cX0_isStrongAttack 2 = .ok (.invokevirtual 74, 3) := by decide +kernel
theorem dX0_isStrongAttack_5 : decode cX0_isStrongAttack 5 = .ok (.ifCond .eq 16, 3) := by decide +kernel
theorem dX0_isStrongAttack_8 : decode cX0_isStrongAttack 8 = .ok (.aload_n 0, 1) := by decide +kernel
theorem dX0_isStrongAttack_9 : decode cX0_isStrongAttack 9 = .ok (.getfield 37, 3) := by decide +kernel
theorem dX0_isStrongAttack_12 : decode cX0_isStrongAttack 12 = .ok (.iload_n 1, 1) := by decide +kernel
theorem dX0_isStrongAttack_13 : decode cX0_isStrongAttack 13 = .ok (.baload, 1) := by decide +kernel
theorem dX0_isStrongAttack_14 : decode cX0_isStrongAttack 14 = .ok (.ifCond .eq 7, 3) := by decide +kernel
theorem dX0_isStrongAttack_17 : decode cX0_isStrongAttack 17 = .ok (.iconst 1, 1) := by decide +kernel
theorem dX0_isStrongAttack_18 : decode cX0_isStrongAttack 18 = .ok (.goto 4, 3) := by decide +kernel
theorem dX0_isStrongAttack_21 : decode cX0_isStrongAttack 21 = .ok (.iconst 0, 1) := by decide +kernel
theorem dX0_isStrongAttack_22 : decode cX0_isStrongAttack 22 = .ok (.ireturn, 1) := by decide +kernel
theorem dX0_items_0 : decode cX0_items 0 = .ok (.aload_n 0, 1) := by decide +kernel
theorem dX0_items_1 : decode cX0_items 1 = .ok (.getfield 57, 3) := by decide +kernel
theorem dX0_items_4 : decode cX0_items 4 = .ok (.ireturn, 1) := by decide +kernel
theorem dX0_itemsWithin_0 : decode cX0_itemsWithin 0 = .ok (.lconst 0, 1) := by decide +kernel
theorem dX0_itemsWithin_1 : decode cX0_itemsWithin 1 = .ok (.lstore_n 2, 1) := by decide +kernel
theorem dX0_itemsWithin_2 : decode cX0_itemsWithin 2 = .ok (.iconst 0, 1) := by decide +kernel
theorem dX0_itemsWithin_3 : decode cX0_itemsWithin 3 = .ok (.istore 4, 2) := by decide +kernel
theorem dX0_itemsWithin_5 : decode cX0_itemsWithin 5 = .ok (.iload 4, 2) := by decide +kernel
theorem dX0_itemsWithin_7 : decode cX0_itemsWithin 7 = .ok (.aload_n 0, 1) := by decide +kernel
theorem dX0_itemsWithin_8 : decode cX0_itemsWithin 8 = .ok (.getfield 57, 3) := by decide +kernel
theorem dX0_itemsWithin_11 : decode cX0_itemsWithin 11 = .ok (.if_icmp .ge 31, 3) := by decide +kernel
theorem dX0_itemsWithin_14 : decode cX0_itemsWithin 14 = .ok (.lload_n 2, 1) := by decide +kernel
theorem dX0_itemsWithin_15 : decode cX0_itemsWithin 15 = .ok (.aload_n 0, 1) := by decide +kernel
theorem dX0_itemsWithin_16 : decode cX0_itemsWithin 16 = .ok (.iload 4, 2) := by decide +kernel
theorem dX0_itemsWithin_18 : decode cX0_itemsWithin 18 = .ok (.invokevirtual 85, 3) := by decide +kernel
theorem dX0_itemsWithin_21 : decode cX0_itemsWithin 21 = .ok (.iload_n 1, 1) := by decide +kernel
theorem dX0_itemsWithin_22 : decode cX0_itemsWithin 22 = .ok (.if_icmp .gt 11, 3) := by decide +kernel
theorem dX0_itemsWithin_25 : decode cX0_itemsWithin 25 = .ok (.iload 4, 2) := by decide +kernel
theorem dX0_itemsWithin_27 : decode cX0_itemsWithin 27 = .ok (.invokestatic 88, 3) := by decide +kernel
theorem dX0_itemsWithin_30 : decode cX0_itemsWithin 30 = .ok (.goto 4, 3) := by decide +kernel
theorem dX0_itemsWithin_33 : decode cX0_itemsWithin 33 = .ok (.lconst 0, 1) := by decide +kernel
theorem dX0_itemsWithin_34 : decode cX0_itemsWithin 34 = .ok (.lor, 1) := by decide +kernel
theorem dX0_itemsWithin_35 : decode cX0_itemsWithin 35 = .ok (.lstore_n 2, 1) := by decide +kernel
theorem dX0_itemsWithin_36 : decode cX0_itemsWithin 36 = .ok (.iinc 4 1, 3) := by decide +kernel
theorem dX0_itemsWithin_39 : decode cX0_itemsWithin 39 = .ok (.goto (-34), 3) := by decide +kernel
theorem dX0_itemsWithin_42 : decode cX0_itemsWithin 42 = .ok (.lload_n 2, 1) := by decide +kernel
theorem dX0_itemsWithin_43 : decode cX0_itemsWithin 43 = .ok (.lreturn, 1) := by decide +kernel
theorem dX0_keep_0 : decode cX0_keep 0 = .ok (.aload_n 0, 1) := by decide +kernel
theorem dX0_keep_1 : decode cX0_keep 1 = .ok (.getfield 15, 3) := by decide +kernel
theorem dX0_keep_4 : decode cX0_keep 4 = .ok (.iconst 0, 1) := by decide +kernel
theorem dX0_keep_5 : decode cX0_keep 5 = .ok (.aload_n 0, 1) := by decide +kernel
theorem dX0_keep_6 : decode cX0_keep 6 = .ok (.getfield 41, 3) := by decide +kernel
theorem dX0_keep_9 : decode cX0_keep 9 = .ok (.iconst 0, 1) := by decide +kernel
theorem dX0_keep_10 : decode cX0_keep 10 = .ok (.bipush 6, 2) := by decide +kernel
theorem dX0_keep_12 : decode cX0_keep 12 = .ok (.invokestatic 44, 3) := by decide +kernel
theorem dX0_keep_15 : decode cX0_keep 15 = .ok (.aload_n 0, 1) := by decide +kernel
theorem dX0_keep_16 : decode cX0_keep 16 = .ok (.aload_n 0, 1) := by decide +kernel
theorem dX0_keep_17 : decode cX0_keep 17 = .ok (.getfield 50, 3) := by decide +kernel
theorem dX0_keep_20 : decode cX0_keep 20 = .ok (.putfield 54, 3) := by decide +kernel
theorem dX0_keep_23 : decode cX0_keep 23 = .ok (.aload_n 0, 1) := by decide +kernel
theorem dX0_keep_24 : decode cX0_keep 24 = .ok (.aload_n 0, 1) := by decide +kernel
theorem dX0_keep_25 : decode cX0_keep 25 = .ok (.getfield 57, 3) := by decide +kernel
theorem dX0_keep_28 : decode cX0_keep 28 = .ok (.putfield 60, 3) := by decide +kernel
theorem dX0_keep_31 : decode cX0_keep 31 = .ok (.aload_n 0, 1) := by decide +kernel
theorem dX0_keep_32 : decode cX0_keep 32 = .ok (.aload_n 0, 1) := by decide +kernel
theorem dX0_keep_33 : decode cX0_keep 33 = .ok (.getfield 63, 3) := by decide +kernel
theorem dX0_keep_36 : decode cX0_keep 36 = .ok (.putfield 67, 3) := by decide +kernel
theorem dX0_keep_39 : decode cX0_keep 39 = .ok (.return_, 1) := by decide +kernel
theorem dX0_kindOf_0 : decode cX0_kindOf 0 = .ok (.aload_n 0, 1) := by decide +kernel
theorem dX0_kindOf_1 : decode cX0_kindOf 1 = .ok (.iload_n 1, 1) := by decide +kernel
theorem dX0_kindOf_2 : decode cX0_kindOf 2 = .ok (.invokevirtual 74, 3) := by decide +kernel
theorem dX0_kindOf_5 : decode cX0_kindOf 5 = .ok (.ifCond .eq 12, 3) := by decide +kernel
theorem dX0_kindOf_8 : decode cX0_kindOf 8 = .ok (.aload_n 0, 1) := by decide +kernel
theorem dX0_kindOf_9 : decode cX0_kindOf 9 = .ok (.getfield 22, 3) := by decide +kernel
theorem dX0_kindOf_12 : decode cX0_kindOf 12 = .ok (.iload_n 1, 1) := by decide +kernel
theorem dX0_kindOf_13 : decode cX0_kindOf 13 = .ok (.iaload, 1) := by decide +kernel
theorem dX0_kindOf_14 : decode cX0_kindOf 14 = .ok (.goto 4, 3) := by decide +kernel
theorem dX0_kindOf_17 : decode cX0_kindOf 17 = .ok (.iconst (-1), 1) := by decide +kernel
theorem dX0_kindOf_18 : decode cX0_kindOf 18 = .ok (.ireturn, 1) := by decide +kernel
theorem dX0_leastForceOn_0 : decode cX0_leastForceOn 0 = .ok (.aload_n 0, 1) := by decide +kernel
theorem dX0_leastForceOn_1 : decode cX0_leastForceOn 1 = .ok (.iload_n 1, 1) := by decide +kernel
theorem dX0_leastForceOn_2 : decode cX0_leastForceOn 2 = .ok (.invokevirtual 94, 3) := by decide +kernel
theorem dX0_leastForceOn_5 : decode cX0_leastForceOn 5 = .ok (.istore_n 2, 1) := by decide +kernel
theorem dX0_leastForceOn_6 : decode cX0_leastForceOn 6 = .ok (.aload_n 0, 1) := by decide +kernel
theorem dX0_leastForceOn_7 : decode cX0_leastForceOn 7 = .ok (.iload_n 1, 1) := by decide +kernel
theorem dX0_leastForceOn_8 : decode cX0_leastForceOn 8 = .ok (.invokevirtual 97, 3) := by decide +kernel
theorem dX0_leastForceOn_11 : decode cX0_leastForceOn 11 = .ok (.ifCond .ne 11, 3) := by decide +kernel
theorem dX0_leastForceOn_14 : decode cX0_leastForceOn 14 = .ok (.iload_n 2, 1) := by decide +kernel
theorem dX0_leastForceOn_15 : decode cX0_leastForceOn 15 = .ok (.iconst 1, 1) := by decide +kernel
theorem dX0_leastForceOn_16 : decode cX0_leastForceOn 16 = .ok (.iadd, 1) := by decide +kernel
theorem dX0_leastForceOn_17 : decode cX0_leastForceOn 17 = .ok (.iconst 2, 1) := by decide +kernel
theorem dX0_leastForceOn_18 : decode cX0_leastForceOn 18 = .ok (.idiv, 1) := by decide +kernel
theorem dX0_leastForceOn_19 : decode cX0_leastForceOn 19 = .ok (.goto 4, 3) := by decide +kernel
theorem dX0_leastForceOn_22 : decode cX0_leastForceOn 22 = .ok (.iload_n 2, 1) := by decide +kernel
theorem dX0_leastForceOn_23 : decode cX0_leastForceOn 23 = .ok (.ireturn, 1) := by decide +kernel
theorem dX0_nameOfItem_0 : decode cX0_nameOfItem 0 = .ok (.aload_n 0, 1) := by decide +kernel
theorem dX0_nameOfItem_1 : decode cX0_nameOfItem 1 = .ok (.iload_n 1, 1) := by decide +kernel
theorem dX0_nameOfItem_2 : decode cX0_nameOfItem 2 = .ok (.invokevirtual 74, 3) := by decide +kernel
theorem dX0_nameOfItem_5 : decode cX0_nameOfItem 5 = .ok (.ifCond .eq 12, 3) := by decide +kernel
theorem dX0_nameOfItem_8 : decode cX0_nameOfItem 8 = .ok (.aload_n 0, 1) := by decide +kernel
theorem dX0_nameOfItem_9 : decode cX0_nameOfItem 9 = .ok (.getfield 19, 3) := by decide +kernel
theorem dX0_nameOfItem_12 : decode cX0_nameOfItem 12 = .ok (.iload_n 1, 1) := by decide +kernel
theorem dX0_nameOfItem_13 : decode cX0_nameOfItem 13 = .ok (.laload, 1) := by decide +kernel
theorem dX0_nameOfItem_14 : decode cX0_nameOfItem 14 = .ok (.goto 4, 3) := by decide +kernel
theorem dX0_nameOfItem_17 : decode cX0_nameOfItem 17 = .ok (.lconst 0, 1) := by decide +kernel
theorem dX0_nameOfItem_18 : decode cX0_nameOfItem 18 = .ok (.lreturn, 1) := by decide +kernel
theorem dX0_nameOfSpeaker_0 : decode cX0_nameOfSpeaker 0 = .ok (.aload_n 0, 1) := by decide +kernel
theorem dX0_nameOfSpeaker_1 : decode cX0_nameOfSpeaker 1 = .ok (.iload_n 1, 1) := by decide +kernel
theorem dX0_nameOfSpeaker_2 : decode cX0_nameOfSpeaker 2 = .ok (.invokevirtual 70, 3) := by decide +kernel
theorem dX0_nameOfSpeaker_5 : decode cX0_nameOfSpeaker 5 = .ok (.ifCond .eq 12, 3) := by decide +kernel
theorem dX0_nameOfSpeaker_8 : decode cX0_nameOfSpeaker 8 = .ok (.aload_n 0, 1) := by decide +kernel
theorem dX0_nameOfSpeaker_9 : decode cX0_nameOfSpeaker 9 = .ok (.getfield 9, 3) := by decide +kernel
theorem dX0_nameOfSpeaker_12 : decode cX0_nameOfSpeaker 12 = .ok (.iload_n 1, 1) := by decide +kernel
theorem dX0_nameOfSpeaker_13 : decode cX0_nameOfSpeaker 13 = .ok (.laload, 1) := by decide +kernel
theorem dX0_nameOfSpeaker_14 : decode cX0_nameOfSpeaker 14 = .ok (.goto 4, 3) := by decide +kernel
theorem dX0_nameOfSpeaker_17 : decode cX0_nameOfSpeaker 17 = .ok (.lconst 0, 1) := by decide +kernel
theorem dX0_nameOfSpeaker_18 : decode cX0_nameOfSpeaker 18 = .ok (.lreturn, 1) := by decide +kernel
theorem dX0_setConceded_0 : decode cX0_setConceded 0 = .ok (.aload_n 0, 1) := by decide +kernel
theorem dX0_setConceded_1 : decode cX0_setConceded 1 = .ok (.iload_n 1, 1) := by decide +kernel
theorem dX0_setConceded_2 : decode cX0_setConceded 2 = .ok (.invokevirtual 74, 3) := by decide +kernel
theorem dX0_setConceded_5 : decode cX0_setConceded 5 = .ok (.ifCond .eq 36, 3) := by decide +kernel
theorem dX0_setConceded_8 : decode cX0_setConceded 8 = .ok (.aload_n 0, 1) := by decide +kernel
theorem dX0_setConceded_9 : decode cX0_setConceded 9 = .ok (.iload_n 2, 1) := by decide +kernel
theorem dX0_setConceded_10 : decode cX0_setConceded 10 = .ok (.ifCond .eq 15, 3) := by decide +kernel
theorem dX0_setConceded_13 : decode cX0_setConceded 13 = .ok (.aload_n 0, 1) := by decide +kernel
theorem dX0_setConceded_14 : decode cX0_setConceded 14 = .ok (.getfield 63, 3) := by decide +kernel
theorem dX0_setConceded_17 : decode cX0_setConceded 17 = .ok (.iload_n 1, 1) := by decide +kernel
theorem dX0_setConceded_18 : decode cX0_setConceded 18 = .ok (.invokestatic 88, 3) := by decide +kernel
theorem dX0_setConceded_21 : decode cX0_setConceded 21 = .ok (.lor, 1) := by decide +kernel
theorem dX0_setConceded_22 : decode cX0_setConceded 22 = .ok (.goto 16, 3) := by decide +kernel
theorem dX0_setConceded_25 : decode cX0_setConceded 25 = .ok (.aload_n 0, 1) := by decide +kernel
theorem dX0_setConceded_26 : decode cX0_setConceded 26 = .ok (.getfield 63, 3) := by decide +kernel
theorem dX0_setConceded_29 : decode cX0_setConceded 29 = .ok (.iload_n 1, 1) := by decide +kernel
theorem dX0_setConceded_30 : decode cX0_setConceded 30 = .ok (.invokestatic 88, 3) := by decide +kernel
theorem dX0_setConceded_33 : decode cX0_setConceded 33 = .ok (.ldc2_w 92, 3) := by decide +kernel
theorem dX0_setConceded_36 : decode cX0_setConceded 36 = .ok (.lxor, 1) := by decide +kernel
theorem dX0_setConceded_37 : decode cX0_setConceded 37 = .ok (.land, 1) := by decide +kernel
theorem dX0_setConceded_38 : decode cX0_setConceded 38 = .ok (.putfield 63, 3) := by decide +kernel
theorem dX0_setConceded_41 : decode cX0_setConceded 41 = .ok (.return_, 1) := by decide +kernel
theorem dX0_sourceOf_0 : decode cX0_sourceOf 0 = .ok (.aload_n 0, 1) := by decide +kernel
theorem dX0_sourceOf_1 : decode cX0_sourceOf 1 = .ok (.iload_n 1, 1) := by decide +kernel
theorem dX0_sourceOf_2 : decode cX0_sourceOf 2 = .ok (.invokevirtual 74, 3) := by decide +kernel
theorem dX0_sourceOf_5 : decode cX0_sourceOf 5 = .ok (.ifCond .eq 12, 3) := by decide +kernel
theorem dX0_sourceOf_8 : decode cX0_sourceOf 8 = .ok (.aload_n 0, 1) := by decide +kernel
theorem dX0_sourceOf_9 : decode cX0_sourceOf 9 = .ok (.getfield 31, 3) := by decide +kernel
theorem dX0_sourceOf_12 : decode cX0_sourceOf 12 = .ok (.iload_n 1, 1) := by decide +kernel
theorem dX0_sourceOf_13 : decode cX0_sourceOf 13 = .ok (.iaload, 1) := by decide +kernel
theorem dX0_sourceOf_14 : decode cX0_sourceOf 14 = .ok (.goto 4, 3) := by decide +kernel
theorem dX0_sourceOf_17 : decode cX0_sourceOf 17 = .ok (.iconst (-1), 1) := by decide +kernel
theorem dX0_sourceOf_18 : decode cX0_sourceOf 18 = .ok (.ireturn, 1) := by decide +kernel
theorem dX0_speakerOf_0 : decode cX0_speakerOf 0 = .ok (.aload_n 0, 1) := by decide +kernel
theorem dX0_speakerOf_1 : decode cX0_speakerOf 1 = .ok (.iload_n 1, 1) := by decide +kernel
theorem dX0_speakerOf_2 : decode cX0_speakerOf 2 = .ok (.invokevirtual 74, 3) := by decide +kernel
theorem dX0_speakerOf_5 : decode cX0_speakerOf 5 = .ok (.ifCond .eq 12, 3) := by decide +kernel
theorem dX0_speakerOf_8 : decode cX0_speakerOf 8 = .ok (.aload_n 0, 1) := by decide +kernel
theorem dX0_speakerOf_9 : decode cX0_speakerOf 9 = .ok (.getfield 25, 3) := by decide +kernel
theorem dX0_speakerOf_12 : decode cX0_speakerOf 12 = .ok (.iload_n 1, 1) := by decide +kernel
theorem dX0_speakerOf_13 : decode cX0_speakerOf 13 = .ok (.iaload, 1) := by decide +kernel
theorem dX0_speakerOf_14 : decode cX0_speakerOf 14 = .ok (.goto 4, 3) := by decide +kernel
theorem dX0_speakerOf_17 : decode cX0_speakerOf 17 = .ok (.iconst (-1), 1) := by decide +kernel
theorem dX0_speakerOf_18 : decode cX0_speakerOf 18 = .ok (.ireturn, 1) := by decide +kernel
theorem dX0_speakers_0 : decode cX0_speakers 0 = .ok (.aload_n 0, 1) := by decide +kernel
theorem dX0_speakers_1 : decode cX0_speakers 1 = .ok (.getfield 50, 3) := by decide +kernel
theorem dX0_speakers_4 : decode cX0_speakers 4 = .ok (.ireturn, 1) := by decide +kernel
theorem dX0_strengthOf_0 : decode cX0_strengthOf 0 = .ok (.aload_n 0, 1) := by decide +kernel
theorem dX0_strengthOf_1 : decode cX0_strengthOf 1 = .ok (.iload_n 1, 1) := by decide +kernel
theorem dX0_strengthOf_2 : decode cX0_strengthOf 2 = .ok (.invokevirtual 74, 3) := by decide +kernel
theorem dX0_strengthOf_5 : decode cX0_strengthOf 5 = .ok (.ifCond .eq 12, 3) := by decide +kernel
theorem dX0_strengthOf_8 : decode cX0_strengthOf 8 = .ok (.aload_n 0, 1) := by decide +kernel
theorem dX0_strengthOf_9 : decode cX0_strengthOf 9 = .ok (.getfield 28, 3) := by decide +kernel
theorem dX0_strengthOf_12 : decode cX0_strengthOf 12 = .ok (.iload_n 1, 1) := by decide +kernel
theorem dX0_strengthOf_13 : decode cX0_strengthOf 13 = .ok (.iaload, 1) := by decide +kernel
theorem dX0_strengthOf_14 : decode cX0_strengthOf 14 = .ok (.goto 4, 3) := by decide +kernel
theorem dX0_strengthOf_17 : decode cX0_strengthOf 17 = .ok (.iconst 0, 1) := by decide +kernel
theorem dX0_strengthOf_18 : decode cX0_strengthOf 18 = .ok (.ireturn, 1) := by decide +kernel
theorem dX0_targetOf_0 : decode cX0_targetOf 0 = .ok (.aload_n 0, 1) := by decide +kernel
theorem dX0_targetOf_1 : decode cX0_targetOf 1 = .ok (.iload_n 1, 1) := by decide +kernel
theorem dX0_targetOf_2 : decode cX0_targetOf 2 = .ok (.invokevirtual 74, 3) := by decide +kernel
theorem dX0_targetOf_5 : decode cX0_targetOf 5 = .ok (.ifCond .eq 12, 3) := by decide +kernel
theorem dX0_targetOf_8 : decode cX0_targetOf 8 = .ok (.aload_n 0, 1) := by decide +kernel
theorem dX0_targetOf_9 : decode cX0_targetOf 9 = .ok (.getfield 34, 3) := by decide +kernel
theorem dX0_targetOf_12 : decode cX0_targetOf 12 = .ok (.iload_n 1, 1) := by decide +kernel
theorem dX0_targetOf_13 : decode cX0_targetOf 13 = .ok (.iaload, 1) := by decide +kernel
theorem dX0_targetOf_14 : decode cX0_targetOf 14 = .ok (.goto 4, 3) := by decide +kernel
theorem dX0_targetOf_17 : decode cX0_targetOf 17 = .ok (.iconst (-1), 1) := by decide +kernel
theorem dX0_targetOf_18 : decode cX0_targetOf 18 = .ok (.ireturn, 1) := by decide +kernel
theorem dX0_timeOf_0 : decode cX0_timeOf 0 = .ok (.aload_n 0, 1) := by decide +kernel
theorem dX0_timeOf_1 : decode cX0_timeOf 1 = .ok (.iload_n 1, 1) := by decide +kernel
theorem dX0_timeOf_2 : decode cX0_timeOf 2 = .ok (.invokevirtual 70, 3) := by decide +kernel
theorem dX0_timeOf_5 : decode cX0_timeOf 5 = .ok (.ifCond .eq 12, 3) := by decide +kernel
theorem dX0_timeOf_8 : decode cX0_timeOf 8 = .ok (.aload_n 0, 1) := by decide +kernel
theorem dX0_timeOf_9 : decode cX0_timeOf 9 = .ok (.getfield 15, 3) := by decide +kernel
theorem dX0_timeOf_12 : decode cX0_timeOf 12 = .ok (.iload_n 1, 1) := by decide +kernel
theorem dX0_timeOf_13 : decode cX0_timeOf 13 = .ok (.iaload, 1) := by decide +kernel
theorem dX0_timeOf_14 : decode cX0_timeOf 14 = .ok (.goto 4, 3) := by decide +kernel
theorem dX0_timeOf_17 : decode cX0_timeOf 17 = .ok (.iconst 0, 1) := by decide +kernel
theorem dX0_timeOf_18 : decode cX0_timeOf 18 = .ok (.ireturn, 1) := by decide +kernel
theorem dX1_firstWrongPlace_0 : decode cX1_firstWrongPlace 0 = .ok (.aload_n 0, 1) := by decide +kernel
theorem dX1_firstWrongPlace_1 : decode cX1_firstWrongPlace 1 = .ok (.iconst 0, 1) := by decide +kernel
theorem dX1_firstWrongPlace_2 : decode cX1_firstWrongPlace 2 = .ok (.putfield 15, 3) := by decide +kernel
theorem dX1_firstWrongPlace_5 : decode cX1_firstWrongPlace 5 = .ok (.aload_n 0, 1) := by decide +kernel
theorem dX1_firstWrongPlace_6 : decode cX1_firstWrongPlace 6 = .ok (.iconst 1, 1) := by decide +kernel
theorem dX1_firstWrongPlace_7 : decode cX1_firstWrongPlace 7 = .ok (.putfield 19, 3) := by decide +kernel
theorem dX1_firstWrongPlace_10 : decode cX1_firstWrongPlace 10 = .ok (.iconst 0, 1) := by decide +kernel
theorem dX1_firstWrongPlace_11 : decode cX1_firstWrongPlace 11 = .ok (.istore_n 1, 1) := by decide +kernel
theorem dX1_firstWrongPlace_12 : decode cX1_firstWrongPlace 12 = .ok (.iload_n 1, 1) := by decide +kernel
theorem dX1_firstWrongPlace_13 : decode cX1_firstWrongPlace 13 = .ok (.sipush 400, 3) := by decide +kernel
theorem dX1_firstWrongPlace_16 : decode cX1_firstWrongPlace 16 = .ok (.if_icmp .ge 30, 3) := by decide +kernel
theorem dX1_firstWrongPlace_19 : decode cX1_firstWrongPlace 19 = .ok (.aload_n 0, 1) := by decide +kernel
theorem dX1_firstWrongPlace_20 : decode cX1_firstWrongPlace 20 = .ok (.getfield 19, 3) := by decide +kernel
theorem dX1_firstWrongPlace_23 : decode cX1_firstWrongPlace 23 = .ok (.ifCond .eq 23, 3) := by decide +kernel
theorem dX1_firstWrongPlace_26 : decode cX1_firstWrongPlace 26 = .ok (.aload_n 0, 1) := by decide +kernel
theorem dX1_firstWrongPlace_27 : decode cX1_firstWrongPlace 27 = .ok (.getstatic 25, 3) := by decide +kernel
theorem dX1_firstWrongPlace_30 : decode cX1_firstWrongPlace 30 = .ok (.invokevirtual 31, 3) := by decide +kernel
theorem dX1_firstWrongPlace_33 : decode cX1_firstWrongPlace 33 = .ok (.ifCond .ne 13, 3) := by decide +kernel
theorem dX1_firstWrongPlace_36 : decode cX1_firstWrongPlace 36 = .ok (.aload_n 0, 1) := by decide +kernel
theorem dX1_firstWrongPlace_37 : decode cX1_firstWrongPlace 37 = .ok (.invokevirtual 35, 3) := by decide +kernel
theorem dX1_firstWrongPlace_40 : decode cX1_firstWrongPlace 40 = .ok (.iinc 1 1, 3) := by decide +kernel
theorem dX1_firstWrongPlace_43 : decode cX1_firstWrongPlace 43 = .ok (.goto (-31), 3) := by decide +kernel
theorem dX1_firstWrongPlace_46 : decode cX1_firstWrongPlace 46 = .ok (.aload_n 0, 1) := by decide +kernel
theorem dX1_firstWrongPlace_47 : decode cX1_firstWrongPlace 47 = .ok (.getfield 19, 3) := by decide +kernel
theorem dX1_firstWrongPlace_50 : decode cX1_firstWrongPlace 50 = .ok (.ifCond .eq 7, 3) := by decide +kernel
theorem dX1_firstWrongPlace_53 : decode cX1_firstWrongPlace 53 = .ok (.iconst (-1), 1) := by decide +kernel
theorem dX1_firstWrongPlace_54 : decode cX1_firstWrongPlace 54 = .ok (.goto 14, 3) := by decide +kernel
theorem dX1_firstWrongPlace_57 : decode cX1_firstWrongPlace 57 = .ok (.aload_n 0, 1) := by decide +kernel
theorem dX1_firstWrongPlace_58 : decode cX1_firstWrongPlace 58 = .ok (.getfield 9, 3) := by decide +kernel
theorem dX1_firstWrongPlace_61 : decode cX1_firstWrongPlace 61 = .ok (.aload_n 0, 1) := by decide +kernel
theorem dX1_firstWrongPlace_62 : decode cX1_firstWrongPlace 62 = .ok (.getfield 15, 3) := by decide +kernel
theorem dX1_firstWrongPlace_65 : decode cX1_firstWrongPlace 65 = .ok (.invokevirtual 38, 3) := by decide +kernel
theorem dX1_firstWrongPlace_68 : decode cX1_firstWrongPlace 68 = .ok (.ireturn, 1) := by decide +kernel
theorem dX1_need_0 : decode cX1_need 0 = .ok (.aload_n 0, 1) := by decide +kernel
theorem dX1_need_1 : decode cX1_need 1 = .ok (.getfield 19, 3) := by decide +kernel
theorem dX1_need_4 : decode cX1_need 4 = .ok (.ifCond .eq 31, 3) := by decide +kernel
theorem dX1_need_7 : decode cX1_need 7 = .ok (.aload_n 0, 1) := by decide +kernel
theorem dX1_need_8 : decode cX1_need 8 = .ok (.getfield 9, 3) := by decide +kernel
theorem dX1_need_11 : decode cX1_need 11 = .ok (.aload_n 0, 1) := by decide +kernel
theorem dX1_need_12 : decode cX1_need 12 = .ok (.getfield 15, 3) := by decide +kernel
theorem dX1_need_15 : decode cX1_need 15 = .ok (.invokevirtual 42, 3) := by decide +kernel
theorem dX1_need_18 : decode cX1_need 18 = .ok (.aload_n 1, 1) := by decide +kernel
theorem dX1_need_19 : decode cX1_need 19 = .ok (.if_acmp .ne 16, 3) := by decide +kernel
theorem dX1_need_22 : decode cX1_need 22 = .ok (.aload_n 0, 1) := by decide +kernel
theorem dX1_need_23 : decode cX1_need 23 = .ok (.dup, 1) := by decide +kernel
theorem dX1_need_24 : decode cX1_need 24 = .ok (.getfield 15, 3) := by decide +kernel
theorem dX1_need_27 : decode cX1_need 27 = .ok (.iconst 1, 1) := by decide +kernel
theorem dX1_need_28 : decode cX1_need 28 = .ok (.iadd, 1) := by decide +kernel
theorem dX1_need_29 : decode cX1_need 29 = .ok (.putfield 15, 3) := by decide +kernel
theorem dX1_need_32 : decode cX1_need 32 = .ok (.goto 8, 3) := by decide +kernel
theorem dX1_need_35 : decode cX1_need 35 = .ok (.aload_n 0, 1) := by decide +kernel
theorem dX1_need_36 : decode cX1_need 36 = .ok (.iconst 0, 1) := by decide +kernel
theorem dX1_need_37 : decode cX1_need 37 = .ok (.putfield 19, 3) := by decide +kernel
theorem dX1_need_40 : decode cX1_need 40 = .ok (.return_, 1) := by decide +kernel
theorem dX1_readLine_0 : decode cX1_readLine 0 = .ok (.aload_n 0, 1) := by decide +kernel
theorem dX1_readLine_1 : decode cX1_readLine 1 = .ok (.getstatic 46, 3) := by decide +kernel
theorem dX1_readLine_4 : decode cX1_readLine 4 = .ok (.invokevirtual 49, 3) := by decide +kernel
theorem dX1_readLine_7 : decode cX1_readLine 7 = .ok (.ifCond .eq 20, 3) := by decide +kernel
theorem dX1_readLine_10 : decode cX1_readLine 10 = .ok (.aload_n 0, 1) := by decide +kernel
theorem dX1_readLine_11 : decode cX1_readLine 11 = .ok (.getstatic 52, 3) := by decide +kernel
theorem dX1_readLine_14 : decode cX1_readLine 14 = .ok (.invokevirtual 55, 3) := by decide +kernel
theorem dX1_readLine_17 : decode cX1_readLine 17 = .ok (.aload_n 0, 1) := by decide +kernel
theorem dX1_readLine_18 : decode cX1_readLine 18 = .ok (.getstatic 59, 3) := by decide +kernel
theorem dX1_readLine_21 : decode cX1_readLine 21 = .ok (.invokevirtual 62, 3) := by decide +kernel
theorem dX1_readLine_24 : decode cX1_readLine 24 = .ok (.goto 112, 3) := by decide +kernel
theorem dX1_readLine_27 : decode cX1_readLine 27 = .ok (.aload_n 0, 1) := by decide +kernel
theorem dX1_readLine_28 : decode cX1_readLine 28 = .ok (.getstatic 65, 3) := by decide +kernel
theorem dX1_readLine_31 : decode cX1_readLine 31 = .ok (.invokevirtual 49, 3) := by decide +kernel
theorem dX1_readLine_34 : decode cX1_readLine 34 = .ok (.ifCond .eq 27, 3) := by decide +kernel
theorem dX1_readLine_37 : decode cX1_readLine 37 = .ok (.aload_n 0, 1) := by decide +kernel
theorem dX1_readLine_38 : decode cX1_readLine 38 = .ok (.getstatic 52, 3) := by decide +kernel
theorem dX1_readLine_41 : decode cX1_readLine 41 = .ok (.invokevirtual 55, 3) := by decide +kernel
theorem dX1_readLine_44 : decode cX1_readLine 44 = .ok (.aload_n 0, 1) := by decide +kernel
theorem dX1_readLine_45 : decode cX1_readLine 45 = .ok (.getstatic 68, 3) := by decide +kernel
theorem dX1_readLine_48 : decode cX1_readLine 48 = .ok (.invokevirtual 71, 3) := by decide +kernel
theorem dX1_readLine_51 : decode cX1_readLine 51 = .ok (.aload_n 0, 1) := by decide +kernel
theorem dX1_readLine_52 : decode cX1_readLine 52 = .ok (.getstatic 74, 3) := by decide +kernel
theorem dX1_readLine_55 : decode cX1_readLine 55 = .ok (.invokevirtual 62, 3) := by decide +kernel
theorem dX1_readLine_58 : decode cX1_readLine 58 = .ok (.goto 78, 3) := by decide +kernel
theorem dX1_readLine_61 : decode cX1_readLine 61 = .ok (.aload_n 0, 1) := by decide +kernel
theorem dX1_readLine_62 : decode cX1_readLine 62 = .ok (.getstatic 77, 3) := by decide +kernel
theorem dX1_readLine_65 : decode cX1_readLine 65 = .ok (.invokevirtual 49, 3) := by decide +kernel
theorem dX1_readLine_68 : decode cX1_readLine 68 = .ok (.ifCond .eq 13, 3) := by decide +kernel
theorem dX1_readLine_71 : decode cX1_readLine 71 = .ok (.aload_n 0, 1) := by decide +kernel
theorem dX1_readLine_72 : decode cX1_readLine 72 = .ok (.getstatic 80, 3) := by decide +kernel
theorem dX1_readLine_75 : decode cX1_readLine 75 = .ok (.invokevirtual 83, 3) := by decide +kernel
theorem dX1_readLine_78 : decode cX1_readLine 78 = .ok (.goto 58, 3) := by decide +kernel
theorem dX1_readLine_81 : decode cX1_readLine 81 = .ok (.aload_n 0, 1) := by decide +kernel
theorem dX1_readLine_82 : decode cX1_readLine 82 = .ok (.getstatic 86, 3) := by decide +kernel
theorem dX1_readLine_85 : decode cX1_readLine 85 = .ok (.invokevirtual 49, 3) := by decide +kernel
theorem dX1_readLine_88 : decode cX1_readLine 88 = .ok (.ifCond .eq 13, 3) := by decide +kernel
theorem dX1_readLine_91 : decode cX1_readLine 91 = .ok (.aload_n 0, 1) := by decide +kernel
theorem dX1_readLine_92 : decode cX1_readLine 92 = .ok (.getstatic 89, 3) := by decide +kernel
theorem dX1_readLine_95 : decode cX1_readLine 95 = .ok (.invokevirtual 83, 3) := by decide +kernel
theorem dX1_readLine_98 : decode cX1_readLine 98 = .ok (.goto 38, 3) := by decide +kernel
theorem dX1_readLine_101 : decode cX1_readLine 101 = .ok (.aload_n 0, 1) := by decide +kernel
theorem dX1_readLine_102 : decode cX1_readLine 102 = .ok (.getstatic 92, 3) := by decide +kernel
theorem dX1_readLine_105 : decode cX1_readLine 105 = .ok (.invokevirtual 49, 3) := by decide +kernel
theorem dX1_readLine_108 : decode cX1_readLine 108 = .ok (.ifCond .ne 13, 3) := by decide +kernel
theorem dX1_readLine_111 : decode cX1_readLine 111 = .ok (.aload_n 0, 1) := by decide +kernel
theorem dX1_readLine_112 : decode cX1_readLine 112 = .ok (.getstatic 95, 3) := by decide +kernel
theorem dX1_readLine_115 : decode cX1_readLine 115 = .ok (.invokevirtual 49, 3) := by decide +kernel
theorem dX1_readLine_118 : decode cX1_readLine 118 = .ok (.ifCond .eq 13, 3) := by decide +kernel
theorem dX1_readLine_121 : decode cX1_readLine 121 = .ok (.aload_n 0, 1) := by decide +kernel
theorem dX1_readLine_122 : decode cX1_readLine 122 = .ok (.getstatic 52, 3) := by decide +kernel
theorem dX1_readLine_125 : decode cX1_readLine 125 = .ok (.invokevirtual 55, 3) := by decide +kernel
theorem dX1_readLine_128 : decode cX1_readLine 128 = .ok (.goto 8, 3) := by decide +kernel
theorem dX1_readLine_131 : decode cX1_readLine 131 = .ok (.aload_n 0, 1) := by decide +kernel
theorem dX1_readLine_132 : decode cX1_readLine 132 = .ok (.iconst 0, 1) := by decide +kernel
theorem dX1_readLine_133 : decode cX1_readLine 133 = .ok (.putfield 19, 3) := by decide +kernel
theorem dX1_readLine_136 : decode cX1_readLine 136 = .ok (.aload_n 0, 1) := by decide +kernel
theorem dX1_readLine_137 : decode cX1_readLine 137 = .ok (.getstatic 98, 3) := by decide +kernel
theorem dX1_readLine_140 : decode cX1_readLine 140 = .ok (.invokevirtual 55, 3) := by decide +kernel
theorem dX1_readLine_143 : decode cX1_readLine 143 = .ok (.return_, 1) := by decide +kernel
theorem dX1_readMove_0 : decode cX1_readMove 0 = .ok (.aload_n 0, 1) := by decide +kernel
theorem dX1_readMove_1 : decode cX1_readMove 1 = .ok (.getstatic 52, 3) := by decide +kernel
theorem dX1_readMove_4 : decode cX1_readMove 4 = .ok (.invokevirtual 55, 3) := by decide +kernel
theorem dX1_readMove_7 : decode cX1_readMove 7 = .ok (.aload_n 0, 1) := by decide +kernel
theorem dX1_readMove_8 : decode cX1_readMove 8 = .ok (.getstatic 101, 3) := by decide +kernel
theorem dX1_readMove_11 : decode cX1_readMove 11 = .ok (.invokevirtual 71, 3) := by decide +kernel
theorem dX1_readMove_14 : decode cX1_readMove 14 = .ok (.aload_n 0, 1) := by decide +kernel
theorem dX1_readMove_15 : decode cX1_readMove 15 = .ok (.aload_n 1, 1) := by decide +kernel
theorem dX1_readMove_16 : decode cX1_readMove 16 = .ok (.invokevirtual 71, 3) := by decide +kernel
theorem dX1_readMove_19 : decode cX1_readMove 19 = .ok (.aload_n 0, 1) := by decide +kernel
theorem dX1_readMove_20 : decode cX1_readMove 20 = .ok (.getstatic 104, 3) := by decide +kernel
theorem dX1_readMove_23 : decode cX1_readMove 23 = .ok (.invokevirtual 62, 3) := by decide +kernel
theorem dX1_readMove_26 : decode cX1_readMove 26 = .ok (.aload_n 0, 1) := by decide +kernel
theorem dX1_readMove_27 : decode cX1_readMove 27 = .ok (.getstatic 107, 3) := by decide +kernel
theorem dX1_readMove_30 : decode cX1_readMove 30 = .ok (.invokevirtual 49, 3) := by decide +kernel
theorem dX1_readMove_33 : decode cX1_readMove 33 = .ok (.ifCond .eq 8, 3) := by decide +kernel
theorem dX1_readMove_36 : decode cX1_readMove 36 = .ok (.aload_n 0, 1) := by decide +kernel
theorem dX1_readMove_37 : decode cX1_readMove 37 = .ok (.iconst 0, 1) := by decide +kernel
theorem dX1_readMove_38 : decode cX1_readMove 38 = .ok (.invokevirtual 110, 3) := by decide +kernel
theorem dX1_readMove_41 : decode cX1_readMove 41 = .ok (.return_, 1) := by decide +kernel
theorem dX1_readNameBehind_0 : decode cX1_readNameBehind 0 = .ok (.aload_n 0, 1) := by decide +kernel
theorem dX1_readNameBehind_1 : decode cX1_readNameBehind 1 = .ok (.aload_n 1, 1) := by decide +kernel
theorem dX1_readNameBehind_2 : decode cX1_readNameBehind 2 = .ok (.invokevirtual 55, 3) := by decide +kernel
theorem dX1_readNameBehind_5 : decode cX1_readNameBehind 5 = .ok (.aload_n 0, 1) := by decide +kernel
theorem dX1_readNameBehind_6 : decode cX1_readNameBehind 6 = .ok (.getstatic 52, 3) := by decide +kernel
theorem dX1_readNameBehind_9 : decode cX1_readNameBehind 9 = .ok (.invokevirtual 55, 3) := by decide +kernel
theorem dX1_readNameBehind_12 : decode cX1_readNameBehind 12 = .ok (.return_, 1) := by decide +kernel
theorem dX1_readNumberBehind_0 : decode cX1_readNumberBehind 0 = .ok (.aload_n 0, 1) := by decide +kernel
theorem dX1_readNumberBehind_1 : decode cX1_readNumberBehind 1 = .ok (.aload_n 1, 1) := by decide +kernel
theorem dX1_readNumberBehind_2 : decode cX1_readNumberBehind 2 = .ok (.invokevirtual 49, 3) := by decide +kernel
theorem dX1_readNumberBehind_5 : decode cX1_readNumberBehind 5 = .ok (.ifCond .eq 10, 3) := by decide +kernel
theorem dX1_readNumberBehind_8 : decode cX1_readNumberBehind 8 = .ok (.aload_n 0, 1) := by decide +kernel
theorem dX1_readNumberBehind_9 : decode cX1_readNumberBehind 9 = .ok (.getstatic 114, 3) := by decide +kernel
theorem dX1_readNumberBehind_12 : decode cX1_readNumberBehind 12 = .ok (.invokevirtual 55, 3) := by decide +kernel
theorem dX1_readNumberBehind_15 : decode cX1_readNumberBehind 15 = .ok (.return_, 1) := by decide +kernel
theorem dX1_readSingle_0 : decode cX1_readSingle 0 = .ok (.aload_n 0, 1) := by decide +kernel
theorem dX1_readSingle_1 : decode cX1_readSingle 1 = .ok (.getstatic 126, 3) := by decide +kernel
theorem dX1_readSingle_4 : decode cX1_readSingle 4 = .ok (.invokevirtual 49, 3) := by decide +kernel
theorem dX1_readSingle_7 : decode cX1_readSingle 7 = .ok (.ifCond .ne 33, 3) := by decide +kernel
theorem dX1_readSingle_10 : decode cX1_readSingle 10 = .ok (.aload_n 0, 1) := by decide +kernel
theorem dX1_readSingle_11 : decode cX1_readSingle 11 = .ok (.getstatic 129, 3) := by decide +kernel
theorem dX1_readSingle_14 : decode cX1_readSingle 14 = .ok (.invokevirtual 49, 3) := by decide +kernel
theorem dX1_readSingle_17 : decode cX1_readSingle 17 = .ok (.ifCond .ne 23, 3) := by decide +kernel
theorem dX1_readSingle_20 : decode cX1_readSingle 20 = .ok (.aload_n 0, 1) := by decide +kernel
theorem dX1_readSingle_21 : decode cX1_readSingle 21 = .ok (.getstatic 132, 3) := by decide +kernel
theorem dX1_readSingle_24 : decode cX1_readSingle 24 = .ok (.invokevirtual 49, 3) := by decide +kernel
theorem dX1_readSingle_27 : decode cX1_readSingle 27 = .ok (.ifCond .ne 13, 3) := by decide +kernel
theorem dX1_readSingle_30 : decode cX1_readSingle 30 = .ok (.aload_n 0, 1) := by decide +kernel
theorem dX1_readSingle_31 : decode cX1_readSingle 31 = .ok (.getstatic 135, 3) := by decide +kernel
theorem dX1_readSingle_34 : decode cX1_readSingle 34 = .ok (.invokevirtual 49, 3) := by decide +kernel
theorem dX1_readSingle_37 : decode cX1_readSingle 37 = .ok (.ifCond .eq 13, 3) := by decide +kernel
theorem dX1_readSingle_40 : decode cX1_readSingle 40 = .ok (.aload_n 0, 1) := by decide +kernel
theorem dX1_readSingle_41 : decode cX1_readSingle 41 = .ok (.getstatic 52, 3) := by decide +kernel
theorem dX1_readSingle_44 : decode cX1_readSingle 44 = .ok (.invokevirtual 55, 3) := by decide +kernel
theorem dX1_readSingle_47 : decode cX1_readSingle 47 = .ok (.goto 65, 3) := by decide +kernel
theorem dX1_readSingle_50 : decode cX1_readSingle 50 = .ok (.iload_n 1, 1) := by decide +kernel
theorem dX1_readSingle_51 : decode cX1_readSingle 51 = .ok (.bipush 6, 2) := by decide +kernel
theorem dX1_readSingle_53 : decode cX1_readSingle 53 = .ok (.if_icmp .lt 11, 3) := by decide +kernel
theorem dX1_readSingle_56 : decode cX1_readSingle 56 = .ok (.aload_n 0, 1) := by decide +kernel
theorem dX1_readSingle_57 : decode cX1_readSingle 57 = .ok (.iconst 0, 1) := by decide +kernel
theorem dX1_readSingle_58 : decode cX1_readSingle 58 = .ok (.putfield 19, 3) := by decide +kernel
theorem dX1_readSingle_61 : decode cX1_readSingle 61 = .ok (.goto 51, 3) := by decide +kernel
theorem dX1_readSingle_64 : decode cX1_readSingle 64 = .ok (.aload_n 0, 1) := by decide +kernel
theorem dX1_readSingle_65 : decode cX1_readSingle 65 = .ok (.getstatic 138, 3) := by decide +kernel
theorem dX1_readSingle_68 : decode cX1_readSingle 68 = .ok (.invokevirtual 49, 3) := by decide +kernel
theorem dX1_readSingle_71 : decode cX1_readSingle 71 = .ok (.ifCond .eq 13, 3) := by decide +kernel
theorem dX1_readSingle_74 : decode cX1_readSingle 74 = .ok (.aload_n 0, 1) := by decide +kernel
theorem dX1_readSingle_75 : decode cX1_readSingle 75 = .ok (.iload_n 1, 1) := by decide +kernel
theorem dX1_readSingle_76 : decode cX1_readSingle 76 = .ok (.iconst 1, 1) := by decide +kernel
theorem dX1_readSingle_77 : decode cX1_readSingle 77 = .ok (.iadd, 1) := by decide +kernel
theorem dX1_readSingle_78 : decode cX1_readSingle 78 = .ok (.invokevirtual 117, 3) := by decide +kernel
theorem dX1_readSingle_81 : decode cX1_readSingle 81 = .ok (.goto 31, 3) := by decide +kernel
theorem dX1_readSingle_84 : decode cX1_readSingle 84 = .ok (.aload_n 0, 1) := by decide +kernel
theorem dX1_readSingle_85 : decode cX1_readSingle 85 = .ok (.getstatic 141, 3) := by decide +kernel
theorem dX1_readSingle_88 : decode cX1_readSingle 88 = .ok (.invokevirtual 55, 3) := by decide +kernel
theorem dX1_readSingle_91 : decode cX1_readSingle 91 = .ok (.aload_n 0, 1) := by decide +kernel
theorem dX1_readSingle_92 : decode cX1_readSingle 92 = .ok (.getfield 19, 3) := by decide +kernel
theorem dX1_readSingle_95 : decode cX1_readSingle 95 = .ok (.ifCond .eq 10, 3) := by decide +kernel
theorem dX1_readSingle_98 : decode cX1_readSingle 98 = .ok (.aload_n 0, 1) := by decide +kernel
theorem dX1_readSingle_99 : decode cX1_readSingle 99 = .ok (.iload_n 1, 1) := by decide +kernel
theorem dX1_readSingle_100 : decode cX1_readSingle 100 = .ok (.iconst 1, 1) := by decide +kernel
theorem dX1_readSingle_101 : decode cX1_readSingle 101 = .ok (.iadd, 1) := by decide +kernel
theorem dX1_readSingle_102 : decode cX1_readSingle 102 = .ok (.invokevirtual 110, 3) := by decide +kernel
theorem dX1_readSingle_105 : decode cX1_readSingle 105 = .ok (.aload_n 0, 1) := by decide +kernel
theorem dX1_readSingle_106 : decode cX1_readSingle 106 = .ok (.getstatic 144, 3) := by decide +kernel
theorem dX1_readSingle_109 : decode cX1_readSingle 109 = .ok (.invokevirtual 55, 3) := by decide +kernel
theorem dX1_readSingle_112 : decode cX1_readSingle 112 = .ok (.return_, 1) := by decide +kernel
theorem dX1_sees_0 : decode cX1_sees 0 = .ok (.aload_n 0, 1) := by decide +kernel
theorem dX1_sees_1 : decode cX1_sees 1 = .ok (.getfield 19, 3) := by decide +kernel
theorem dX1_sees_4 : decode cX1_sees 4 = .ok (.ifCond .eq 22, 3) := by decide +kernel
theorem dX1_sees_7 : decode cX1_sees 7 = .ok (.aload_n 0, 1) := by decide +kernel
theorem dX1_sees_8 : decode cX1_sees 8 = .ok (.getfield 9, 3) := by decide +kernel
theorem dX1_sees_11 : decode cX1_sees 11 = .ok (.aload_n 0, 1) := by decide +kernel
theorem dX1_sees_12 : decode cX1_sees 12 = .ok (.getfield 15, 3) := by decide +kernel
theorem dX1_sees_15 : decode cX1_sees 15 = .ok (.invokevirtual 42, 3) := by decide +kernel
theorem dX1_sees_18 : decode cX1_sees 18 = .ok (.aload_n 1, 1) := by decide +kernel
theorem dX1_sees_19 : decode cX1_sees 19 = .ok (.if_acmp .ne 7, 3) := by decide +kernel
theorem dX1_sees_22 : decode cX1_sees 22 = .ok (.iconst 1, 1) := by decide +kernel
theorem dX1_sees_23 : decode cX1_sees 23 = .ok (.goto 4, 3) := by decide +kernel
theorem dX1_sees_26 : decode cX1_sees 26 = .ok (.iconst 0, 1) := by decide +kernel
theorem dX1_sees_27 : decode cX1_sees 27 = .ok (.ireturn, 1) := by decide +kernel
theorem dX1_takes_0 : decode cX1_takes 0 = .ok (.aload_n 0, 1) := by decide +kernel
theorem dX1_takes_1 : decode cX1_takes 1 = .ok (.getfield 19, 3) := by decide +kernel
theorem dX1_takes_4 : decode cX1_takes 4 = .ok (.ifCond .eq 18, 3) := by decide +kernel
theorem dX1_takes_7 : decode cX1_takes 7 = .ok (.aload_n 0, 1) := by decide +kernel
theorem dX1_takes_8 : decode cX1_takes 8 = .ok (.getfield 9, 3) := by decide +kernel
theorem dX1_takes_11 : decode cX1_takes 11 = .ok (.aload_n 0, 1) := by decide +kernel
theorem dX1_takes_12 : decode cX1_takes 12 = .ok (.getfield 15, 3) := by decide +kernel
theorem dX1_takes_15 : decode cX1_takes 15 = .ok (.invokevirtual 42, 3) := by decide +kernel
theorem dX1_takes_18 : decode cX1_takes 18 = .ok (.aload_n 1, 1) := by decide +kernel
theorem dX1_takes_19 : decode cX1_takes 19 = .ok (.if_acmp .eq 5, 3) := by decide +kernel
theorem dX1_takes_22 : decode cX1_takes 22 = .ok (.iconst 0, 1) := by decide +kernel
theorem dX1_takes_23 : decode cX1_takes 23 = .ok (.ireturn, 1) := by decide +kernel
theorem dX1_takes_24 : decode cX1_takes 24 = .ok (.aload_n 0, 1) := by decide +kernel
theorem dX1_takes_25 : decode cX1_takes 25 = .ok (.dup, 1) := by decide +kernel
theorem dX1_takes_26 : decode cX1_takes 26 = .ok (.getfield 15, 3) := by decide +kernel
theorem dX1_takes_29 : decode cX1_takes 29 = .ok (.iconst 1, 1) := by decide +kernel
theorem dX1_takes_30 : decode cX1_takes 30 = .ok (.iadd, 1) := by decide +kernel
theorem dX1_takes_31 : decode cX1_takes 31 = .ok (.putfield 15, 3) := by decide +kernel
theorem dX1_takes_34 : decode cX1_takes 34 = .ok (.iconst 1, 1) := by decide +kernel
theorem dX1_takes_35 : decode cX1_takes 35 = .ok (.ireturn, 1) := by decide +kernel
theorem dX2_code_0 : decode cX2_code 0 = .ok (.aload_n 0, 1) := by decide +kernel
theorem dX2_code_1 : decode cX2_code 1 = .ok (.getfield 111, 3) := by decide +kernel
theorem dX2_code_4 : decode cX2_code 4 = .ok (.lreturn, 1) := by decide +kernel
theorem dX3_append_0 : decode cX3_append 0 = .ok (.aload_n 0, 1) := by decide +kernel
theorem dX3_append_1 : decode cX3_append 1 = .ok (.getfield 19, 3) := by decide +kernel
theorem dX3_append_4 : decode cX3_append 4 = .ok (.ifCond .lt 36, 3) := by decide +kernel
theorem dX3_append_7 : decode cX3_append 7 = .ok (.aload_n 0, 1) := by decide +kernel
theorem dX3_append_8 : decode cX3_append 8 = .ok (.getfield 19, 3) := by decide +kernel
theorem dX3_append_11 : decode cX3_append 11 = .ok (.aload_n 0, 1) := by decide +kernel
theorem dX3_append_12 : decode cX3_append 12 = .ok (.getfield 13, 3) := by decide +kernel
theorem dX3_append_15 : decode cX3_append 15 = .ok (.arraylength, 1) := by decide +kernel
theorem dX3_append_16 : decode cX3_append 16 = .ok (.if_icmp .ge 24, 3) := by decide +kernel
theorem dX3_append_19 : decode cX3_append 19 = .ok (.aload_n 0, 1) := by decide +kernel
theorem dX3_append_20 : decode cX3_append 20 = .ok (.getfield 13, 3) := by decide +kernel
theorem dX3_append_23 : decode cX3_append 23 = .ok (.aload_n 0, 1) := by decide +kernel
theorem dX3_append_24 : decode cX3_append 24 = .ok (.getfield 19, 3) := by decide +kernel
theorem dX3_append_27 : decode cX3_append 27 = .ok (.iload_n 1, 1) := by decide +kernel
theorem dX3_append_28 : decode cX3_append 28 = .ok (.i2b, 1) := by decide +kernel
theorem dX3_append_29 : decode cX3_append 29 = .ok (.bastore, 1) := by decide +kernel
theorem dX3_append_30 : decode cX3_append 30 = .ok (.aload_n 0, 1) := by decide +kernel
theorem dX3_append_31 : decode cX3_append 31 = .ok (.dup, 1) := by decide +kernel
theorem dX3_append_32 : decode cX3_append 32 = .ok (.getfield 19, 3) := by decide +kernel
theorem dX3_append_35 : decode cX3_append 35 = .ok (.iconst 1, 1) := by decide +kernel
theorem dX3_append_36 : decode cX3_append 36 = .ok (.iadd, 1) := by decide +kernel
theorem dX3_append_37 : decode cX3_append 37 = .ok (.putfield 19, 3) := by decide +kernel
theorem dX3_append_40 : decode cX3_append 40 = .ok (.return_, 1) := by decide +kernel
theorem dX3_appendFour_0 : decode cX3_appendFour 0 = .ok (.aload_n 0, 1) := by decide +kernel
theorem dX3_appendFour_1 : decode cX3_appendFour 1 = .ok (.iload_n 1, 1) := by decide +kernel
theorem dX3_appendFour_2 : decode cX3_appendFour 2 = .ok (.bipush 24, 2) := by decide +kernel
theorem dX3_appendFour_4 : decode cX3_appendFour 4 = .ok (.ishr, 1) := by decide +kernel
theorem dX3_appendFour_5 : decode cX3_appendFour 5 = .ok (.invokevirtual 23, 3) := by decide +kernel
theorem dX3_appendFour_8 : decode cX3_appendFour 8 = .ok (.aload_n 0, 1) := by decide +kernel
theorem dX3_appendFour_9 : decode cX3_appendFour 9 = .ok (.iload_n 1, 1) := by decide +kernel
theorem dX3_appendFour_10 : decode cX3_appendFour 10 = .ok (.bipush 16, 2) := by decide +kernel
theorem dX3_appendFour_12 : decode cX3_appendFour 12 = .ok (.ishr, 1) := by decide +kernel
theorem dX3_appendFour_13 : decode cX3_appendFour 13 = .ok (.invokevirtual 23, 3) := by decide +kernel
theorem dX3_appendFour_16 : decode cX3_appendFour 16 = .ok (.aload_n 0, 1) := by decide +kernel
theorem dX3_appendFour_17 : decode cX3_appendFour 17 = .ok (.iload_n 1, 1) := by decide +kernel
theorem dX3_appendFour_18 : decode cX3_appendFour 18 = .ok (.bipush 8, 2) := by decide +kernel
theorem dX3_appendFour_20 : decode cX3_appendFour 20 = .ok (.ishr, 1) := by decide +kernel
theorem dX3_appendFour_21 : decode cX3_appendFour 21 = .ok (.invokevirtual 23, 3) := by decide +kernel
theorem dX3_appendFour_24 : decode cX3_appendFour 24 = .ok (.aload_n 0, 1) := by decide +kernel
theorem dX3_appendFour_25 : decode cX3_appendFour 25 = .ok (.iload_n 1, 1) := by decide +kernel
theorem dX3_appendFour_26 : decode cX3_appendFour 26 = .ok (.invokevirtual 23, 3) := by decide +kernel
theorem dX3_appendFour_29 : decode cX3_appendFour 29 = .ok (.return_, 1) := by decide +kernel
theorem dX3_at_0 : decode cX3_at 0 = .ok (.iload_n 1, 1) := by decide +kernel
theorem dX3_at_1 : decode cX3_at 1 = .ok (.ifCond .lt 33, 3) := by decide +kernel
theorem dX3_at_4 : decode cX3_at 4 = .ok (.iload_n 1, 1) := by decide +kernel
theorem dX3_at_5 : decode cX3_at 5 = .ok (.aload_n 0, 1) := by decide +kernel
theorem dX3_at_6 : decode cX3_at 6 = .ok (.getfield 19, 3) := by decide +kernel
theorem dX3_at_9 : decode cX3_at 9 = .ok (.if_icmp .ge 25, 3) := by decide +kernel
theorem dX3_at_12 : decode cX3_at 12 = .ok (.iload_n 1, 1) := by decide +kernel
theorem dX3_at_13 : decode cX3_at 13 = .ok (.aload_n 0, 1) := by decide +kernel
theorem dX3_at_14 : decode cX3_at 14 = .ok (.getfield 13, 3) := by decide +kernel
theorem dX3_at_17 : decode cX3_at 17 = .ok (.arraylength, 1) := by decide +kernel
theorem dX3_at_18 : decode cX3_at 18 = .ok (.if_icmp .ge 16, 3) := by decide +kernel
theorem dX3_at_21 : decode cX3_at 21 = .ok (.aload_n 0, 1) := by decide +kernel
theorem dX3_at_22 : decode cX3_at 22 = .ok (.getfield 13, 3) := by decide +kernel
theorem dX3_at_25 : decode cX3_at 25 = .ok (.iload_n 1, 1) := by decide +kernel
theorem dX3_at_26 : decode cX3_at 26 = .ok (.baload, 1) := by decide +kernel
theorem dX3_at_27 : decode cX3_at 27 = .ok (.sipush 255, 3) := by decide +kernel
theorem dX3_at_30 : decode cX3_at 30 = .ok (.iand, 1) := by decide +kernel
theorem dX3_at_31 : decode cX3_at 31 = .ok (.goto 4, 3) := by decide +kernel
theorem dX3_at_34 : decode cX3_at 34 = .ok (.iconst 0, 1) := by decide +kernel
theorem dX3_at_35 : decode cX3_at 35 = .ok (.ireturn, 1) := by decide +kernel
theorem dX3_length_0 : decode cX3_length 0 = .ok (.aload_n 0, 1) := by decide +kernel
theorem dX3_length_1 : decode cX3_length 1 = .ok (.getfield 19, 3) := by decide +kernel
theorem dX3_length_4 : decode cX3_length 4 = .ok (.ireturn, 1) := by decide +kernel
theorem dX3_shortenTo_0 : decode cX3_shortenTo 0 = .ok (.iload_n 1, 1) := by decide +kernel
theorem dX3_shortenTo_1 : decode cX3_shortenTo 1 = .ok (.ifCond .lt 16, 3) := by decide +kernel
theorem dX3_shortenTo_4 : decode cX3_shortenTo 4 = .ok (.iload_n 1, 1) := by decide +kernel
theorem dX3_shortenTo_5 : decode cX3_shortenTo 5 = .ok (.aload_n 0, 1) := by decide +kernel
theorem dX3_shortenTo_6 : decode cX3_shortenTo 6 = .ok (.getfield 19, 3) := by decide +kernel
theorem dX3_shortenTo_9 : decode cX3_shortenTo 9 = .ok (.if_icmp .gt 8, 3) := by decide +kernel
theorem dX3_shortenTo_12 : decode cX3_shortenTo 12 = .ok (.aload_n 0, 1) := by decide +kernel
theorem dX3_shortenTo_13 : decode cX3_shortenTo 13 = .ok (.iload_n 1, 1) := by decide +kernel
theorem dX3_shortenTo_14 : decode cX3_shortenTo 14 = .ok (.putfield 19, 3) := by decide +kernel
theorem dX3_shortenTo_17 : decode cX3_shortenTo 17 = .ok (.return_, 1) := by decide +kernel
theorem dX4_findMore_0 : decode cX4_findMore 0 = .ok (.lload_n 2, 1) := by decide +kernel
theorem dX4_findMore_1 : decode cX4_findMore 1 = .ok (.lstore 4, 2) := by decide +kernel
theorem dX4_findMore_3 : decode cX4_findMore 3 = .ok (.lconst 0, 1) := by decide +kernel
theorem dX4_findMore_4 : decode cX4_findMore 4 = .ok (.lstore 6, 2) := by decide +kernel
theorem dX4_findMore_6 : decode cX4_findMore 6 = .ok (.lconst 0, 1) := by decide +kernel
theorem dX4_findMore_7 : decode cX4_findMore 7 = .ok (.lstore 8, 2) := by decide +kernel
theorem dX4_findMore_9 : decode cX4_findMore 9 = .ok (.lconst 0, 1) := by decide +kernel
theorem dX4_findMore_10 : decode cX4_findMore 10 = .ok (.lstore 10, 2) := by decide +kernel
theorem dX4_findMore_12 : decode cX4_findMore 12 = .ok (.iconst 0, 1) := by decide +kernel
theorem dX4_findMore_13 : decode cX4_findMore 13 = .ok (.istore 12, 2) := by decide +kernel
theorem dX4_findMore_15 : decode cX4_findMore 15 = .ok (.iload 12, 2) := by decide +kernel
theorem dX4_findMore_17 : decode cX4_findMore 17 = .ok (.aload_n 0, 1) := by decide +kernel
theorem dX4_findMore_18 : decode cX4_findMore 18 = .ok (.getfield 15, 3) := by decide +kernel
theorem dX4_findMore_21 : decode cX4_findMore 21 = .ok (.invokevirtual 43, 3) := by decide +kernel
theorem dX4_findMore_24 : decode cX4_findMore 24 = .ok (.if_icmp .ge 138, 3) := by decide +kernel
theorem dX4_findMore_27 : decode cX4_findMore 27 = .ok (.aload_n 0, 1) := by decide +kernel
theorem dX4_findMore_28 : decode cX4_findMore 28 = .ok (.getfield 15, 3) := by decide +kernel
theorem dX4_findMore_31 : decode cX4_findMore 31 = .ok (.iload 12, 2) := by decide +kernel
theorem dX4_findMore_33 : decode cX4_findMore 33 = .ok (.invokevirtual 47, 3) := by decide +kernel
theorem dX4_findMore_36 : decode cX4_findMore 36 = .ok (.ifCond .eq 57, 3) := by decide +kernel
theorem dX4_findMore_39 : decode cX4_findMore 39 = .ok (.aload_n 0, 1) := by decide +kernel
theorem dX4_findMore_40 : decode cX4_findMore 40 = .ok (.getfield 15, 3) := by decide +kernel
theorem dX4_findMore_43 : decode cX4_findMore 43 = .ok (.iload 12, 2) := by decide +kernel
theorem dX4_findMore_45 : decode cX4_findMore 45 = .ok (.invokevirtual 51, 3) := by decide +kernel
theorem dX4_findMore_48 : decode cX4_findMore 48 = .ok (.invokestatic 55, 3) := by decide +kernel
theorem dX4_findMore_51 : decode cX4_findMore 51 = .ok (.lstore 13, 2) := by decide +kernel
theorem dX4_findMore_53 : decode cX4_findMore 53 = .ok (.lload 4, 2) := by decide +kernel
theorem dX4_findMore_55 : decode cX4_findMore 55 = .ok (.aload_n 0, 1) := by decide +kernel
theorem dX4_findMore_56 : decode cX4_findMore 56 = .ok (.iload 12, 2) := by decide +kernel
theorem dX4_findMore_58 : decode cX4_findMore 58 = .ok (.invokevirtual 59, 3) := by decide +kernel
theorem dX4_findMore_61 : decode cX4_findMore 61 = .ok (.ifCond .eq 8, 3) := by decide +kernel
theorem dX4_findMore_64 : decode cX4_findMore 64 = .ok (.lload 13, 2) := by decide +kernel
theorem dX4_findMore_66 : decode cX4_findMore 66 = .ok (.goto 4, 3) := by decide +kernel
theorem dX4_findMore_69 : decode cX4_findMore 69 = .ok (.lconst 0, 1) := by decide +kernel
theorem dX4_findMore_70 : decode cX4_findMore 70 = .ok (.lor, 1) := by decide +kernel
theorem dX4_findMore_71 : decode cX4_findMore 71 = .ok (.lstore 4, 2) := by decide +kernel
theorem dX4_findMore_73 : decode cX4_findMore 73 = .ok (.lload 6, 2) := by decide +kernel
theorem dX4_findMore_75 : decode cX4_findMore 75 = .ok (.aload_n 0, 1) := by decide +kernel
theorem dX4_findMore_76 : decode cX4_findMore 76 = .ok (.iload 12, 2) := by decide +kernel
theorem dX4_findMore_78 : decode cX4_findMore 78 = .ok (.invokevirtual 62, 3) := by decide +kernel
theorem dX4_findMore_81 : decode cX4_findMore 81 = .ok (.ifCond .eq 7, 3) := by decide +kernel
theorem dX4_findMore_84 : decode cX4_findMore 84 = .ok (.lconst 0, 1) := by decide +kernel
theorem dX4_findMore_85 : decode cX4_findMore 85 = .ok (.goto 5, 3) := by decide +kernel
theorem dX4_findMore_88 : decode cX4_findMore 88 = .ok (.lload 13, 2) := by decide +kernel
theorem dX4_findMore_90 : decode cX4_findMore 90 = .ok (.lor, 1) := by decide +kernel
theorem dX4_findMore_91 : decode cX4_findMore 91 = .ok (.lstore 6, 2) := by decide +kernel
theorem dX4_findMore_93 : decode cX4_findMore 93 = .ok (.aload_n 0, 1) := by decide +kernel
theorem dX4_findMore_94 : decode cX4_findMore 94 = .ok (.getfield 15, 3) := by decide +kernel
theorem dX4_findMore_97 : decode cX4_findMore 97 = .ok (.iload 12, 2) := by decide +kernel
theorem dX4_findMore_99 : decode cX4_findMore 99 = .ok (.invokevirtual 65, 3) := by decide +kernel
theorem dX4_findMore_102 : decode cX4_findMore 102 = .ok (.istore 13, 2) := by decide +kernel
theorem dX4_findMore_104 : decode cX4_findMore 104 = .ok (.iload 13, 2) := by decide +kernel
theorem dX4_findMore_106 : decode cX4_findMore 106 = .ok (.iconst (-1), 1) := by decide +kernel
theorem dX4_findMore_107 : decode cX4_findMore 107 = .ok (.if_icmp .eq 49, 3) := by decide +kernel
theorem dX4_findMore_110 : decode cX4_findMore 110 = .ok (.lload 8, 2) := by decide +kernel
theorem dX4_findMore_112 : decode cX4_findMore 112 = .ok (.aload_n 0, 1) := by decide +kernel
theorem dX4_findMore_113 : decode cX4_findMore 113 = .ok (.iload 13, 2) := by decide +kernel
theorem dX4_findMore_115 : decode cX4_findMore 115 = .ok (.invokevirtual 62, 3) := by decide +kernel
theorem dX4_findMore_118 : decode cX4_findMore 118 = .ok (.ifCond .eq 11, 3) := by decide +kernel
theorem dX4_findMore_121 : decode cX4_findMore 121 = .ok (.iload 12, 2) := by decide +kernel
theorem dX4_findMore_123 : decode cX4_findMore 123 = .ok (.invokestatic 55, 3) := by decide +kernel
theorem dX4_findMore_126 : decode cX4_findMore 126 = .ok (.goto 4, 3) := by decide +kernel
theorem dX4_findMore_129 : decode cX4_findMore 129 = .ok (.lconst 0, 1) := by decide +kernel
theorem dX4_findMore_130 : decode cX4_findMore 130 = .ok (.lor, 1) := by decide +kernel
theorem dX4_findMore_131 : decode cX4_findMore 131 = .ok (.lstore 8, 2) := by decide +kernel
theorem dX4_findMore_133 : decode cX4_findMore 133 = .ok (.lload 10, 2) := by decide +kernel
theorem dX4_findMore_135 : decode cX4_findMore 135 = .ok (.aload_n 0, 1) := by decide +kernel
theorem dX4_findMore_136 : decode cX4_findMore 136 = .ok (.iload 13, 2) := by decide +kernel
theorem dX4_findMore_138 : decode cX4_findMore 138 = .ok (.invokevirtual 59, 3) := by decide +kernel
theorem dX4_findMore_141 : decode cX4_findMore 141 = .ok (.ifCond .eq 7, 3) := by decide +kernel
theorem dX4_findMore_144 : decode cX4_findMore 144 = .ok (.lconst 0, 1) := by decide +kernel
theorem dX4_findMore_145 : decode cX4_findMore 145 = .ok (.goto 8, 3) := by decide +kernel
theorem dX4_findMore_148 : decode cX4_findMore 148 = .ok (.iload 12, 2) := by decide +kernel
theorem dX4_findMore_150 : decode cX4_findMore 150 = .ok (.invokestatic 55, 3) := by decide +kernel
theorem dX4_findMore_153 : decode cX4_findMore 153 = .ok (.lor, 1) := by decide +kernel
theorem dX4_findMore_154 : decode cX4_findMore 154 = .ok (.lstore 10, 2) := by decide +kernel
theorem dX4_findMore_156 : decode cX4_findMore 156 = .ok (.iinc 12 1, 3) := by decide +kernel
theorem dX4_findMore_159 : decode cX4_findMore 159 = .ok (.goto (-144), 3) := by decide +kernel
theorem dX4_findMore_162 : decode cX4_findMore 162 = .ok (.aload_n 0, 1) := by decide +kernel
theorem dX4_findMore_163 : decode cX4_findMore 163 = .ok (.invokevirtual 68, 3) := by decide +kernel
theorem dX4_findMore_166 : decode cX4_findMore 166 = .ok (.lstore 12, 2) := by decide +kernel
theorem dX4_findMore_168 : decode cX4_findMore 168 = .ok (.lload 12, 2) := by decide +kernel
theorem dX4_findMore_170 : decode cX4_findMore 170 = .ok (.aload_n 0, 1) := by decide +kernel
theorem dX4_findMore_171 : decode cX4_findMore 171 = .ok (.getfield 25, 3) := by decide +kernel
theorem dX4_findMore_174 : decode cX4_findMore 174 = .ok (.lload 4, 2) := by decide +kernel
theorem dX4_findMore_176 : decode cX4_findMore 176 = .ok (.lor, 1) := by decide +kernel
theorem dX4_findMore_177 : decode cX4_findMore 177 = .ok (.lload 8, 2) := by decide +kernel
theorem dX4_findMore_179 : decode cX4_findMore 179 = .ok (.lor, 1) := by decide +kernel
theorem dX4_findMore_180 : decode cX4_findMore 180 = .ok (.land, 1) := by decide +kernel
theorem dX4_findMore_181 : decode cX4_findMore 181 = .ok (.lstore 14, 2) := by decide +kernel
theorem dX4_findMore_183 : decode cX4_findMore 183 = .ok (.lload 12, 2) := by decide +kernel
theorem dX4_findMore_185 : decode cX4_findMore 185 = .ok (.lload 14, 2) := by decide +kernel
theorem dX4_findMore_187 : decode cX4_findMore 187 = .ok (.lload 6, 2) := by decide +kernel
theorem dX4_findMore_189 : decode cX4_findMore 189 = .ok (.lor, 1) := by decide +kernel
theorem dX4_findMore_190 : decode cX4_findMore 190 = .ok (.lload 10, 2) := by decide +kernel
theorem dX4_findMore_192 : decode cX4_findMore 192 = .ok (.lor, 1) := by decide +kernel
theorem dX4_findMore_193 : decode cX4_findMore 193 = .ok (.ldc2_w 71, 3) := by decide +kernel
theorem dX4_findMore_196 : decode cX4_findMore 196 = .ok (.lxor, 1) := by decide +kernel
theorem dX4_findMore_197 : decode cX4_findMore 197 = .ok (.land, 1) := by decide +kernel
theorem dX4_findMore_198 : decode cX4_findMore 198 = .ok (.lstore 16, 2) := by decide +kernel
theorem dX4_findMore_200 : decode cX4_findMore 200 = .ok (.aload_n 0, 1) := by decide +kernel
theorem dX4_findMore_201 : decode cX4_findMore 201 = .ok (.dup, 1) := by decide +kernel
theorem dX4_findMore_202 : decode cX4_findMore 202 = .ok (.getfield 32, 3) := by decide +kernel
theorem dX4_findMore_205 : decode cX4_findMore 205 = .ok (.lload 14, 2) := by decide +kernel
theorem dX4_findMore_207 : decode cX4_findMore 207 = .ok (.lor, 1) := by decide +kernel
theorem dX4_findMore_208 : decode cX4_findMore 208 = .ok (.putfield 32, 3) := by decide +kernel
theorem dX4_findMore_211 : decode cX4_findMore 211 = .ok (.aload_n 0, 1) := by decide +kernel
theorem dX4_findMore_212 : decode cX4_findMore 212 = .ok (.dup, 1) := by decide +kernel
theorem dX4_findMore_213 : decode cX4_findMore 213 = .ok (.getfield 29, 3) := by decide +kernel
theorem dX4_findMore_216 : decode cX4_findMore 216 = .ok (.lload 16, 2) := by decide +kernel
theorem dX4_findMore_218 : decode cX4_findMore 218 = .ok (.lor, 1) := by decide +kernel
theorem dX4_findMore_219 : decode cX4_findMore 219 = .ok (.putfield 29, 3) := by decide +kernel
theorem dX4_findMore_222 : decode cX4_findMore 222 = .ok (.aload_n 0, 1) := by decide +kernel
theorem dX4_findMore_223 : decode cX4_findMore 223 = .ok (.lload 14, 2) := by decide +kernel
theorem dX4_findMore_225 : decode cX4_findMore 225 = .ok (.lload 16, 2) := by decide +kernel
theorem dX4_findMore_227 : decode cX4_findMore 227 = .ok (.lor, 1) := by decide +kernel
theorem dX4_findMore_228 : decode cX4_findMore 228 = .ok (.iload_n 1, 1) := by decide +kernel
theorem dX4_findMore_229 : decode cX4_findMore 229 = .ok (.invokevirtual 73, 3) := by decide +kernel
theorem dX4_findMore_232 : decode cX4_findMore 232 = .ok (.lload 14, 2) := by decide +kernel
theorem dX4_findMore_234 : decode cX4_findMore 234 = .ok (.lload 16, 2) := by decide +kernel
theorem dX4_findMore_236 : decode cX4_findMore 236 = .ok (.lor, 1) := by decide +kernel
theorem dX4_findMore_237 : decode cX4_findMore 237 = .ok (.lconst 0, 1) := by decide +kernel
theorem dX4_findMore_238 : decode cX4_findMore 238 = .ok (.lcmp, 1) := by decide +kernel
theorem dX4_findMore_239 : decode cX4_findMore 239 = .ok (.ifCond .eq 7, 3) := by decide +kernel
theorem dX4_findMore_242 : decode cX4_findMore 242 = .ok (.iconst 1, 1) := by decide +kernel
theorem dX4_findMore_243 : decode cX4_findMore 243 = .ok (.goto 4, 3) := by decide +kernel
theorem dX4_findMore_246 : decode cX4_findMore 246 = .ok (.iconst 0, 1) := by decide +kernel
theorem dX4_findMore_247 : decode cX4_findMore 247 = .ok (.ireturn, 1) := by decide +kernel
theorem dX4_helpOf_0 : decode cX4_helpOf 0 = .ok (.aload_n 0, 1) := by decide +kernel
theorem dX4_helpOf_1 : decode cX4_helpOf 1 = .ok (.getfield 15, 3) := by decide +kernel
theorem dX4_helpOf_4 : decode cX4_helpOf 4 = .ok (.iload_n 1, 1) := by decide +kernel
theorem dX4_helpOf_5 : decode cX4_helpOf 5 = .ok (.invokevirtual 51, 3) := by decide +kernel
theorem dX4_helpOf_8 : decode cX4_helpOf 8 = .ok (.istore_n 2, 1) := by decide +kernel
theorem dX4_helpOf_9 : decode cX4_helpOf 9 = .ok (.aload_n 0, 1) := by decide +kernel
theorem dX4_helpOf_10 : decode cX4_helpOf 10 = .ok (.getfield 15, 3) := by decide +kernel
theorem dX4_helpOf_13 : decode cX4_helpOf 13 = .ok (.iload_n 1, 1) := by decide +kernel
theorem dX4_helpOf_14 : decode cX4_helpOf 14 = .ok (.invokevirtual 110, 3) := by decide +kernel
theorem dX4_helpOf_17 : decode cX4_helpOf 17 = .ok (.iconst 2, 1) := by decide +kernel
theorem dX4_helpOf_18 : decode cX4_helpOf 18 = .ok (.if_icmp .ne 34, 3) := by decide +kernel
theorem dX4_helpOf_21 : decode cX4_helpOf 21 = .ok (.aload_n 0, 1) := by decide +kernel
theorem dX4_helpOf_22 : decode cX4_helpOf 22 = .ok (.iload_n 1, 1) := by decide +kernel
theorem dX4_helpOf_23 : decode cX4_helpOf 23 = .ok (.invokevirtual 59, 3) := by decide +kernel
theorem dX4_helpOf_26 : decode cX4_helpOf 26 = .ok (.ifCond .eq 26, 3) := by decide +kernel
theorem dX4_helpOf_29 : decode cX4_helpOf 29 = .ok (.aload_n 0, 1) := by decide +kernel
theorem dX4_helpOf_30 : decode cX4_helpOf 30 = .ok (.getfield 15, 3) := by decide +kernel
theorem dX4_helpOf_33 : decode cX4_helpOf 33 = .ok (.iload_n 2, 1) := by decide +kernel
theorem dX4_helpOf_34 : decode cX4_helpOf 34 = .ok (.invokevirtual 110, 3) := by decide +kernel
theorem dX4_helpOf_37 : decode cX4_helpOf 37 = .ok (.ifCond .ne 15, 3) := by decide +kernel
theorem dX4_helpOf_40 : decode cX4_helpOf 40 = .ok (.aload_n 0, 1) := by decide +kernel
theorem dX4_helpOf_41 : decode cX4_helpOf 41 = .ok (.iload_n 2, 1) := by decide +kernel
theorem dX4_helpOf_42 : decode cX4_helpOf 42 = .ok (.invokevirtual 59, 3) := by decide +kernel
theorem dX4_helpOf_45 : decode cX4_helpOf 45 = .ok (.ifCond .eq 7, 3) := by decide +kernel
theorem dX4_helpOf_48 : decode cX4_helpOf 48 = .ok (.iconst 1, 1) := by decide +kernel
theorem dX4_helpOf_49 : decode cX4_helpOf 49 = .ok (.goto 4, 3) := by decide +kernel
theorem dX4_helpOf_52 : decode cX4_helpOf 52 = .ok (.iconst 0, 1) := by decide +kernel
theorem dX4_helpOf_53 : decode cX4_helpOf 53 = .ok (.istore_n 3, 1) := by decide +kernel
theorem dX4_helpOf_54 : decode cX4_helpOf 54 = .ok (.iload_n 3, 1) := by decide +kernel
theorem dX4_helpOf_55 : decode cX4_helpOf 55 = .ok (.ifCond .eq 14, 3) := by decide +kernel
theorem dX4_helpOf_58 : decode cX4_helpOf 58 = .ok (.aload_n 0, 1) := by decide +kernel
theorem dX4_helpOf_59 : decode cX4_helpOf 59 = .ok (.getfield 15, 3) := by decide +kernel
theorem dX4_helpOf_62 : decode cX4_helpOf 62 = .ok (.iload_n 1, 1) := by decide +kernel
theorem dX4_helpOf_63 : decode cX4_helpOf 63 = .ok (.invokevirtual 113, 3) := by decide +kernel
theorem dX4_helpOf_66 : decode cX4_helpOf 66 = .ok (.goto 4, 3) := by decide +kernel
theorem dX4_helpOf_69 : decode cX4_helpOf 69 = .ok (.iconst 0, 1) := by decide +kernel
theorem dX4_helpOf_70 : decode cX4_helpOf 70 = .ok (.ireturn, 1) := by decide +kernel
theorem dX4_isIn_0 : decode cX4_isIn 0 = .ok (.aload_n 0, 1) := by decide +kernel
theorem dX4_isIn_1 : decode cX4_isIn 1 = .ok (.getfield 29, 3) := by decide +kernel
theorem dX4_isIn_4 : decode cX4_isIn 4 = .ok (.iload_n 1, 1) := by decide +kernel
theorem dX4_isIn_5 : decode cX4_isIn 5 = .ok (.lshr, 1) := by decide +kernel
theorem dX4_isIn_6 : decode cX4_isIn 6 = .ok (.lconst 1, 1) := by decide +kernel
theorem dX4_isIn_7 : decode cX4_isIn 7 = .ok (.land, 1) := by decide +kernel
theorem dX4_isIn_8 : decode cX4_isIn 8 = .ok (.lconst 0, 1) := by decide +kernel
theorem dX4_isIn_9 : decode cX4_isIn 9 = .ok (.lcmp, 1) := by decide +kernel
theorem dX4_isIn_10 : decode cX4_isIn 10 = .ok (.ifCond .eq 7, 3) := by decide +kernel
theorem dX4_isIn_13 : decode cX4_isIn 13 = .ok (.iconst 1, 1) := by decide +kernel
theorem dX4_isIn_14 : decode cX4_isIn 14 = .ok (.goto 4, 3) := by decide +kernel
theorem dX4_isIn_17 : decode cX4_isIn 17 = .ok (.iconst 0, 1) := by decide +kernel
theorem dX4_isIn_18 : decode cX4_isIn 18 = .ok (.ireturn, 1) := by decide +kernel
theorem dX4_isOut_0 : decode cX4_isOut 0 = .ok (.aload_n 0, 1) := by decide +kernel
theorem dX4_isOut_1 : decode cX4_isOut 1 = .ok (.getfield 32, 3) := by decide +kernel
theorem dX4_isOut_4 : decode cX4_isOut 4 = .ok (.iload_n 1, 1) := by decide +kernel
theorem dX4_isOut_5 : decode cX4_isOut 5 = .ok (.lshr, 1) := by decide +kernel
theorem dX4_isOut_6 : decode cX4_isOut 6 = .ok (.lconst 1, 1) := by decide +kernel
theorem dX4_isOut_7 : decode cX4_isOut 7 = .ok (.land, 1) := by decide +kernel
theorem dX4_isOut_8 : decode cX4_isOut 8 = .ok (.lconst 0, 1) := by decide +kernel
theorem dX4_isOut_9 : decode cX4_isOut 9 = .ok (.lcmp, 1) := by decide +kernel
theorem dX4_isOut_10 : decode cX4_isOut 10 = .ok (.ifCond .eq 7, 3) := by decide +kernel
theorem dX4_isOut_13 : decode cX4_isOut 13 = .ok (.iconst 1, 1) := by decide +kernel
theorem dX4_isOut_14 : decode cX4_isOut 14 = .ok (.goto 4, 3) := by decide +kernel
theorem dX4_isOut_17 : decode cX4_isOut 17 = .ok (.iconst 0, 1) := by decide +kernel
theorem dX4_isOut_18 : decode cX4_isOut 18 = .ok (.ireturn, 1) := by decide +kernel
theorem dX4_itemsIn_0 : decode cX4_itemsIn 0 = .ok (.aload_n 0, 1) := by decide +kernel
theorem dX4_itemsIn_1 : decode cX4_itemsIn 1 = .ok (.getfield 29, 3) := by decide +kernel
theorem dX4_itemsIn_4 : decode cX4_itemsIn 4 = .ok (.lreturn, 1) := by decide +kernel
theorem dX4_itemsOpen_0 : decode cX4_itemsOpen 0 = .ok (.aload_n 0, 1) := by decide +kernel
theorem dX4_itemsOpen_1 : decode cX4_itemsOpen 1 = .ok (.getfield 15, 3) := by decide +kernel
theorem dX4_itemsOpen_4 : decode cX4_itemsOpen 4 = .ok (.invokevirtual 77, 3) := by decide +kernel
theorem dX4_itemsOpen_7 : decode cX4_itemsOpen 7 = .ok (.aload_n 0, 1) := by decide +kernel
theorem dX4_itemsOpen_8 : decode cX4_itemsOpen 8 = .ok (.getfield 29, 3) := by decide +kernel
theorem dX4_itemsOpen_11 : decode cX4_itemsOpen 11 = .ok (.aload_n 0, 1) := by decide +kernel
theorem dX4_itemsOpen_12 : decode cX4_itemsOpen 12 = .ok (.getfield 32, 3) := by decide +kernel
theorem dX4_itemsOpen_15 : decode cX4_itemsOpen 15 = .ok (.lor, 1) := by decide +kernel
theorem dX4_itemsOpen_16 : decode cX4_itemsOpen 16 = .ok (.ldc2_w 71, 3) := by decide +kernel
theorem dX4_itemsOpen_19 : decode cX4_itemsOpen 19 = .ok (.lxor, 1) := by decide +kernel
theorem dX4_itemsOpen_20 : decode cX4_itemsOpen 20 = .ok (.land, 1) := by decide +kernel
theorem dX4_itemsOpen_21 : decode cX4_itemsOpen 21 = .ok (.lreturn, 1) := by decide +kernel
theorem dX4_itemsOut_0 : decode cX4_itemsOut 0 = .ok (.aload_n 0, 1) := by decide +kernel
theorem dX4_itemsOut_1 : decode cX4_itemsOut 1 = .ok (.getfield 32, 3) := by decide +kernel
theorem dX4_itemsOut_4 : decode cX4_itemsOut 4 = .ok (.lreturn, 1) := by decide +kernel
theorem dX4_noteRound_0 : decode cX4_noteRound 0 = .ok (.iconst 0, 1) := by decide +kernel
theorem dX4_noteRound_1 : decode cX4_noteRound 1 = .ok (.istore 4, 2) := by decide +kernel
theorem dX4_noteRound_3 : decode cX4_noteRound 3 = .ok (.iload 4, 2) := by decide +kernel
theorem dX4_noteRound_5 : decode cX4_noteRound 5 = .ok (.bipush 40, 2) := by decide +kernel
theorem dX4_noteRound_7 : decode cX4_noteRound 7 = .ok (.if_icmp .ge 29, 3) := by decide +kernel
theorem dX4_noteRound_10 : decode cX4_noteRound 10 = .ok (.lload_n 1, 1) := by decide +kernel
theorem dX4_noteRound_11 : decode cX4_noteRound 11 = .ok (.iload 4, 2) := by decide +kernel
theorem dX4_noteRound_13 : decode cX4_noteRound 13 = .ok (.invokestatic 55, 3) := by decide +kernel
theorem dX4_noteRound_16 : decode cX4_noteRound 16 = .ok (.land, 1) := by decide +kernel
theorem dX4_noteRound_17 : decode cX4_noteRound 17 = .ok (.lconst 0, 1) := by decide +kernel
theorem dX4_noteRound_18 : decode cX4_noteRound 18 = .ok (.lcmp, 1) := by decide +kernel
theorem dX4_noteRound_19 : decode cX4_noteRound 19 = .ok (.ifCond .eq 11, 3) := by decide +kernel
theorem dX4_noteRound_22 : decode cX4_noteRound 22 = .ok (.aload_n 0, 1) := by decide +kernel
theorem dX4_noteRound_23 : decode cX4_noteRound 23 = .ok (.getfield 9, 3) := by decide +kernel
theorem dX4_noteRound_26 : decode cX4_noteRound 26 = .ok (.iload 4, 2) := by decide +kernel
theorem dX4_noteRound_28 : decode cX4_noteRound 28 = .ok (.iload_n 3, 1) := by decide +kernel
theorem dX4_noteRound_29 : decode cX4_noteRound 29 = .ok (.iastore, 1) := by decide +kernel
theorem dX4_noteRound_30 : decode cX4_noteRound 30 = .ok (.iinc 4 1, 3) := by decide +kernel
theorem dX4_noteRound_33 : decode cX4_noteRound 33 = .ok (.goto (-30), 3) := by decide +kernel
theorem dX4_noteRound_36 : decode cX4_noteRound 36 = .ok (.return_, 1) := by decide +kernel
theorem dX4_roundOf_0 : decode cX4_roundOf 0 = .ok (.iload_n 1, 1) := by decide +kernel
theorem dX4_roundOf_1 : decode cX4_roundOf 1 = .ok (.ifCond .lt 18, 3) := by decide +kernel
theorem dX4_roundOf_4 : decode cX4_roundOf 4 = .ok (.iload_n 1, 1) := by decide +kernel
theorem dX4_roundOf_5 : decode cX4_roundOf 5 = .ok (.bipush 40, 2) := by decide +kernel
theorem dX4_roundOf_7 : decode cX4_roundOf 7 = .ok (.if_icmp .ge 12, 3) := by decide +kernel
theorem dX4_roundOf_10 : decode cX4_roundOf 10 = .ok (.aload_n 0, 1) := by decide +kernel
theorem dX4_roundOf_11 : decode cX4_roundOf 11 = .ok (.getfield 9, 3) := by decide +kernel
theorem dX4_roundOf_14 : decode cX4_roundOf 14 = .ok (.iload_n 1, 1) := by decide +kernel
theorem dX4_roundOf_15 : decode cX4_roundOf 15 = .ok (.iaload, 1) := by decide +kernel
theorem dX4_roundOf_16 : decode cX4_roundOf 16 = .ok (.goto 4, 3) := by decide +kernel
theorem dX4_roundOf_19 : decode cX4_roundOf 19 = .ok (.iconst 0, 1) := by decide +kernel
theorem dX4_roundOf_20 : decode cX4_roundOf 20 = .ok (.ireturn, 1) := by decide +kernel
theorem dX4_rounds_0 : decode cX4_rounds 0 = .ok (.aload_n 0, 1) := by decide +kernel
theorem dX4_rounds_1 : decode cX4_rounds 1 = .ok (.getfield 35, 3) := by decide +kernel
theorem dX4_rounds_4 : decode cX4_rounds 4 = .ok (.ireturn, 1) := by decide +kernel
theorem dX4_scoreOf_0 : decode cX4_scoreOf 0 = .ok (.aload_n 0, 1) := by decide +kernel
theorem dX4_scoreOf_1 : decode cX4_scoreOf 1 = .ok (.getfield 15, 3) := by decide +kernel
theorem dX4_scoreOf_4 : decode cX4_scoreOf 4 = .ok (.iload_n 1, 1) := by decide +kernel
theorem dX4_scoreOf_5 : decode cX4_scoreOf 5 = .ok (.invokevirtual 98, 3) := by decide +kernel
theorem dX4_scoreOf_8 : decode cX4_scoreOf 8 = .ok (.bipush 60, 2) := by decide +kernel
theorem dX4_scoreOf_10 : decode cX4_scoreOf 10 = .ok (.idiv, 1) := by decide +kernel
theorem dX4_scoreOf_11 : decode cX4_scoreOf 11 = .ok (.istore_n 2, 1) := by decide +kernel
theorem dX4_scoreOf_12 : decode cX4_scoreOf 12 = .ok (.iconst 0, 1) := by decide +kernel
theorem dX4_scoreOf_13 : decode cX4_scoreOf 13 = .ok (.istore_n 3, 1) := by decide +kernel
theorem dX4_scoreOf_14 : decode cX4_scoreOf 14 = .ok (.iload_n 3, 1) := by decide +kernel
theorem dX4_scoreOf_15 : decode cX4_scoreOf 15 = .ok (.aload_n 0, 1) := by decide +kernel
theorem dX4_scoreOf_16 : decode cX4_scoreOf 16 = .ok (.getfield 15, 3) := by decide +kernel
theorem dX4_scoreOf_19 : decode cX4_scoreOf 19 = .ok (.invokevirtual 43, 3) := by decide +kernel
theorem dX4_scoreOf_22 : decode cX4_scoreOf 22 = .ok (.if_icmp .ge 56, 3) := by decide +kernel
theorem dX4_scoreOf_25 : decode cX4_scoreOf 25 = .ok (.aload_n 0, 1) := by decide +kernel
theorem dX4_scoreOf_26 : decode cX4_scoreOf 26 = .ok (.getfield 15, 3) := by decide +kernel
theorem dX4_scoreOf_29 : decode cX4_scoreOf 29 = .ok (.iload_n 3, 1) := by decide +kernel
theorem dX4_scoreOf_30 : decode cX4_scoreOf 30 = .ok (.invokevirtual 101, 3) := by decide +kernel
theorem dX4_scoreOf_33 : decode cX4_scoreOf 33 = .ok (.iload_n 1, 1) := by decide +kernel
theorem dX4_scoreOf_34 : decode cX4_scoreOf 34 = .ok (.if_icmp .ne 11, 3) := by decide +kernel
theorem dX4_scoreOf_37 : decode cX4_scoreOf 37 = .ok (.iload_n 2, 1) := by decide +kernel
theorem dX4_scoreOf_38 : decode cX4_scoreOf 38 = .ok (.aload_n 0, 1) := by decide +kernel
theorem dX4_scoreOf_39 : decode cX4_scoreOf 39 = .ok (.iload_n 3, 1) := by decide +kernel
theorem dX4_scoreOf_40 : decode cX4_scoreOf 40 = .ok (.invokevirtual 104, 3) := by decide +kernel
theorem dX4_scoreOf_43 : decode cX4_scoreOf 43 = .ok (.iadd, 1) := by decide +kernel
theorem dX4_scoreOf_44 : decode cX4_scoreOf 44 = .ok (.istore_n 2, 1) := by decide +kernel
theorem dX4_scoreOf_45 : decode cX4_scoreOf 45 = .ok (.aload_n 0, 1) := by decide +kernel
theorem dX4_scoreOf_46 : decode cX4_scoreOf 46 = .ok (.getfield 15, 3) := by decide +kernel
theorem dX4_scoreOf_49 : decode cX4_scoreOf 49 = .ok (.aload_n 0, 1) := by decide +kernel
theorem dX4_scoreOf_50 : decode cX4_scoreOf 50 = .ok (.getfield 15, 3) := by decide +kernel
theorem dX4_scoreOf_53 : decode cX4_scoreOf 53 = .ok (.iload_n 3, 1) := by decide +kernel
theorem dX4_scoreOf_54 : decode cX4_scoreOf 54 = .ok (.invokevirtual 51, 3) := by decide +kernel
theorem dX4_scoreOf_57 : decode cX4_scoreOf 57 = .ok (.invokevirtual 101, 3) := by decide +kernel
theorem dX4_scoreOf_60 : decode cX4_scoreOf 60 = .ok (.iload_n 1, 1) := by decide +kernel
theorem dX4_scoreOf_61 : decode cX4_scoreOf 61 = .ok (.if_icmp .ne 11, 3) := by decide +kernel
theorem dX4_scoreOf_64 : decode cX4_scoreOf 64 = .ok (.iload_n 2, 1) := by decide +kernel
theorem dX4_scoreOf_65 : decode cX4_scoreOf 65 = .ok (.aload_n 0, 1) := by decide +kernel
theorem dX4_scoreOf_66 : decode cX4_scoreOf 66 = .ok (.iload_n 3, 1) := by decide +kernel
theorem dX4_scoreOf_67 : decode cX4_scoreOf 67 = .ok (.invokevirtual 107, 3) := by decide +kernel
theorem dX4_scoreOf_70 : decode cX4_scoreOf 70 = .ok (.iadd, 1) := by decide +kernel
theorem dX4_scoreOf_71 : decode cX4_scoreOf 71 = .ok (.istore_n 2, 1) := by decide +kernel
theorem dX4_scoreOf_72 : decode cX4_scoreOf 72 = .ok (.iinc 3 1, 3) := by decide +kernel
theorem dX4_scoreOf_75 : decode cX4_scoreOf 75 = .ok (.goto (-61), 3) := by decide +kernel
theorem dX4_scoreOf_78 : decode cX4_scoreOf 78 = .ok (.iload_n 2, 1) := by decide +kernel
theorem dX4_scoreOf_79 : decode cX4_scoreOf 79 = .ok (.ireturn, 1) := by decide +kernel
theorem dX4_settle_0 : decode cX4_settle 0 = .ok (.aload_n 0, 1) := by decide +kernel
theorem dX4_settle_1 : decode cX4_settle 1 = .ok (.aload_n 0, 1) := by decide +kernel
theorem dX4_settle_2 : decode cX4_settle 2 = .ok (.getfield 15, 3) := by decide +kernel
theorem dX4_settle_5 : decode cX4_settle 5 = .ok (.invokevirtual 19, 3) := by decide +kernel
theorem dX4_settle_8 : decode cX4_settle 8 = .ok (.lload_n 1, 1) := by decide +kernel
theorem dX4_settle_9 : decode cX4_settle 9 = .ok (.lor, 1) := by decide +kernel
theorem dX4_settle_10 : decode cX4_settle 10 = .ok (.putfield 25, 3) := by decide +kernel
theorem dX4_settle_13 : decode cX4_settle 13 = .ok (.aload_n 0, 1) := by decide +kernel
theorem dX4_settle_14 : decode cX4_settle 14 = .ok (.lconst 0, 1) := by decide +kernel
theorem dX4_settle_15 : decode cX4_settle 15 = .ok (.putfield 29, 3) := by decide +kernel
theorem dX4_settle_18 : decode cX4_settle 18 = .ok (.aload_n 0, 1) := by decide +kernel
theorem dX4_settle_19 : decode cX4_settle 19 = .ok (.lconst 0, 1) := by decide +kernel
theorem dX4_settle_20 : decode cX4_settle 20 = .ok (.putfield 32, 3) := by decide +kernel
theorem dX4_settle_23 : decode cX4_settle 23 = .ok (.aload_n 0, 1) := by decide +kernel
theorem dX4_settle_24 : decode cX4_settle 24 = .ok (.iconst 0, 1) := by decide +kernel
theorem dX4_settle_25 : decode cX4_settle 25 = .ok (.putfield 35, 3) := by decide +kernel
theorem dX4_settle_28 : decode cX4_settle 28 = .ok (.iconst 0, 1) := by decide +kernel
theorem dX4_settle_29 : decode cX4_settle 29 = .ok (.istore 5, 2) := by decide +kernel
theorem dX4_settle_31 : decode cX4_settle 31 = .ok (.iload 5, 2) := by decide +kernel
theorem dX4_settle_33 : decode cX4_settle 33 = .ok (.bipush 40, 2) := by decide +kernel
theorem dX4_settle_35 : decode cX4_settle 35 = .ok (.if_icmp .ge 17, 3) := by decide +kernel
theorem dX4_settle_38 : decode cX4_settle 38 = .ok (.aload_n 0, 1) := by decide +kernel
theorem dX4_settle_39 : decode cX4_settle 39 = .ok (.getfield 9, 3) := by decide +kernel
theorem dX4_settle_42 : decode cX4_settle 42 = .ok (.iload 5, 2) := by decide +kernel
theorem dX4_settle_44 : decode cX4_settle 44 = .ok (.iconst 0, 1) := by decide +kernel
theorem dX4_settle_45 : decode cX4_settle 45 = .ok (.iastore, 1) := by decide +kernel
theorem dX4_settle_46 : decode cX4_settle 46 = .ok (.iinc 5 1, 3) := by decide +kernel
theorem dX4_settle_49 : decode cX4_settle 49 = .ok (.goto (-18), 3) := by decide +kernel
theorem dX4_settle_52 : decode cX4_settle 52 = .ok (.iconst 1, 1) := by decide +kernel
theorem dX4_settle_53 : decode cX4_settle 53 = .ok (.istore 5, 2) := by decide +kernel
theorem dX4_settle_55 : decode cX4_settle 55 = .ok (.iload 5, 2) := by decide +kernel
theorem dX4_settle_57 : decode cX4_settle 57 = .ok (.bipush 40, 2) := by decide +kernel
theorem dX4_settle_59 : decode cX4_settle 59 = .ok (.if_icmp .gt 25, 3) := by decide +kernel
theorem dX4_settle_62 : decode cX4_settle 62 = .ok (.aload_n 0, 1) := by decide +kernel
theorem dX4_settle_63 : decode cX4_settle 63 = .ok (.iload 5, 2) := by decide +kernel
theorem dX4_settle_65 : decode cX4_settle 65 = .ok (.lload_n 3, 1) := by decide +kernel
theorem dX4_settle_66 : decode cX4_settle 66 = .ok (.invokevirtual 39, 3) := by decide +kernel
theorem dX4_settle_69 : decode cX4_settle 69 = .ok (.ifCond .eq 15, 3) := by decide +kernel
theorem dX4_settle_72 : decode cX4_settle 72 = .ok (.aload_n 0, 1) := by decide +kernel
theorem dX4_settle_73 : decode cX4_settle 73 = .ok (.iload 5, 2) := by decide +kernel
theorem dX4_settle_75 : decode cX4_settle 75 = .ok (.putfield 35, 3) := by decide +kernel
theorem dX4_settle_78 : decode cX4_settle 78 = .ok (.iinc 5 1, 3) := by decide +kernel
theorem dX4_settle_81 : decode cX4_settle 81 = .ok (.goto (-26), 3) := by decide +kernel
theorem dX4_settle_84 : decode cX4_settle 84 = .ok (.return_, 1) := by decide +kernel
theorem dX4_wordFor_0 : decode cX4_wordFor 0 = .ok (.aload_n 0, 1) := by decide +kernel
theorem dX4_wordFor_1 : decode cX4_wordFor 1 = .ok (.iload_n 1, 1) := by decide +kernel
theorem dX4_wordFor_2 : decode cX4_wordFor 2 = .ok (.invokevirtual 59, 3) := by decide +kernel
theorem dX4_wordFor_5 : decode cX4_wordFor 5 = .ok (.ifCond .eq 9, 3) := by decide +kernel
theorem dX4_wordFor_8 : decode cX4_wordFor 8 = .ok (.getstatic 80, 3) := by decide +kernel
theorem dX4_wordFor_11 : decode cX4_wordFor 11 = .ok (.goto 20, 3) := by decide +kernel
theorem dX4_wordFor_14 : decode cX4_wordFor 14 = .ok (.aload_n 0, 1) := by decide +kernel
theorem dX4_wordFor_15 : decode cX4_wordFor 15 = .ok (.iload_n 1, 1) := by decide +kernel
theorem dX4_wordFor_16 : decode cX4_wordFor 16 = .ok (.invokevirtual 62, 3) := by decide +kernel
theorem dX4_wordFor_19 : decode cX4_wordFor 19 = .ok (.ifCond .eq 9, 3) := by decide +kernel
theorem dX4_wordFor_22 : decode cX4_wordFor 22 = .ok (.getstatic 86, 3) := by decide +kernel
theorem dX4_wordFor_25 : decode cX4_wordFor 25 = .ok (.goto 6, 3) := by decide +kernel
theorem dX4_wordFor_28 : decode cX4_wordFor 28 = .ok (.getstatic 89, 3) := by decide +kernel
theorem dX4_wordFor_31 : decode cX4_wordFor 31 = .ok (.areturn, 1) := by decide +kernel
theorem dX4_worthOf_0 : decode cX4_worthOf 0 = .ok (.aload_n 0, 1) := by decide +kernel
theorem dX4_worthOf_1 : decode cX4_worthOf 1 = .ok (.getfield 25, 3) := by decide +kernel
theorem dX4_worthOf_4 : decode cX4_worthOf 4 = .ok (.iload_n 1, 1) := by decide +kernel
theorem dX4_worthOf_5 : decode cX4_worthOf 5 = .ok (.invokestatic 55, 3) := by decide +kernel
theorem dX4_worthOf_8 : decode cX4_worthOf 8 = .ok (.land, 1) := by decide +kernel
theorem dX4_worthOf_9 : decode cX4_worthOf 9 = .ok (.lconst 0, 1) := by decide +kernel
theorem dX4_worthOf_10 : decode cX4_worthOf 10 = .ok (.lcmp, 1) := by decide +kernel
theorem dX4_worthOf_11 : decode cX4_worthOf 11 = .ok (.ifCond .eq 7, 3) := by decide +kernel
theorem dX4_worthOf_14 : decode cX4_worthOf 14 = .ok (.iconst (-1), 1) := by decide +kernel
theorem dX4_worthOf_15 : decode cX4_worthOf 15 = .ok (.goto 4, 3) := by decide +kernel
theorem dX4_worthOf_18 : decode cX4_worthOf 18 = .ok (.iconst 0, 1) := by decide +kernel
theorem dX4_worthOf_19 : decode cX4_worthOf 19 = .ok (.istore_n 2, 1) := by decide +kernel
theorem dX4_worthOf_20 : decode cX4_worthOf 20 = .ok (.aload_n 0, 1) := by decide +kernel
theorem dX4_worthOf_21 : decode cX4_worthOf 21 = .ok (.getfield 15, 3) := by decide +kernel
theorem dX4_worthOf_24 : decode cX4_worthOf 24 = .ok (.iload_n 1, 1) := by decide +kernel
theorem dX4_worthOf_25 : decode cX4_worthOf 25 = .ok (.invokevirtual 110, 3) := by decide +kernel
theorem dX4_worthOf_28 : decode cX4_worthOf 28 = .ok (.istore_n 3, 1) := by decide +kernel
theorem dX4_worthOf_29 : decode cX4_worthOf 29 = .ok (.aload_n 0, 1) := by decide +kernel
theorem dX4_worthOf_30 : decode cX4_worthOf 30 = .ok (.getfield 15, 3) := by decide +kernel
theorem dX4_worthOf_33 : decode cX4_worthOf 33 = .ok (.iload_n 1, 1) := by decide +kernel
theorem dX4_worthOf_34 : decode cX4_worthOf 34 = .ok (.invokevirtual 113, 3) := by decide +kernel
theorem dX4_worthOf_37 : decode cX4_worthOf 37 = .ok (.istore 4, 2) := by decide +kernel
theorem dX4_worthOf_39 : decode cX4_worthOf 39 = .ok (.aload_n 0, 1) := by decide +kernel
theorem dX4_worthOf_40 : decode cX4_worthOf 40 = .ok (.iload_n 1, 1) := by decide +kernel
theorem dX4_worthOf_41 : decode cX4_worthOf 41 = .ok (.invokevirtual 59, 3) := by decide +kernel
theorem dX4_worthOf_44 : decode cX4_worthOf 44 = .ok (.ifCond .eq 15, 3) := by decide +kernel
theorem dX4_worthOf_47 : decode cX4_worthOf 47 = .ok (.iload_n 3, 1) := by decide +kernel
theorem dX4_worthOf_48 : decode cX4_worthOf 48 = .ok (.ifCond .ne 11, 3) := by decide +kernel
theorem dX4_worthOf_51 : decode cX4_worthOf 51 = .ok (.iload_n 2, 1) := by decide +kernel
theorem dX4_worthOf_52 : decode cX4_worthOf 52 = .ok (.iload 4, 2) := by decide +kernel
theorem dX4_worthOf_54 : decode cX4_worthOf 54 = .ok (.iadd, 1) := by decide +kernel
theorem dX4_worthOf_55 : decode cX4_worthOf 55 = .ok (.istore_n 2, 1) := by decide +kernel
theorem dX4_worthOf_56 : decode cX4_worthOf 56 = .ok (.goto 70, 3) := by decide +kernel
theorem dX4_worthOf_59 : decode cX4_worthOf 59 = .ok (.aload_n 0, 1) := by decide +kernel
theorem dX4_worthOf_60 : decode cX4_worthOf 60 = .ok (.iload_n 1, 1) := by decide +kernel
theorem dX4_worthOf_61 : decode cX4_worthOf 61 = .ok (.invokevirtual 59, 3) := by decide +kernel
theorem dX4_worthOf_64 : decode cX4_worthOf 64 = .ok (.ifCond .eq 14, 3) := by decide +kernel
theorem dX4_worthOf_67 : decode cX4_worthOf 67 = .ok (.iload_n 3, 1) := by decide +kernel
theorem dX4_worthOf_68 : decode cX4_worthOf 68 = .ok (.iconst 2, 1) := by decide +kernel
theorem dX4_worthOf_69 : decode cX4_worthOf 69 = .ok (.if_icmp .ne 9, 3) := by decide +kernel
theorem dX4_worthOf_72 : decode cX4_worthOf 72 = .ok (.iinc 2 1, 3) := by decide +kernel
theorem dX4_worthOf_75 : decode cX4_worthOf 75 = .ok (.goto 51, 3) := by decide +kernel
theorem dX4_worthOf_78 : decode cX4_worthOf 78 = .ok (.aload_n 0, 1) := by decide +kernel
theorem dX4_worthOf_79 : decode cX4_worthOf 79 = .ok (.iload_n 1, 1) := by decide +kernel
theorem dX4_worthOf_80 : decode cX4_worthOf 80 = .ok (.invokevirtual 59, 3) := by decide +kernel
theorem dX4_worthOf_83 : decode cX4_worthOf 83 = .ok (.ifCond .eq 24, 3) := by decide +kernel
theorem dX4_worthOf_86 : decode cX4_worthOf 86 = .ok (.aload_n 0, 1) := by decide +kernel
theorem dX4_worthOf_87 : decode cX4_worthOf 87 = .ok (.getfield 15, 3) := by decide +kernel
theorem dX4_worthOf_90 : decode cX4_worthOf 90 = .ok (.iload_n 1, 1) := by decide +kernel
theorem dX4_worthOf_91 : decode cX4_worthOf 91 = .ok (.invokevirtual 47, 3) := by decide +kernel
theorem dX4_worthOf_94 : decode cX4_worthOf 94 = .ok (.ifCond .eq 13, 3) := by decide +kernel
theorem dX4_worthOf_97 : decode cX4_worthOf 97 = .ok (.iload_n 2, 1) := by decide +kernel
theorem dX4_worthOf_98 : decode cX4_worthOf 98 = .ok (.iload 4, 2) := by decide +kernel
theorem dX4_worthOf_100 : decode cX4_worthOf 100 = .ok (.iconst 2, 1) := by decide +kernel
theorem dX4_worthOf_101 : decode cX4_worthOf 101 = .ok (.idiv, 1) := by decide +kernel
theorem dX4_worthOf_102 : decode cX4_worthOf 102 = .ok (.iadd, 1) := by decide +kernel
theorem dX4_worthOf_103 : decode cX4_worthOf 103 = .ok (.istore_n 2, 1) := by decide +kernel
theorem dX4_worthOf_104 : decode cX4_worthOf 104 = .ok (.goto 22, 3) := by decide +kernel
theorem dX4_worthOf_107 : decode cX4_worthOf 107 = .ok (.aload_n 0, 1) := by decide +kernel
theorem dX4_worthOf_108 : decode cX4_worthOf 108 = .ok (.iload_n 1, 1) := by decide +kernel
theorem dX4_worthOf_109 : decode cX4_worthOf 109 = .ok (.invokevirtual 62, 3) := by decide +kernel
theorem dX4_worthOf_112 : decode cX4_worthOf 112 = .ok (.ifCond .ne 14, 3) := by decide +kernel
theorem dX4_worthOf_115 : decode cX4_worthOf 115 = .ok (.iload_n 3, 1) := by decide +kernel
theorem dX4_worthOf_116 : decode cX4_worthOf 116 = .ok (.ifCond .ne 10, 3) := by decide +kernel
theorem dX4_worthOf_119 : decode cX4_worthOf 119 = .ok (.iload_n 2, 1) := by decide +kernel
theorem dX4_worthOf_120 : decode cX4_worthOf 120 = .ok (.iload 4, 2) := by decide +kernel
theorem dX4_worthOf_122 : decode cX4_worthOf 122 = .ok (.iconst 2, 1) := by decide +kernel
theorem dX4_worthOf_123 : decode cX4_worthOf 123 = .ok (.idiv, 1) := by decide +kernel
theorem dX4_worthOf_124 : decode cX4_worthOf 124 = .ok (.iadd, 1) := by decide +kernel
theorem dX4_worthOf_125 : decode cX4_worthOf 125 = .ok (.istore_n 2, 1) := by decide +kernel
theorem dX4_worthOf_126 : decode cX4_worthOf 126 = .ok (.iload_n 2, 1) := by decide +kernel
theorem dX4_worthOf_127 : decode cX4_worthOf 127 = .ok (.ireturn, 1) := by decide +kernel
theorem dX5_carryOut_0 : decode cX5_carryOut 0 = .ok (.aload_n 0, 1) := by decide +kernel
theorem dX5_carryOut_1 : decode cX5_carryOut 1 = .ok (.iconst 0, 1) := by decide +kernel
theorem dX5_carryOut_2 : decode cX5_carryOut 2 = .ok (.putfield 23, 3) := by decide +kernel
theorem dX5_carryOut_5 : decode cX5_carryOut 5 = .ok (.aload_n 0, 1) := by decide +kernel
theorem dX5_carryOut_6 : decode cX5_carryOut 6 = .ok (.iconst 0, 1) := by decide +kernel
theorem dX5_carryOut_7 : decode cX5_carryOut 7 = .ok (.putfield 27, 3) := by decide +kernel
theorem dX5_carryOut_10 : decode cX5_carryOut 10 = .ok (.iconst 0, 1) := by decide +kernel
theorem dX5_carryOut_11 : decode cX5_carryOut 11 = .ok (.istore_n 1, 1) := by decide +kernel
theorem dX5_carryOut_12 : decode cX5_carryOut 12 = .ok (.iload_n 1, 1) := by decide +kernel
theorem dX5_carryOut_13 : decode cX5_carryOut 13 = .ok (.sipush 400, 3) := by decide +kernel
theorem dX5_carryOut_16 : decode cX5_carryOut 16 = .ok (.if_icmp .ge 135, 3) := by decide +kernel
theorem dX5_carryOut_19 : decode cX5_carryOut 19 = .ok (.aload_n 0, 1) := by decide +kernel
theorem dX5_carryOut_20 : decode cX5_carryOut 20 = .ok (.getfield 27, 3) := by decide +kernel
theorem dX5_carryOut_23 : decode cX5_carryOut 23 = .ok (.ifCond .ne 128, 3) := by decide +kernel
theorem dX5_carryOut_26 : decode cX5_carryOut 26 = .ok (.aload_n 0, 1) := by decide +kernel
theorem dX5_carryOut_27 : decode cX5_carryOut 27 = .ok (.getstatic 32, 3) := by decide +kernel
theorem dX5_carryOut_30 : decode cX5_carryOut 30 = .ok (.invokevirtual 38, 3) := by decide +kernel
theorem dX5_carryOut_33 : decode cX5_carryOut 33 = .ok (.ifCond .ne 118, 3) := by decide +kernel
theorem dX5_carryOut_36 : decode cX5_carryOut 36 = .ok (.aload_n 0, 1) := by decide +kernel
theorem dX5_carryOut_37 : decode cX5_carryOut 37 = .ok (.getfield 9, 3) := by decide +kernel
theorem dX5_carryOut_40 : decode cX5_carryOut 40 = .ok (.aload_n 0, 1) := by decide +kernel
theorem dX5_carryOut_41 : decode cX5_carryOut 41 = .ok (.getfield 23, 3) := by decide +kernel
theorem dX5_carryOut_44 : decode cX5_carryOut 44 = .ok (.invokevirtual 42, 3) := by decide +kernel
theorem dX5_carryOut_47 : decode cX5_carryOut 47 = .ok (.astore_n 2, 1) := by decide +kernel
theorem dX5_carryOut_48 : decode cX5_carryOut 48 = .ok (.aload_n 0, 1) := by decide +kernel
theorem dX5_carryOut_49 : decode cX5_carryOut 49 = .ok (.dup, 1) := by decide +kernel
theorem dX5_carryOut_50 : decode cX5_carryOut 50 = .ok (.getfield 23, 3) := by decide +kernel
theorem dX5_carryOut_53 : decode cX5_carryOut 53 = .ok (.iconst 1, 1) := by decide +kernel
theorem dX5_carryOut_54 : decode cX5_carryOut 54 = .ok (.iadd, 1) := by decide +kernel
theorem dX5_carryOut_55 : decode cX5_carryOut 55 = .ok (.putfield 23, 3) := by decide +kernel
theorem dX5_carryOut_58 : decode cX5_carryOut 58 = .ok (.aload_n 2, 1) := by decide +kernel
theorem dX5_carryOut_59 : decode cX5_carryOut 59 = .ok (.getstatic 46, 3) := by decide +kernel
theorem dX5_carryOut_62 : decode cX5_carryOut 62 = .ok (.if_acmp .ne 10, 3) := by decide +kernel
theorem dX5_carryOut_65 : decode cX5_carryOut 65 = .ok (.aload_n 0, 1) := by decide +kernel
theorem dX5_carryOut_66 : decode cX5_carryOut 66 = .ok (.invokevirtual 49, 3) := by decide +kernel
theorem dX5_carryOut_69 : decode cX5_carryOut 69 = .ok (.goto 66, 3) := by decide +kernel
theorem dX5_carryOut_72 : decode cX5_carryOut 72 = .ok (.aload_n 2, 1) := by decide +kernel
theorem dX5_carryOut_73 : decode cX5_carryOut 73 = .ok (.getstatic 52, 3) := by decide +kernel
theorem dX5_carryOut_76 : decode cX5_carryOut 76 = .ok (.if_acmp .ne 10, 3) := by decide +kernel
theorem dX5_carryOut_79 : decode cX5_carryOut 79 = .ok (.aload_n 0, 1) := by decide +kernel
theorem dX5_carryOut_80 : decode cX5_carryOut 80 = .ok (.invokevirtual 55, 3) := by decide +kernel
theorem dX5_carryOut_83 : decode cX5_carryOut 83 = .ok (.goto 52, 3) := by decide +kernel
theorem dX5_carryOut_86 : decode cX5_carryOut 86 = .ok (.aload_n 2, 1) := by decide +kernel
theorem dX5_carryOut_87 : decode cX5_carryOut 87 = .ok (.getstatic 58, 3) := by decide +kernel
theorem dX5_carryOut_90 : decode cX5_carryOut 90 = .ok (.if_acmp .eq 10, 3) := by decide +kernel
theorem dX5_carryOut_93 : decode cX5_carryOut 93 = .ok (.aload_n 2, 1) := by decide +kernel
theorem dX5_carryOut_94 : decode cX5_carryOut 94 = .ok (.getstatic 61, 3) := by decide +kernel
theorem dX5_carryOut_97 : decode cX5_carryOut 97 = .ok (.if_acmp .ne 22, 3) := by decide +kernel
theorem dX5_carryOut_100 : decode cX5_carryOut 100 = .ok (.aload_n 0, 1) := by decide +kernel
theorem dX5_carryOut_101 : decode cX5_carryOut 101 = .ok (.aload_n 2, 1) := by decide +kernel
theorem dX5_carryOut_102 : decode cX5_carryOut 102 = .ok (.getstatic 58, 3) := by decide +kernel
theorem dX5_carryOut_105 : decode cX5_carryOut 105 = .ok (.if_acmp .ne 7, 3) := by decide +kernel
theorem dX5_carryOut_108 : decode cX5_carryOut 108 = .ok (.iconst 1, 1) := by decide +kernel
theorem dX5_carryOut_109 : decode cX5_carryOut 109 = .ok (.goto 4, 3) := by decide +kernel
theorem dX5_carryOut_112 : decode cX5_carryOut 112 = .ok (.iconst 2, 1) := by decide +kernel
theorem dX5_carryOut_113 : decode cX5_carryOut 113 = .ok (.invokevirtual 64, 3) := by decide +kernel
theorem dX5_carryOut_116 : decode cX5_carryOut 116 = .ok (.goto 19, 3) := by decide +kernel
theorem dX5_carryOut_119 : decode cX5_carryOut 119 = .ok (.aload_n 0, 1) := by decide +kernel
theorem dX5_carryOut_120 : decode cX5_carryOut 120 = .ok (.aload_n 2, 1) := by decide +kernel
theorem dX5_carryOut_121 : decode cX5_carryOut 121 = .ok (.getstatic 68, 3) := by decide +kernel
theorem dX5_carryOut_124 : decode cX5_carryOut 124 = .ok (.if_acmp .ne 7, 3) := by decide +kernel
theorem dX5_carryOut_127 : decode cX5_carryOut 127 = .ok (.iconst 1, 1) := by decide +kernel
theorem dX5_carryOut_128 : decode cX5_carryOut 128 = .ok (.goto 4, 3) := by decide +kernel
theorem dX5_carryOut_131 : decode cX5_carryOut 131 = .ok (.iconst 0, 1) := by decide +kernel
theorem dX5_carryOut_132 : decode cX5_carryOut 132 = .ok (.invokevirtual 71, 3) := by decide +kernel
theorem dX5_carryOut_135 : decode cX5_carryOut 135 = .ok (.aload_n 0, 1) := by decide +kernel
theorem dX5_carryOut_136 : decode cX5_carryOut 136 = .ok (.dup, 1) := by decide +kernel
theorem dX5_carryOut_137 : decode cX5_carryOut 137 = .ok (.getfield 23, 3) := by decide +kernel
theorem dX5_carryOut_140 : decode cX5_carryOut 140 = .ok (.iconst 1, 1) := by decide +kernel
theorem dX5_carryOut_141 : decode cX5_carryOut 141 = .ok (.iadd, 1) := by decide +kernel
theorem dX5_carryOut_142 : decode cX5_carryOut 142 = .ok (.putfield 23, 3) := by decide +kernel
theorem dX5_carryOut_145 : decode cX5_carryOut 145 = .ok (.iinc 1 1, 3) := by decide +kernel
theorem dX5_carryOut_148 : decode cX5_carryOut 148 = .ok (.goto (-136), 3) := by decide +kernel
theorem dX5_carryOut_151 : decode cX5_carryOut 151 = .ok (.aload_n 0, 1) := by decide +kernel
theorem dX5_carryOut_152 : decode cX5_carryOut 152 = .ok (.getfield 27, 3) := by decide +kernel
theorem dX5_carryOut_155 : decode cX5_carryOut 155 = .ok (.ireturn, 1) := by decide +kernel
theorem dX5_errorPlace_0 : decode cX5_errorPlace 0 = .ok (.aload_n 0, 1) := by decide +kernel
theorem dX5_errorPlace_1 : decode cX5_errorPlace 1 = .ok (.getfield 9, 3) := by decide +kernel
theorem dX5_errorPlace_4 : decode cX5_errorPlace 4 = .ok (.aload_n 0, 1) := by decide +kernel
theorem dX5_errorPlace_5 : decode cX5_errorPlace 5 = .ok (.getfield 75, 3) := by decide +kernel
theorem dX5_errorPlace_8 : decode cX5_errorPlace 8 = .ok (.invokevirtual 78, 3) := by decide +kernel
theorem dX5_errorPlace_11 : decode cX5_errorPlace 11 = .ok (.ireturn, 1) := by decide +kernel
theorem dX5_failIf_0 : decode cX5_failIf 0 = .ok (.iload_n 1, 1) := by decide +kernel
theorem dX5_failIf_1 : decode cX5_failIf 1 = .ok (.ifCond .eq 23, 3) := by decide +kernel
theorem dX5_failIf_4 : decode cX5_failIf 4 = .ok (.aload_n 0, 1) := by decide +kernel
theorem dX5_failIf_5 : decode cX5_failIf 5 = .ok (.getfield 27, 3) := by decide +kernel
theorem dX5_failIf_8 : decode cX5_failIf 8 = .ok (.ifCond .ne 16, 3) := by decide +kernel
theorem dX5_failIf_11 : decode cX5_failIf 11 = .ok (.aload_n 0, 1) := by decide +kernel
theorem dX5_failIf_12 : decode cX5_failIf 12 = .ok (.iload_n 2, 1) := by decide +kernel
theorem dX5_failIf_13 : decode cX5_failIf 13 = .ok (.putfield 27, 3) := by decide +kernel
theorem dX5_failIf_16 : decode cX5_failIf 16 = .ok (.aload_n 0, 1) := by decide +kernel
theorem dX5_failIf_17 : decode cX5_failIf 17 = .ok (.aload_n 0, 1) := by decide +kernel
theorem dX5_failIf_18 : decode cX5_failIf 18 = .ok (.getfield 23, 3) := by decide +kernel
theorem dX5_failIf_21 : decode cX5_failIf 21 = .ok (.putfield 75, 3) := by decide +kernel
theorem dX5_failIf_24 : decode cX5_failIf 24 = .ok (.return_, 1) := by decide +kernel
theorem dX5_seeItem_0 : decode cX5_seeItem 0 = .ok (.aload_n 0, 1) := by decide +kernel
theorem dX5_seeItem_1 : decode cX5_seeItem 1 = .ok (.getfield 15, 3) := by decide +kernel
theorem dX5_seeItem_4 : decode cX5_seeItem 4 = .ok (.aload_n 0, 1) := by decide +kernel
theorem dX5_seeItem_5 : decode cX5_seeItem 5 = .ok (.getfield 9, 3) := by decide +kernel
theorem dX5_seeItem_8 : decode cX5_seeItem 8 = .ok (.aload_n 0, 1) := by decide +kernel
theorem dX5_seeItem_9 : decode cX5_seeItem 9 = .ok (.getfield 23, 3) := by decide +kernel
theorem dX5_seeItem_12 : decode cX5_seeItem 12 = .ok (.invokevirtual 82, 3) := by decide +kernel
theorem dX5_seeItem_15 : decode cX5_seeItem 15 = .ok (.invokevirtual 162, 3) := by decide +kernel
theorem dX5_seeItem_18 : decode cX5_seeItem 18 = .ok (.istore_n 1, 1) := by decide +kernel
theorem dX5_seeItem_19 : decode cX5_seeItem 19 = .ok (.aload_n 0, 1) := by decide +kernel
theorem dX5_seeItem_20 : decode cX5_seeItem 20 = .ok (.iload_n 1, 1) := by decide +kernel
theorem dX5_seeItem_21 : decode cX5_seeItem 21 = .ok (.iconst (-1), 1) := by decide +kernel
theorem dX5_seeItem_22 : decode cX5_seeItem 22 = .ok (.if_icmp .ne 7, 3) := by decide +kernel
theorem dX5_seeItem_25 : decode cX5_seeItem 25 = .ok (.iconst 1, 1) := by decide +kernel
theorem dX5_seeItem_26 : decode cX5_seeItem 26 = .ok (.goto 4, 3) := by decide +kernel
theorem dX5_seeItem_29 : decode cX5_seeItem 29 = .ok (.iconst 0, 1) := by decide +kernel
theorem dX5_seeItem_30 : decode cX5_seeItem 30 = .ok (.iconst 3, 1) := by decide +kernel
theorem dX5_seeItem_31 : decode cX5_seeItem 31 = .ok (.invokevirtual 92, 3) := by decide +kernel
theorem dX5_seeItem_34 : decode cX5_seeItem 34 = .ok (.iload_n 1, 1) := by decide +kernel
theorem dX5_seeItem_35 : decode cX5_seeItem 35 = .ok (.ireturn, 1) := by decide +kernel
theorem dX5_sees_0 : decode cX5_sees 0 = .ok (.aload_n 0, 1) := by decide +kernel
theorem dX5_sees_1 : decode cX5_sees 1 = .ok (.getfield 9, 3) := by decide +kernel
theorem dX5_sees_4 : decode cX5_sees 4 = .ok (.aload_n 0, 1) := by decide +kernel
theorem dX5_sees_5 : decode cX5_sees 5 = .ok (.getfield 23, 3) := by decide +kernel
theorem dX5_sees_8 : decode cX5_sees 8 = .ok (.invokevirtual 42, 3) := by decide +kernel
theorem dX5_sees_11 : decode cX5_sees 11 = .ok (.aload_n 1, 1) := by decide +kernel
theorem dX5_sees_12 : decode cX5_sees 12 = .ok (.if_acmp .ne 7, 3) := by decide +kernel
theorem dX5_sees_15 : decode cX5_sees 15 = .ok (.iconst 1, 1) := by decide +kernel
theorem dX5_sees_16 : decode cX5_sees 16 = .ok (.goto 4, 3) := by decide +kernel
theorem dX5_sees_19 : decode cX5_sees 19 = .ok (.iconst 0, 1) := by decide +kernel
theorem dX5_sees_20 : decode cX5_sees 20 = .ok (.ireturn, 1) := by decide +kernel
theorem dX5_takeNewItem_0 : decode cX5_takeNewItem 0 = .ok (.aload_n 0, 1) := by decide +kernel
theorem dX5_takeNewItem_1 : decode cX5_takeNewItem 1 = .ok (.getfield 9, 3) := by decide +kernel
theorem dX5_takeNewItem_4 : decode cX5_takeNewItem 4 = .ok (.aload_n 0, 1) := by decide +kernel
theorem dX5_takeNewItem_5 : decode cX5_takeNewItem 5 = .ok (.getfield 23, 3) := by decide +kernel
theorem dX5_takeNewItem_8 : decode cX5_takeNewItem 8 = .ok (.invokevirtual 82, 3) := by decide +kernel
theorem dX5_takeNewItem_11 : decode cX5_takeNewItem 11 = .ok (.lstore_n 1, 1) := by decide +kernel
theorem dX5_takeNewItem_12 : decode cX5_takeNewItem 12 = .ok (.aload_n 0, 1) := by decide +kernel
theorem dX5_takeNewItem_13 : decode cX5_takeNewItem 13 = .ok (.aload_n 0, 1) := by decide +kernel
theorem dX5_takeNewItem_14 : decode cX5_takeNewItem 14 = .ok (.getfield 15, 3) := by decide +kernel
theorem dX5_takeNewItem_17 : decode cX5_takeNewItem 17 = .ok (.lload_n 1, 1) := by decide +kernel
theorem dX5_takeNewItem_18 : decode cX5_takeNewItem 18 = .ok (.invokevirtual 162, 3) := by decide +kernel
theorem dX5_takeNewItem_21 : decode cX5_takeNewItem 21 = .ok (.iconst (-1), 1) := by decide +kernel
theorem dX5_takeNewItem_22 : decode cX5_takeNewItem 22 = .ok (.if_icmp .eq 7, 3) := by decide +kernel
theorem dX5_takeNewItem_25 : decode cX5_takeNewItem 25 = .ok (.iconst 1, 1) := by decide +kernel
theorem dX5_takeNewItem_26 : decode cX5_takeNewItem 26 = .ok (.goto 4, 3) := by decide +kernel
theorem dX5_takeNewItem_29 : decode cX5_takeNewItem 29 = .ok (.iconst 0, 1) := by decide +kernel
theorem dX5_takeNewItem_30 : decode cX5_takeNewItem 30 = .ok (.iconst 2, 1) := by decide +kernel
theorem dX5_takeNewItem_31 : decode cX5_takeNewItem 31 = .ok (.invokevirtual 92, 3) := by decide +kernel
theorem dX5_takeNewItem_34 : decode cX5_takeNewItem 34 = .ok (.aload_n 0, 1) := by decide +kernel
theorem dX5_takeNewItem_35 : decode cX5_takeNewItem 35 = .ok (.aload_n 0, 1) := by decide +kernel
theorem dX5_takeNewItem_36 : decode cX5_takeNewItem 36 = .ok (.getfield 15, 3) := by decide +kernel
theorem dX5_takeNewItem_39 : decode cX5_takeNewItem 39 = .ok (.invokevirtual 165, 3) := by decide +kernel
theorem dX5_takeNewItem_42 : decode cX5_takeNewItem 42 = .ok (.bipush 40, 2) := by decide +kernel
theorem dX5_takeNewItem_44 : decode cX5_takeNewItem 44 = .ok (.if_icmp .lt 7, 3) := by decide +kernel
theorem dX5_takeNewItem_47 : decode cX5_takeNewItem 47 = .ok (.iconst 1, 1) := by decide +kernel
theorem dX5_takeNewItem_48 : decode cX5_takeNewItem 48 = .ok (.goto 4, 3) := by decide +kernel
theorem dX5_takeNewItem_51 : decode cX5_takeNewItem 51 = .ok (.iconst 0, 1) := by decide +kernel
theorem dX5_takeNewItem_52 : decode cX5_takeNewItem 52 = .ok (.iconst 4, 1) := by decide +kernel
theorem dX5_takeNewItem_53 : decode cX5_takeNewItem 53 = .ok (.invokevirtual 92, 3) := by decide +kernel
theorem dX5_takeNewItem_56 : decode cX5_takeNewItem 56 = .ok (.aload_n 0, 1) := by decide +kernel
theorem dX5_takeNewItem_57 : decode cX5_takeNewItem 57 = .ok (.dup, 1) := by decide +kernel
theorem dX5_takeNewItem_58 : decode cX5_takeNewItem 58 = .ok (.getfield 23, 3) := by decide +kernel
theorem dX5_takeNewItem_61 : decode cX5_takeNewItem 61 = .ok (.iconst 1, 1) := by decide +kernel
theorem dX5_takeNewItem_62 : decode cX5_takeNewItem 62 = .ok (.iadd, 1) := by decide +kernel
theorem dX5_takeNewItem_63 : decode cX5_takeNewItem 63 = .ok (.putfield 23, 3) := by decide +kernel
theorem dX5_takeNewItem_66 : decode cX5_takeNewItem 66 = .ok (.lload_n 1, 1) := by decide +kernel
theorem dX5_takeNewItem_67 : decode cX5_takeNewItem 67 = .ok (.lreturn, 1) := by decide +kernel
theorem dX5_takeNumberBehind_0 : decode cX5_takeNumberBehind 0 = .ok (.aload_n 0, 1) := by decide +kernel
theorem dX5_takeNumberBehind_1 : decode cX5_takeNumberBehind 1 = .ok (.aload_n 1, 1) := by decide +kernel
theorem dX5_takeNumberBehind_2 : decode cX5_takeNumberBehind 2 = .ok (.invokevirtual 38, 3) := by decide +kernel
theorem dX5_takeNumberBehind_5 : decode cX5_takeNumberBehind 5 = .ok (.ifCond .ne 5, 3) := by decide +kernel
theorem dX5_takeNumberBehind_8 : decode cX5_takeNumberBehind 8 = .ok (.iload_n 2, 1) := by decide +kernel
theorem dX5_takeNumberBehind_9 : decode cX5_takeNumberBehind 9 = .ok (.ireturn, 1) := by decide +kernel
theorem dX5_takeNumberBehind_10 : decode cX5_takeNumberBehind 10 = .ok (.aload_n 0, 1) := by decide +kernel
theorem dX5_takeNumberBehind_11 : decode cX5_takeNumberBehind 11 = .ok (.dup, 1) := by decide +kernel
theorem dX5_takeNumberBehind_12 : decode cX5_takeNumberBehind 12 = .ok (.getfield 23, 3) := by decide +kernel
theorem dX5_takeNumberBehind_15 : decode cX5_takeNumberBehind 15 = .ok (.iconst 1, 1) := by decide +kernel
theorem dX5_takeNumberBehind_16 : decode cX5_takeNumberBehind 16 = .ok (.iadd, 1) := by decide +kernel
theorem dX5_takeNumberBehind_17 : decode cX5_takeNumberBehind 17 = .ok (.putfield 23, 3) := by decide +kernel
theorem dX5_takeNumberBehind_20 : decode cX5_takeNumberBehind 20 = .ok (.aload_n 0, 1) := by decide +kernel
theorem dX5_takeNumberBehind_21 : decode cX5_takeNumberBehind 21 = .ok (.getfield 9, 3) := by decide +kernel
theorem dX5_takeNumberBehind_24 : decode cX5_takeNumberBehind 24 = .ok (.aload_n 0, 1) := by decide +kernel
theorem dX5_takeNumberBehind_25 : decode cX5_takeNumberBehind 25 = .ok (.getfield 23, 3) := by decide +kernel
theorem dX5_takeNumberBehind_28 : decode cX5_takeNumberBehind 28 = .ok (.invokevirtual 82, 3) := by decide +kernel
theorem dX5_takeNumberBehind_31 : decode cX5_takeNumberBehind 31 = .ok (.lstore 5, 2) := by decide +kernel
theorem dX5_takeNumberBehind_33 : decode cX5_takeNumberBehind 33 = .ok (.aload_n 0, 1) := by decide +kernel
theorem dX5_takeNumberBehind_34 : decode cX5_takeNumberBehind 34 = .ok (.lload 5, 2) := by decide +kernel
theorem dX5_takeNumberBehind_36 : decode cX5_takeNumberBehind 36 = .ok (.iload_n 3, 1) := by decide +kernel
theorem dX5_takeNumberBehind_37 : decode cX5_takeNumberBehind 37 = .ok (.i2l, 1) := by decide +kernel
theorem dX5_takeNumberBehind_38 : decode cX5_takeNumberBehind 38 = .ok (.lcmp, 1) := by decide +kernel
theorem dX5_takeNumberBehind_39 : decode cX5_takeNumberBehind 39 = .ok (.ifCond .lt 12, 3) := by decide +kernel
theorem dX5_takeNumberBehind_42 : decode cX5_takeNumberBehind 42 = .ok (.lload 5, 2) := by decide +kernel
theorem dX5_takeNumberBehind_44 : decode cX5_takeNumberBehind 44 = .ok (.iload 4, 2) := by decide +kernel
theorem dX5_takeNumberBehind_46 : decode cX5_takeNumberBehind 46 = .ok (.i2l, 1) := by decide +kernel
theorem dX5_takeNumberBehind_47 : decode cX5_takeNumberBehind 47 = .ok (.lcmp, 1) := by decide +kernel
theorem dX5_takeNumberBehind_48 : decode cX5_takeNumberBehind 48 = .ok (.ifCond .le 7, 3) := by decide +kernel
theorem dX5_takeNumberBehind_51 : decode cX5_takeNumberBehind 51 = .ok (.iconst 1, 1) := by decide +kernel
theorem dX5_takeNumberBehind_52 : decode cX5_takeNumberBehind 52 = .ok (.goto 4, 3) := by decide +kernel
theorem dX5_takeNumberBehind_55 : decode cX5_takeNumberBehind 55 = .ok (.iconst 0, 1) := by decide +kernel
theorem dX5_takeNumberBehind_56 : decode cX5_takeNumberBehind 56 = .ok (.iconst 5, 1) := by decide +kernel
theorem dX5_takeNumberBehind_57 : decode cX5_takeNumberBehind 57 = .ok (.invokevirtual 92, 3) := by decide +kernel
theorem dX5_takeNumberBehind_60 : decode cX5_takeNumberBehind 60 = .ok (.aload_n 0, 1) := by decide +kernel
theorem dX5_takeNumberBehind_61 : decode cX5_takeNumberBehind 61 = .ok (.dup, 1) := by decide +kernel
theorem dX5_takeNumberBehind_62 : decode cX5_takeNumberBehind 62 = .ok (.getfield 23, 3) := by decide +kernel
theorem dX5_takeNumberBehind_65 : decode cX5_takeNumberBehind 65 = .ok (.iconst 1, 1) := by decide +kernel
theorem dX5_takeNumberBehind_66 : decode cX5_takeNumberBehind 66 = .ok (.iadd, 1) := by decide +kernel
theorem dX5_takeNumberBehind_67 : decode cX5_takeNumberBehind 67 = .ok (.putfield 23, 3) := by decide +kernel
theorem dX5_takeNumberBehind_70 : decode cX5_takeNumberBehind 70 = .ok (.lload 5, 2) := by decide +kernel
theorem dX5_takeNumberBehind_72 : decode cX5_takeNumberBehind 72 = .ok (.l2i, 1) := by decide +kernel
theorem dX5_takeNumberBehind_73 : decode cX5_takeNumberBehind 73 = .ok (.ireturn, 1) := by decide +kernel
theorem dX5_takeSingle_0 : decode cX5_takeSingle 0 = .ok (.aload_n 0, 1) := by decide +kernel
theorem dX5_takeSingle_1 : decode cX5_takeSingle 1 = .ok (.getfield 9, 3) := by decide +kernel
theorem dX5_takeSingle_4 : decode cX5_takeSingle 4 = .ok (.aload_n 0, 1) := by decide +kernel
theorem dX5_takeSingle_5 : decode cX5_takeSingle 5 = .ok (.getfield 23, 3) := by decide +kernel
theorem dX5_takeSingle_8 : decode cX5_takeSingle 8 = .ok (.invokevirtual 42, 3) := by decide +kernel
theorem dX5_takeSingle_11 : decode cX5_takeSingle 11 = .ok (.astore_n 2, 1) := by decide +kernel
theorem dX5_takeSingle_12 : decode cX5_takeSingle 12 = .ok (.aload_n 0, 1) := by decide +kernel
theorem dX5_takeSingle_13 : decode cX5_takeSingle 13 = .ok (.dup, 1) := by decide +kernel
theorem dX5_takeSingle_14 : decode cX5_takeSingle 14 = .ok (.getfield 23, 3) := by decide +kernel
theorem dX5_takeSingle_17 : decode cX5_takeSingle 17 = .ok (.iconst 1, 1) := by decide +kernel
theorem dX5_takeSingle_18 : decode cX5_takeSingle 18 = .ok (.iadd, 1) := by decide +kernel
theorem dX5_takeSingle_19 : decode cX5_takeSingle 19 = .ok (.putfield 23, 3) := by decide +kernel
theorem dX5_takeSingle_22 : decode cX5_takeSingle 22 = .ok (.iload_n 1, 1) := by decide +kernel
theorem dX5_takeSingle_23 : decode cX5_takeSingle 23 = .ok (.bipush 6, 2) := by decide +kernel
theorem dX5_takeSingle_25 : decode cX5_takeSingle 25 = .ok (.if_icmp .ge 26, 3) := by decide +kernel
theorem dX5_takeSingle_28 : decode cX5_takeSingle 28 = .ok (.aload_n 2, 1) := by decide +kernel
theorem dX5_takeSingle_29 : decode cX5_takeSingle 29 = .ok (.getstatic 186, 3) := by decide +kernel
theorem dX5_takeSingle_32 : decode cX5_takeSingle 32 = .ok (.if_acmp .ne 19, 3) := by decide +kernel
theorem dX5_takeSingle_35 : decode cX5_takeSingle 35 = .ok (.aload_n 0, 1) := by decide +kernel
theorem dX5_takeSingle_36 : decode cX5_takeSingle 36 = .ok (.iload_n 1, 1) := by decide +kernel
theorem dX5_takeSingle_37 : decode cX5_takeSingle 37 = .ok (.iconst 1, 1) := by decide +kernel
theorem dX5_takeSingle_38 : decode cX5_takeSingle 38 = .ok (.iadd, 1) := by decide +kernel
theorem dX5_takeSingle_39 : decode cX5_takeSingle 39 = .ok (.invokevirtual 180, 3) := by decide +kernel
theorem dX5_takeSingle_42 : decode cX5_takeSingle 42 = .ok (.ifCond .ne 7, 3) := by decide +kernel
theorem dX5_takeSingle_45 : decode cX5_takeSingle 45 = .ok (.iconst 1, 1) := by decide +kernel
theorem dX5_takeSingle_46 : decode cX5_takeSingle 46 = .ok (.goto 4, 3) := by decide +kernel
theorem dX5_takeSingle_49 : decode cX5_takeSingle 49 = .ok (.iconst 0, 1) := by decide +kernel
theorem dX5_takeSingle_50 : decode cX5_takeSingle 50 = .ok (.ireturn, 1) := by decide +kernel
theorem dX5_takeSingle_51 : decode cX5_takeSingle 51 = .ok (.iload_n 1, 1) := by decide +kernel
theorem dX5_takeSingle_52 : decode cX5_takeSingle 52 = .ok (.bipush 6, 2) := by decide +kernel
theorem dX5_takeSingle_54 : decode cX5_takeSingle 54 = .ok (.if_icmp .ge 30, 3) := by decide +kernel
theorem dX5_takeSingle_57 : decode cX5_takeSingle 57 = .ok (.aload_n 2, 1) := by decide +kernel
theorem dX5_takeSingle_58 : decode cX5_takeSingle 58 = .ok (.getstatic 189, 3) := by decide +kernel
theorem dX5_takeSingle_61 : decode cX5_takeSingle 61 = .ok (.if_acmp .ne 23, 3) := by decide +kernel
theorem dX5_takeSingle_64 : decode cX5_takeSingle 64 = .ok (.aload_n 0, 1) := by decide +kernel
theorem dX5_takeSingle_65 : decode cX5_takeSingle 65 = .ok (.iload_n 1, 1) := by decide +kernel
theorem dX5_takeSingle_66 : decode cX5_takeSingle 66 = .ok (.iconst 1, 1) := by decide +kernel
theorem dX5_takeSingle_67 : decode cX5_takeSingle 67 = .ok (.iadd, 1) := by decide +kernel
theorem dX5_takeSingle_68 : decode cX5_takeSingle 68 = .ok (.invokevirtual 147, 3) := by decide +kernel
theorem dX5_takeSingle_71 : decode cX5_takeSingle 71 = .ok (.istore_n 3, 1) := by decide +kernel
theorem dX5_takeSingle_72 : decode cX5_takeSingle 72 = .ok (.aload_n 0, 1) := by decide +kernel
theorem dX5_takeSingle_73 : decode cX5_takeSingle 73 = .ok (.dup, 1) := by decide +kernel
theorem dX5_takeSingle_74 : decode cX5_takeSingle 74 = .ok (.getfield 23, 3) := by decide +kernel
theorem dX5_takeSingle_77 : decode cX5_takeSingle 77 = .ok (.iconst 1, 1) := by decide +kernel
theorem dX5_takeSingle_78 : decode cX5_takeSingle 78 = .ok (.iadd, 1) := by decide +kernel
theorem dX5_takeSingle_79 : decode cX5_takeSingle 79 = .ok (.putfield 23, 3) := by decide +kernel
theorem dX5_takeSingle_82 : decode cX5_takeSingle 82 = .ok (.iload_n 3, 1) := by decide +kernel
theorem dX5_takeSingle_83 : decode cX5_takeSingle 83 = .ok (.ireturn, 1) := by decide +kernel
theorem dX5_takeSingle_84 : decode cX5_takeSingle 84 = .ok (.aload_n 0, 1) := by decide +kernel
theorem dX5_takeSingle_85 : decode cX5_takeSingle 85 = .ok (.invokevirtual 126, 3) := by decide +kernel
theorem dX5_takeSingle_88 : decode cX5_takeSingle 88 = .ok (.istore_n 3, 1) := by decide +kernel
theorem dX5_takeSingle_89 : decode cX5_takeSingle 89 = .ok (.aload_n 0, 1) := by decide +kernel
theorem dX5_takeSingle_90 : decode cX5_takeSingle 90 = .ok (.dup, 1) := by decide +kernel
theorem dX5_takeSingle_91 : decode cX5_takeSingle 91 = .ok (.getfield 23, 3) := by decide +kernel
theorem dX5_takeSingle_94 : decode cX5_takeSingle 94 = .ok (.iconst 1, 1) := by decide +kernel
theorem dX5_takeSingle_95 : decode cX5_takeSingle 95 = .ok (.iadd, 1) := by decide +kernel
theorem dX5_takeSingle_96 : decode cX5_takeSingle 96 = .ok (.putfield 23, 3) := by decide +kernel
theorem dX5_takeSingle_99 : decode cX5_takeSingle 99 = .ok (.aload_n 2, 1) := by decide +kernel
theorem dX5_takeSingle_100 : decode cX5_takeSingle 100 = .ok (.getstatic 192, 3) := by decide +kernel
theorem dX5_takeSingle_103 : decode cX5_takeSingle 103 = .ok (.if_acmp .ne 14, 3) := by decide +kernel
theorem dX5_takeSingle_106 : decode cX5_takeSingle 106 = .ok (.aload_n 0, 1) := by decide +kernel
theorem dX5_takeSingle_107 : decode cX5_takeSingle 107 = .ok (.getfield 15, 3) := by decide +kernel
theorem dX5_takeSingle_110 : decode cX5_takeSingle 110 = .ok (.iload_n 3, 1) := by decide +kernel
theorem dX5_takeSingle_111 : decode cX5_takeSingle 111 = .ok (.invokevirtual 155, 3) := by decide +kernel
theorem dX5_takeSingle_114 : decode cX5_takeSingle 114 = .ok (.goto 20, 3) := by decide +kernel
theorem dX5_takeSingle_117 : decode cX5_takeSingle 117 = .ok (.aload_n 0, 1) := by decide +kernel
theorem dX5_takeSingle_118 : decode cX5_takeSingle 118 = .ok (.getfield 19, 3) := by decide +kernel
theorem dX5_takeSingle_121 : decode cX5_takeSingle 121 = .ok (.iload_n 3, 1) := by decide +kernel
theorem dX5_takeSingle_122 : decode cX5_takeSingle 122 = .ok (.invokevirtual 195, 3) := by decide +kernel
theorem dX5_takeSingle_125 : decode cX5_takeSingle 125 = .ok (.aload_n 2, 1) := by decide +kernel
theorem dX5_takeSingle_126 : decode cX5_takeSingle 126 = .ok (.if_acmp .ne 7, 3) := by decide +kernel
theorem dX5_takeSingle_129 : decode cX5_takeSingle 129 = .ok (.iconst 1, 1) := by decide +kernel
theorem dX5_takeSingle_130 : decode cX5_takeSingle 130 = .ok (.goto 4, 3) := by decide +kernel
theorem dX5_takeSingle_133 : decode cX5_takeSingle 133 = .ok (.iconst 0, 1) := by decide +kernel
theorem dX5_takeSingle_134 : decode cX5_takeSingle 134 = .ok (.ireturn, 1) := by decide +kernel
theorem dX5_takeTime_0 : decode cX5_takeTime 0 = .ok (.aload_n 0, 1) := by decide +kernel
theorem dX5_takeTime_1 : decode cX5_takeTime 1 = .ok (.aload_n 0, 1) := by decide +kernel
theorem dX5_takeTime_2 : decode cX5_takeTime 2 = .ok (.getfield 15, 3) := by decide +kernel
theorem dX5_takeTime_5 : decode cX5_takeTime 5 = .ok (.iload_n 1, 1) := by decide +kernel
theorem dX5_takeTime_6 : decode cX5_takeTime 6 = .ok (.invokevirtual 168, 3) := by decide +kernel
theorem dX5_takeTime_9 : decode cX5_takeTime 9 = .ok (.iload_n 2, 1) := by decide +kernel
theorem dX5_takeTime_10 : decode cX5_takeTime 10 = .ok (.if_icmp .ge 7, 3) := by decide +kernel
theorem dX5_takeTime_13 : decode cX5_takeTime 13 = .ok (.iconst 1, 1) := by decide +kernel
theorem dX5_takeTime_14 : decode cX5_takeTime 14 = .ok (.goto 4, 3) := by decide +kernel
theorem dX5_takeTime_17 : decode cX5_takeTime 17 = .ok (.iconst 0, 1) := by decide +kernel
theorem dX5_takeTime_18 : decode cX5_takeTime 18 = .ok (.bipush 7, 2) := by decide +kernel
theorem dX5_takeTime_20 : decode cX5_takeTime 20 = .ok (.invokevirtual 92, 3) := by decide +kernel
theorem dX5_takeTime_23 : decode cX5_takeTime 23 = .ok (.aload_n 0, 1) := by decide +kernel
theorem dX5_takeTime_24 : decode cX5_takeTime 24 = .ok (.getfield 27, 3) := by decide +kernel
theorem dX5_takeTime_27 : decode cX5_takeTime 27 = .ok (.ifCond .ne 13, 3) := by decide +kernel
theorem dX5_takeTime_30 : decode cX5_takeTime 30 = .ok (.aload_n 0, 1) := by decide +kernel
theorem dX5_takeTime_31 : decode cX5_takeTime 31 = .ok (.getfield 15, 3) := by decide +kernel
theorem dX5_takeTime_34 : decode cX5_takeTime 34 = .ok (.iload_n 1, 1) := by decide +kernel
theorem dX5_takeTime_35 : decode cX5_takeTime 35 = .ok (.iload_n 2, 1) := by decide +kernel
theorem dX5_takeTime_36 : decode cX5_takeTime 36 = .ok (.ineg, 1) := by decide +kernel
theorem dX5_takeTime_37 : decode cX5_takeTime 37 = .ok (.invokevirtual 171, 3) := by decide +kernel
theorem dX5_takeTime_40 : decode cX5_takeTime 40 = .ok (.return_, 1) := by decide +kernel
theorem dX5_tellSpeaker_0 : decode cX5_tellSpeaker 0 = .ok (.aload_n 0, 1) := by decide +kernel
theorem dX5_tellSpeaker_1 : decode cX5_tellSpeaker 1 = .ok (.getfield 9, 3) := by decide +kernel
theorem dX5_tellSpeaker_4 : decode cX5_tellSpeaker 4 = .ok (.aload_n 0, 1) := by decide +kernel
theorem dX5_tellSpeaker_5 : decode cX5_tellSpeaker 5 = .ok (.getfield 23, 3) := by decide +kernel
theorem dX5_tellSpeaker_8 : decode cX5_tellSpeaker 8 = .ok (.invokevirtual 82, 3) := by decide +kernel
theorem dX5_tellSpeaker_11 : decode cX5_tellSpeaker 11 = .ok (.lstore_n 1, 1) := by decide +kernel
theorem dX5_tellSpeaker_12 : decode cX5_tellSpeaker 12 = .ok (.aload_n 0, 1) := by decide +kernel
theorem dX5_tellSpeaker_13 : decode cX5_tellSpeaker 13 = .ok (.aload_n 0, 1) := by decide +kernel
theorem dX5_tellSpeaker_14 : decode cX5_tellSpeaker 14 = .ok (.getfield 15, 3) := by decide +kernel
theorem dX5_tellSpeaker_17 : decode cX5_tellSpeaker 17 = .ok (.lload_n 1, 1) := by decide +kernel
theorem dX5_tellSpeaker_18 : decode cX5_tellSpeaker 18 = .ok (.invokevirtual 86, 3) := by decide +kernel
theorem dX5_tellSpeaker_21 : decode cX5_tellSpeaker 21 = .ok (.iconst (-1), 1) := by decide +kernel
theorem dX5_tellSpeaker_22 : decode cX5_tellSpeaker 22 = .ok (.if_icmp .eq 7, 3) := by decide +kernel
theorem dX5_tellSpeaker_25 : decode cX5_tellSpeaker 25 = .ok (.iconst 1, 1) := by decide +kernel
theorem dX5_tellSpeaker_26 : decode cX5_tellSpeaker 26 = .ok (.goto 4, 3) := by decide +kernel
theorem dX5_tellSpeaker_29 : decode cX5_tellSpeaker 29 = .ok (.iconst 0, 1) := by decide +kernel
theorem dX5_tellSpeaker_30 : decode cX5_tellSpeaker 30 = .ok (.iconst 2, 1) := by decide +kernel
theorem dX5_tellSpeaker_31 : decode cX5_tellSpeaker 31 = .ok (.invokevirtual 92, 3) := by decide +kernel
theorem dX5_tellSpeaker_34 : decode cX5_tellSpeaker 34 = .ok (.aload_n 0, 1) := by decide +kernel
theorem dX5_tellSpeaker_35 : decode cX5_tellSpeaker 35 = .ok (.aload_n 0, 1) := by decide +kernel
theorem dX5_tellSpeaker_36 : decode cX5_tellSpeaker 36 = .ok (.getfield 15, 3) := by decide +kernel
theorem dX5_tellSpeaker_39 : decode cX5_tellSpeaker 39 = .ok (.invokevirtual 96, 3) := by decide +kernel
theorem dX5_tellSpeaker_42 : decode cX5_tellSpeaker 42 = .ok (.bipush 6, 2) := by decide +kernel
theorem dX5_tellSpeaker_44 : decode cX5_tellSpeaker 44 = .ok (.if_icmp .lt 7, 3) := by decide +kernel
theorem dX5_tellSpeaker_47 : decode cX5_tellSpeaker 47 = .ok (.iconst 1, 1) := by decide +kernel
theorem dX5_tellSpeaker_48 : decode cX5_tellSpeaker 48 = .ok (.goto 4, 3) := by decide +kernel
theorem dX5_tellSpeaker_51 : decode cX5_tellSpeaker 51 = .ok (.iconst 0, 1) := by decide +kernel
theorem dX5_tellSpeaker_52 : decode cX5_tellSpeaker 52 = .ok (.iconst 4, 1) := by decide +kernel
theorem dX5_tellSpeaker_53 : decode cX5_tellSpeaker 53 = .ok (.invokevirtual 92, 3) := by decide +kernel
theorem dX5_tellSpeaker_56 : decode cX5_tellSpeaker 56 = .ok (.aload_n 0, 1) := by decide +kernel
theorem dX5_tellSpeaker_57 : decode cX5_tellSpeaker 57 = .ok (.dup, 1) := by decide +kernel
theorem dX5_tellSpeaker_58 : decode cX5_tellSpeaker 58 = .ok (.getfield 23, 3) := by decide +kernel
theorem dX5_tellSpeaker_61 : decode cX5_tellSpeaker 61 = .ok (.iconst 1, 1) := by decide +kernel
theorem dX5_tellSpeaker_62 : decode cX5_tellSpeaker 62 = .ok (.iadd, 1) := by decide +kernel
theorem dX5_tellSpeaker_63 : decode cX5_tellSpeaker 63 = .ok (.putfield 23, 3) := by decide +kernel
theorem dX5_tellSpeaker_66 : decode cX5_tellSpeaker 66 = .ok (.aload_n 0, 1) := by decide +kernel
theorem dX5_tellSpeaker_67 : decode cX5_tellSpeaker 67 = .ok (.getstatic 100, 3) := by decide +kernel
theorem dX5_tellSpeaker_70 : decode cX5_tellSpeaker 70 = .ok (.sipush 300, 3) := by decide +kernel
theorem dX5_tellSpeaker_73 : decode cX5_tellSpeaker 73 = .ok (.iconst 0, 1) := by decide +kernel
theorem dX5_tellSpeaker_74 : decode cX5_tellSpeaker 74 = .ok (.sipush 3600, 3) := by decide +kernel
theorem dX5_tellSpeaker_77 : decode cX5_tellSpeaker 77 = .ok (.invokevirtual 103, 3) := by decide +kernel
theorem dX5_tellSpeaker_80 : decode cX5_tellSpeaker 80 = .ok (.istore_n 3, 1) := by decide +kernel
theorem dX5_tellSpeaker_81 : decode cX5_tellSpeaker 81 = .ok (.aload_n 0, 1) := by decide +kernel
theorem dX5_tellSpeaker_82 : decode cX5_tellSpeaker 82 = .ok (.getfield 27, 3) := by decide +kernel
theorem dX5_tellSpeaker_85 : decode cX5_tellSpeaker 85 = .ok (.ifCond .ne 12, 3) := by decide +kernel
theorem dX5_tellSpeaker_88 : decode cX5_tellSpeaker 88 = .ok (.aload_n 0, 1) := by decide +kernel
theorem dX5_tellSpeaker_89 : decode cX5_tellSpeaker 89 = .ok (.getfield 15, 3) := by decide +kernel
theorem dX5_tellSpeaker_92 : decode cX5_tellSpeaker 92 = .ok (.lload_n 1, 1) := by decide +kernel
theorem dX5_tellSpeaker_93 : decode cX5_tellSpeaker 93 = .ok (.iload_n 3, 1) := by decide +kernel
theorem dX5_tellSpeaker_94 : decode cX5_tellSpeaker 94 = .ok (.invokevirtual 107, 3) := by decide +kernel
theorem dX5_tellSpeaker_97 : decode cX5_tellSpeaker 97 = .ok (.return_, 1) := by decide +kernel
theorem dX6_behindBlanks_0 : decode cX6_behindBlanks 0 = .ok (.iload_n 1, 1) := by decide +kernel
theorem dX6_behindBlanks_1 : decode cX6_behindBlanks 1 = .ok (.istore_n 2, 1) := by decide +kernel
theorem dX6_behindBlanks_2 : decode cX6_behindBlanks 2 = .ok (.iload_n 2, 1) := by decide +kernel
theorem dX6_behindBlanks_3 : decode cX6_behindBlanks 3 = .ok (.aload_n 0, 1) := by decide +kernel
theorem dX6_behindBlanks_4 : decode cX6_behindBlanks 4 = .ok (.invokevirtual 31, 3) := by decide +kernel
theorem dX6_behindBlanks_7 : decode cX6_behindBlanks 7 = .ok (.if_icmp .ge 29, 3) := by decide +kernel
theorem dX6_behindBlanks_10 : decode cX6_behindBlanks 10 = .ok (.aload_n 0, 1) := by decide +kernel
theorem dX6_behindBlanks_11 : decode cX6_behindBlanks 11 = .ok (.iload_n 2, 1) := by decide +kernel
theorem dX6_behindBlanks_12 : decode cX6_behindBlanks 12 = .ok (.invokevirtual 51, 3) := by decide +kernel
theorem dX6_behindBlanks_15 : decode cX6_behindBlanks 15 = .ok (.bipush 32, 2) := by decide +kernel
theorem dX6_behindBlanks_17 : decode cX6_behindBlanks 17 = .ok (.if_icmp .eq 13, 3) := by decide +kernel
theorem dX6_behindBlanks_20 : decode cX6_behindBlanks 20 = .ok (.aload_n 0, 1) := by decide +kernel
theorem dX6_behindBlanks_21 : decode cX6_behindBlanks 21 = .ok (.iload_n 2, 1) := by decide +kernel
theorem dX6_behindBlanks_22 : decode cX6_behindBlanks 22 = .ok (.invokevirtual 51, 3) := by decide +kernel
theorem dX6_behindBlanks_25 : decode cX6_behindBlanks 25 = .ok (.bipush 10, 2) := by decide +kernel
theorem dX6_behindBlanks_27 : decode cX6_behindBlanks 27 = .ok (.if_icmp .ne 9, 3) := by decide +kernel
theorem dX6_behindBlanks_30 : decode cX6_behindBlanks 30 = .ok (.iinc 2 1, 3) := by decide +kernel
theorem dX6_behindBlanks_33 : decode cX6_behindBlanks 33 = .ok (.goto (-31), 3) := by decide +kernel
theorem dX6_behindBlanks_36 : decode cX6_behindBlanks 36 = .ok (.iload_n 2, 1) := by decide +kernel
theorem dX6_behindBlanks_37 : decode cX6_behindBlanks 37 = .ok (.ireturn, 1) := by decide +kernel
theorem dX6_isDigit_0 : decode cX6_isDigit 0 = .ok (.iload_n 0, 1) := by decide +kernel
theorem dX6_isDigit_1 : decode cX6_isDigit 1 = .ok (.bipush 48, 2) := by decide +kernel
theorem dX6_isDigit_3 : decode cX6_isDigit 3 = .ok (.if_icmp .lt 13, 3) := by decide +kernel
theorem dX6_isDigit_6 : decode cX6_isDigit 6 = .ok (.iload_n 0, 1) := by decide +kernel
theorem dX6_isDigit_7 : decode cX6_isDigit 7 = .ok (.bipush 57, 2) := by decide +kernel
theorem dX6_isDigit_9 : decode cX6_isDigit 9 = .ok (.if_icmp .gt 7, 3) := by decide +kernel
theorem dX6_isDigit_12 : decode cX6_isDigit 12 = .ok (.iconst 1, 1) := by decide +kernel
theorem dX6_isDigit_13 : decode cX6_isDigit 13 = .ok (.goto 4, 3) := by decide +kernel
theorem dX6_isDigit_16 : decode cX6_isDigit 16 = .ok (.iconst 0, 1) := by decide +kernel
theorem dX6_isDigit_17 : decode cX6_isDigit 17 = .ok (.ireturn, 1) := by decide +kernel
theorem dX6_isLetter_0 : decode cX6_isLetter 0 = .ok (.iload_n 0, 1) := by decide +kernel
theorem dX6_isLetter_1 : decode cX6_isLetter 1 = .ok (.bipush 97, 2) := by decide +kernel
theorem dX6_isLetter_3 : decode cX6_isLetter 3 = .ok (.if_icmp .lt 13, 3) := by decide +kernel
theorem dX6_isLetter_6 : decode cX6_isLetter 6 = .ok (.iload_n 0, 1) := by decide +kernel
theorem dX6_isLetter_7 : decode cX6_isLetter 7 = .ok (.bipush 122, 2) := by decide +kernel
theorem dX6_isLetter_9 : decode cX6_isLetter 9 = .ok (.if_icmp .gt 7, 3) := by decide +kernel
theorem dX6_isLetter_12 : decode cX6_isLetter 12 = .ok (.iconst 1, 1) := by decide +kernel
theorem dX6_isLetter_13 : decode cX6_isLetter 13 = .ok (.goto 4, 3) := by decide +kernel
theorem dX6_isLetter_16 : decode cX6_isLetter 16 = .ok (.iconst 0, 1) := by decide +kernel
theorem dX6_isLetter_17 : decode cX6_isLetter 17 = .ok (.ireturn, 1) := by decide +kernel
theorem dX6_kindAt_0 : decode cX6_kindAt 0 = .ok (.iload_n 1, 1) := by decide +kernel
theorem dX6_kindAt_1 : decode cX6_kindAt 1 = .ok (.ifCond .lt 27, 3) := by decide +kernel
theorem dX6_kindAt_4 : decode cX6_kindAt 4 = .ok (.iload_n 1, 1) := by decide +kernel
theorem dX6_kindAt_5 : decode cX6_kindAt 5 = .ok (.aload_n 0, 1) := by decide +kernel
theorem dX6_kindAt_6 : decode cX6_kindAt 6 = .ok (.getfield 23, 3) := by decide +kernel
theorem dX6_kindAt_9 : decode cX6_kindAt 9 = .ok (.if_icmp .ge 19, 3) := by decide +kernel
theorem dX6_kindAt_12 : decode cX6_kindAt 12 = .ok (.iload_n 1, 1) := by decide +kernel
theorem dX6_kindAt_13 : decode cX6_kindAt 13 = .ok (.sipush 400, 3) := by decide +kernel
theorem dX6_kindAt_16 : decode cX6_kindAt 16 = .ok (.if_icmp .gt 12, 3) := by decide +kernel
theorem dX6_kindAt_19 : decode cX6_kindAt 19 = .ok (.aload_n 0, 1) := by decide +kernel
theorem dX6_kindAt_20 : decode cX6_kindAt 20 = .ok (.getfield 11, 3) := by decide +kernel
theorem dX6_kindAt_23 : decode cX6_kindAt 23 = .ok (.iload_n 1, 1) := by decide +kernel
theorem dX6_kindAt_24 : decode cX6_kindAt 24 = .ok (.aaload, 1) := by decide +kernel
theorem dX6_kindAt_25 : decode cX6_kindAt 25 = .ok (.goto 6, 3) := by decide +kernel
theorem dX6_kindAt_28 : decode cX6_kindAt 28 = .ok (.getstatic 40, 3) := by decide +kernel
theorem dX6_kindAt_31 : decode cX6_kindAt 31 = .ok (.areturn, 1) := by decide +kernel
theorem dX6_placeOf_0 : decode cX6_placeOf 0 = .ok (.iload_n 1, 1) := by decide +kernel
theorem dX6_placeOf_1 : decode cX6_placeOf 1 = .ok (.ifCond .lt 27, 3) := by decide +kernel
theorem dX6_placeOf_4 : decode cX6_placeOf 4 = .ok (.iload_n 1, 1) := by decide +kernel
theorem dX6_placeOf_5 : decode cX6_placeOf 5 = .ok (.aload_n 0, 1) := by decide +kernel
theorem dX6_placeOf_6 : decode cX6_placeOf 6 = .ok (.getfield 23, 3) := by decide +kernel
theorem dX6_placeOf_9 : decode cX6_placeOf 9 = .ok (.if_icmp .ge 19, 3) := by decide +kernel
theorem dX6_placeOf_12 : decode cX6_placeOf 12 = .ok (.iload_n 1, 1) := by decide +kernel
theorem dX6_placeOf_13 : decode cX6_placeOf 13 = .ok (.sipush 400, 3) := by decide +kernel
theorem dX6_placeOf_16 : decode cX6_placeOf 16 = .ok (.if_icmp .gt 12, 3) := by decide +kernel
theorem dX6_placeOf_19 : decode cX6_placeOf 19 = .ok (.aload_n 0, 1) := by decide +kernel
theorem dX6_placeOf_20 : decode cX6_placeOf 20 = .ok (.getfield 15, 3) := by decide +kernel
theorem dX6_placeOf_23 : decode cX6_placeOf 23 = .ok (.iload_n 1, 1) := by decide +kernel
theorem dX6_placeOf_24 : decode cX6_placeOf 24 = .ok (.iaload, 1) := by decide +kernel
theorem dX6_placeOf_25 : decode cX6_placeOf 25 = .ok (.goto 4, 3) := by decide +kernel
theorem dX6_placeOf_28 : decode cX6_placeOf 28 = .ok (.iconst 0, 1) := by decide +kernel
theorem dX6_placeOf_29 : decode cX6_placeOf 29 = .ok (.ireturn, 1) := by decide +kernel
theorem dX6_put_0 : decode cX6_put 0 = .ok (.aload_n 0, 1) := by decide +kernel
theorem dX6_put_1 : decode cX6_put 1 = .ok (.getfield 23, 3) := by decide +kernel
theorem dX6_put_4 : decode cX6_put 4 = .ok (.ifCond .lt 53, 3) := by decide +kernel
theorem dX6_put_7 : decode cX6_put 7 = .ok (.aload_n 0, 1) := by decide +kernel
theorem dX6_put_8 : decode cX6_put 8 = .ok (.getfield 23, 3) := by decide +kernel
theorem dX6_put_11 : decode cX6_put 11 = .ok (.sipush 400, 3) := by decide +kernel
theorem dX6_put_14 : decode cX6_put 14 = .ok (.if_icmp .gt 43, 3) := by decide +kernel
theorem dX6_put_17 : decode cX6_put 17 = .ok (.aload_n 0, 1) := by decide +kernel
theorem dX6_put_18 : decode cX6_put 18 = .ok (.getfield 11, 3) := by decide +kernel
theorem dX6_put_21 : decode cX6_put 21 = .ok (.aload_n 0, 1) := by decide +kernel
theorem dX6_put_22 : decode cX6_put 22 = .ok (.getfield 23, 3) := by decide +kernel
theorem dX6_put_25 : decode cX6_put 25 = .ok (.aload_n 1, 1) := by decide +kernel
theorem dX6_put_26 : decode cX6_put 26 = .ok (.aastore, 1) := by decide +kernel
theorem dX6_put_27 : decode cX6_put 27 = .ok (.aload_n 0, 1) := by decide +kernel
theorem dX6_put_28 : decode cX6_put 28 = .ok (.getfield 15, 3) := by decide +kernel
theorem dX6_put_31 : decode cX6_put 31 = .ok (.aload_n 0, 1) := by decide +kernel
theorem dX6_put_32 : decode cX6_put 32 = .ok (.getfield 23, 3) := by decide +kernel
theorem dX6_put_35 : decode cX6_put 35 = .ok (.iload_n 2, 1) := by decide +kernel
theorem dX6_put_36 : decode cX6_put 36 = .ok (.iastore, 1) := by decide +kernel
theorem dX6_put_37 : decode cX6_put 37 = .ok (.aload_n 0, 1) := by decide +kernel
theorem dX6_put_38 : decode cX6_put 38 = .ok (.getfield 19, 3) := by decide +kernel
theorem dX6_put_41 : decode cX6_put 41 = .ok (.aload_n 0, 1) := by decide +kernel
theorem dX6_put_42 : decode cX6_put 42 = .ok (.getfield 23, 3) := by decide +kernel
theorem dX6_put_45 : decode cX6_put 45 = .ok (.lload_n 3, 1) := by decide +kernel
theorem dX6_put_46 : decode cX6_put 46 = .ok (.lastore, 1) := by decide +kernel
theorem dX6_put_47 : decode cX6_put 47 = .ok (.aload_n 0, 1) := by decide +kernel
theorem dX6_put_48 : decode cX6_put 48 = .ok (.dup, 1) := by decide +kernel
theorem dX6_put_49 : decode cX6_put 49 = .ok (.getfield 23, 3) := by decide +kernel
theorem dX6_put_52 : decode cX6_put 52 = .ok (.iconst 1, 1) := by decide +kernel
theorem dX6_put_53 : decode cX6_put 53 = .ok (.iadd, 1) := by decide +kernel
theorem dX6_put_54 : decode cX6_put 54 = .ok (.putfield 23, 3) := by decide +kernel
theorem dX6_put_57 : decode cX6_put 57 = .ok (.return_, 1) := by decide +kernel
theorem dX6_readNumber_0 : decode cX6_readNumber 0 = .ok (.lconst 0, 1) := by decide +kernel
theorem dX6_readNumber_1 : decode cX6_readNumber 1 = .ok (.lstore_n 3, 1) := by decide +kernel
theorem dX6_readNumber_2 : decode cX6_readNumber 2 = .ok (.iload_n 2, 1) := by decide +kernel
theorem dX6_readNumber_3 : decode cX6_readNumber 3 = .ok (.istore 5, 2) := by decide +kernel
theorem dX6_readNumber_5 : decode cX6_readNumber 5 = .ok (.iload 5, 2) := by decide +kernel
theorem dX6_readNumber_7 : decode cX6_readNumber 7 = .ok (.aload_n 1, 1) := by decide +kernel
theorem dX6_readNumber_8 : decode cX6_readNumber 8 = .ok (.invokevirtual 31, 3) := by decide +kernel
theorem dX6_readNumber_11 : decode cX6_readNumber 11 = .ok (.if_icmp .ge 39, 3) := by decide +kernel
theorem dX6_readNumber_14 : decode cX6_readNumber 14 = .ok (.aload_n 1, 1) := by decide +kernel
theorem dX6_readNumber_15 : decode cX6_readNumber 15 = .ok (.iload 5, 2) := by decide +kernel
theorem dX6_readNumber_17 : decode cX6_readNumber 17 = .ok (.invokevirtual 51, 3) := by decide +kernel
theorem dX6_readNumber_20 : decode cX6_readNumber 20 = .ok (.invokestatic 62, 3) := by decide +kernel
theorem dX6_readNumber_23 : decode cX6_readNumber 23 = .ok (.ifCond .eq 27, 3) := by decide +kernel
theorem dX6_readNumber_26 : decode cX6_readNumber 26 = .ok (.lload_n 3, 1) := by decide +kernel
theorem dX6_readNumber_27 : decode cX6_readNumber 27 = .ok (.ldc2_w 75, 3) := by decide +kernel
theorem dX6_readNumber_30 : decode cX6_readNumber 30 = .ok (.lmul, 1) := by decide +kernel
theorem dX6_readNumber_31 : decode cX6_readNumber 31 = .ok (.aload_n 1, 1) := by decide +kernel
theorem dX6_readNumber_32 : decode cX6_readNumber 32 = .ok (.iload 5, 2) := by decide +kernel
theorem dX6_readNumber_34 : decode cX6_readNumber 34 = .ok (.invokevirtual 51, 3) := by decide +kernel
theorem dX6_readNumber_37 : decode cX6_readNumber 37 = .ok (.i2l, 1) := by decide +kernel
theorem dX6_readNumber_38 : decode cX6_readNumber 38 = .ok (.ladd, 1) := by decide +kernel
theorem dX6_readNumber_39 : decode cX6_readNumber 39 = .ok (.ldc2_w 77, 3) := by decide +kernel
theorem dX6_readNumber_42 : decode cX6_readNumber 42 = .ok (.lsub, 1) := by decide +kernel
theorem dX6_readNumber_43 : decode cX6_readNumber 43 = .ok (.lstore_n 3, 1) := by decide +kernel
theorem dX6_readNumber_44 : decode cX6_readNumber 44 = .ok (.iinc 5 1, 3) := by decide +kernel
theorem dX6_readNumber_47 : decode cX6_readNumber 47 = .ok (.goto (-42), 3) := by decide +kernel
theorem dX6_readNumber_50 : decode cX6_readNumber 50 = .ok (.aload_n 0, 1) := by decide +kernel
theorem dX6_readNumber_51 : decode cX6_readNumber 51 = .ok (.iload 5, 2) := by decide +kernel
theorem dX6_readNumber_53 : decode cX6_readNumber 53 = .ok (.iload_n 2, 1) := by decide +kernel
theorem dX6_readNumber_54 : decode cX6_readNumber 54 = .ok (.isub, 1) := by decide +kernel
theorem dX6_readNumber_55 : decode cX6_readNumber 55 = .ok (.bipush 6, 2) := by decide +kernel
theorem dX6_readNumber_57 : decode cX6_readNumber 57 = .ok (.if_icmp .le 9, 3) := by decide +kernel
theorem dX6_readNumber_60 : decode cX6_readNumber 60 = .ok (.getstatic 40, 3) := by decide +kernel
theorem dX6_readNumber_63 : decode cX6_readNumber 63 = .ok (.goto 6, 3) := by decide +kernel
theorem dX6_readNumber_66 : decode cX6_readNumber 66 = .ok (.getstatic 79, 3) := by decide +kernel
theorem dX6_readNumber_69 : decode cX6_readNumber 69 = .ok (.iload_n 2, 1) := by decide +kernel
theorem dX6_readNumber_70 : decode cX6_readNumber 70 = .ok (.lload_n 3, 1) := by decide +kernel
theorem dX6_readNumber_71 : decode cX6_readNumber 71 = .ok (.invokevirtual 47, 3) := by decide +kernel
theorem dX6_readNumber_74 : decode cX6_readNumber 74 = .ok (.iload 5, 2) := by decide +kernel
theorem dX6_readNumber_76 : decode cX6_readNumber 76 = .ok (.ireturn, 1) := by decide +kernel
theorem dX6_readOne_0 : decode cX6_readOne 0 = .ok (.aload_n 1, 1) := by decide +kernel
theorem dX6_readOne_1 : decode cX6_readOne 1 = .ok (.iload_n 2, 1) := by decide +kernel
theorem dX6_readOne_2 : decode cX6_readOne 2 = .ok (.invokevirtual 51, 3) := by decide +kernel
theorem dX6_readOne_5 : decode cX6_readOne 5 = .ok (.istore_n 3, 1) := by decide +kernel
theorem dX6_readOne_6 : decode cX6_readOne 6 = .ok (.iload_n 3, 1) := by decide +kernel
theorem dX6_readOne_7 : decode cX6_readOne 7 = .ok (.invokestatic 55, 3) := by decide +kernel
theorem dX6_readOne_10 : decode cX6_readOne 10 = .ok (.ifCond .eq 10, 3) := by decide +kernel
theorem dX6_readOne_13 : decode cX6_readOne 13 = .ok (.aload_n 0, 1) := by decide +kernel
theorem dX6_readOne_14 : decode cX6_readOne 14 = .ok (.aload_n 1, 1) := by decide +kernel
theorem dX6_readOne_15 : decode cX6_readOne 15 = .ok (.iload_n 2, 1) := by decide +kernel
theorem dX6_readOne_16 : decode cX6_readOne 16 = .ok (.invokevirtual 59, 3) := by decide +kernel
theorem dX6_readOne_19 : decode cX6_readOne 19 = .ok (.ireturn, 1) := by decide +kernel
theorem dX6_readOne_20 : decode cX6_readOne 20 = .ok (.iload_n 3, 1) := by decide +kernel
theorem dX6_readOne_21 : decode cX6_readOne 21 = .ok (.invokestatic 62, 3) := by decide +kernel
theorem dX6_readOne_24 : decode cX6_readOne 24 = .ok (.ifCond .eq 10, 3) := by decide +kernel
theorem dX6_readOne_27 : decode cX6_readOne 27 = .ok (.aload_n 0, 1) := by decide +kernel
theorem dX6_readOne_28 : decode cX6_readOne 28 = .ok (.aload_n 1, 1) := by decide +kernel
theorem dX6_readOne_29 : decode cX6_readOne 29 = .ok (.iload_n 2, 1) := by decide +kernel
theorem dX6_readOne_30 : decode cX6_readOne 30 = .ok (.invokevirtual 65, 3) := by decide +kernel
theorem dX6_readOne_33 : decode cX6_readOne 33 = .ok (.ireturn, 1) := by decide +kernel
theorem dX6_readOne_34 : decode cX6_readOne 34 = .ok (.aload_n 0, 1) := by decide +kernel
theorem dX6_readOne_35 : decode cX6_readOne 35 = .ok (.iload_n 3, 1) := by decide +kernel
theorem dX6_readOne_36 : decode cX6_readOne 36 = .ok (.i2l, 1) := by decide +kernel
theorem dX6_readOne_37 : decode cX6_readOne 37 = .ok (.getstatic 40, 3) := by decide +kernel
theorem dX6_readOne_40 : decode cX6_readOne 40 = .ok (.invokestatic 68, 3) := by decide +kernel
theorem dX6_readOne_43 : decode cX6_readOne 43 = .ok (.iload_n 2, 1) := by decide +kernel
theorem dX6_readOne_44 : decode cX6_readOne 44 = .ok (.lconst 0, 1) := by decide +kernel
theorem dX6_readOne_45 : decode cX6_readOne 45 = .ok (.invokevirtual 47, 3) := by decide +kernel
theorem dX6_readOne_48 : decode cX6_readOne 48 = .ok (.iload_n 2, 1) := by decide +kernel
theorem dX6_readOne_49 : decode cX6_readOne 49 = .ok (.iconst 1, 1) := by decide +kernel
theorem dX6_readOne_50 : decode cX6_readOne 50 = .ok (.iadd, 1) := by decide +kernel
theorem dX6_readOne_51 : decode cX6_readOne 51 = .ok (.ireturn, 1) := by decide +kernel
theorem dX6_readWord_0 : decode cX6_readWord 0 = .ok (.lconst 0, 1) := by decide +kernel
theorem dX6_readWord_1 : decode cX6_readWord 1 = .ok (.lstore_n 3, 1) := by decide +kernel
theorem dX6_readWord_2 : decode cX6_readWord 2 = .ok (.iload_n 2, 1) := by decide +kernel
theorem dX6_readWord_3 : decode cX6_readWord 3 = .ok (.istore 5, 2) := by decide +kernel
theorem dX6_readWord_5 : decode cX6_readWord 5 = .ok (.iload 5, 2) := by decide +kernel
theorem dX6_readWord_7 : decode cX6_readWord 7 = .ok (.aload_n 1, 1) := by decide +kernel
theorem dX6_readWord_8 : decode cX6_readWord 8 = .ok (.invokevirtual 31, 3) := by decide +kernel
theorem dX6_readWord_11 : decode cX6_readWord 11 = .ok (.if_icmp .ge 46, 3) := by decide +kernel
theorem dX6_readWord_14 : decode cX6_readWord 14 = .ok (.aload_n 1, 1) := by decide +kernel
theorem dX6_readWord_15 : decode cX6_readWord 15 = .ok (.iload 5, 2) := by decide +kernel
theorem dX6_readWord_17 : decode cX6_readWord 17 = .ok (.invokevirtual 51, 3) := by decide +kernel
theorem dX6_readWord_20 : decode cX6_readWord 20 = .ok (.invokestatic 55, 3) := by decide +kernel
theorem dX6_readWord_23 : decode cX6_readWord 23 = .ok (.ifCond .ne 15, 3) := by decide +kernel
theorem dX6_readWord_26 : decode cX6_readWord 26 = .ok (.aload_n 1, 1) := by decide +kernel
theorem dX6_readWord_27 : decode cX6_readWord 27 = .ok (.iload 5, 2) := by decide +kernel
theorem dX6_readWord_29 : decode cX6_readWord 29 = .ok (.invokevirtual 51, 3) := by decide +kernel
theorem dX6_readWord_32 : decode cX6_readWord 32 = .ok (.invokestatic 62, 3) := by decide +kernel
theorem dX6_readWord_35 : decode cX6_readWord 35 = .ok (.ifCond .eq 22, 3) := by decide +kernel
theorem dX6_readWord_38 : decode cX6_readWord 38 = .ok (.lload_n 3, 1) := by decide +kernel
theorem dX6_readWord_39 : decode cX6_readWord 39 = .ok (.bipush 8, 2) := by decide +kernel
theorem dX6_readWord_41 : decode cX6_readWord 41 = .ok (.lshl, 1) := by decide +kernel
theorem dX6_readWord_42 : decode cX6_readWord 42 = .ok (.aload_n 1, 1) := by decide +kernel
theorem dX6_readWord_43 : decode cX6_readWord 43 = .ok (.iload 5, 2) := by decide +kernel
theorem dX6_readWord_45 : decode cX6_readWord 45 = .ok (.invokevirtual 51, 3) := by decide +kernel
theorem dX6_readWord_48 : decode cX6_readWord 48 = .ok (.i2l, 1) := by decide +kernel
theorem dX6_readWord_49 : decode cX6_readWord 49 = .ok (.lor, 1) := by decide +kernel
theorem dX6_readWord_50 : decode cX6_readWord 50 = .ok (.lstore_n 3, 1) := by decide +kernel
theorem dX6_readWord_51 : decode cX6_readWord 51 = .ok (.iinc 5 1, 3) := by decide +kernel
theorem dX6_readWord_54 : decode cX6_readWord 54 = .ok (.goto (-49), 3) := by decide +kernel
theorem dX6_readWord_57 : decode cX6_readWord 57 = .ok (.iload 5, 2) := by decide +kernel
theorem dX6_readWord_59 : decode cX6_readWord 59 = .ok (.iload_n 2, 1) := by decide +kernel
theorem dX6_readWord_60 : decode cX6_readWord 60 = .ok (.isub, 1) := by decide +kernel
theorem dX6_readWord_61 : decode cX6_readWord 61 = .ok (.bipush 8, 2) := by decide +kernel
theorem dX6_readWord_63 : decode cX6_readWord 63 = .ok (.if_icmp .le 7, 3) := by decide +kernel
theorem dX6_readWord_66 : decode cX6_readWord 66 = .ok (.iconst 1, 1) := by decide +kernel
theorem dX6_readWord_67 : decode cX6_readWord 67 = .ok (.goto 4, 3) := by decide +kernel
theorem dX6_readWord_70 : decode cX6_readWord 70 = .ok (.iconst 0, 1) := by decide +kernel
theorem dX6_readWord_71 : decode cX6_readWord 71 = .ok (.istore 6, 2) := by decide +kernel
theorem dX6_readWord_73 : decode cX6_readWord 73 = .ok (.aload_n 0, 1) := by decide +kernel
theorem dX6_readWord_74 : decode cX6_readWord 74 = .ok (.iload 6, 2) := by decide +kernel
theorem dX6_readWord_76 : decode cX6_readWord 76 = .ok (.ifCond .eq 9, 3) := by decide +kernel
theorem dX6_readWord_79 : decode cX6_readWord 79 = .ok (.getstatic 40, 3) := by decide +kernel
theorem dX6_readWord_82 : decode cX6_readWord 82 = .ok (.goto 10, 3) := by decide +kernel
theorem dX6_readWord_85 : decode cX6_readWord 85 = .ok (.lload_n 3, 1) := by decide +kernel
theorem dX6_readWord_86 : decode cX6_readWord 86 = .ok (.getstatic 72, 3) := by decide +kernel
theorem dX6_readWord_89 : decode cX6_readWord 89 = .ok (.invokestatic 68, 3) := by decide +kernel
theorem dX6_readWord_92 : decode cX6_readWord 92 = .ok (.iload_n 2, 1) := by decide +kernel
theorem dX6_readWord_93 : decode cX6_readWord 93 = .ok (.lload_n 3, 1) := by decide +kernel
theorem dX6_readWord_94 : decode cX6_readWord 94 = .ok (.invokevirtual 47, 3) := by decide +kernel
theorem dX6_readWord_97 : decode cX6_readWord 97 = .ok (.iload 5, 2) := by decide +kernel
theorem dX6_readWord_99 : decode cX6_readWord 99 = .ok (.ireturn, 1) := by decide +kernel
theorem dX6_valueAt_0 : decode cX6_valueAt 0 = .ok (.iload_n 1, 1) := by decide +kernel
theorem dX6_valueAt_1 : decode cX6_valueAt 1 = .ok (.ifCond .lt 27, 3) := by decide +kernel
theorem dX6_valueAt_4 : decode cX6_valueAt 4 = .ok (.iload_n 1, 1) := by decide +kernel
theorem dX6_valueAt_5 : decode cX6_valueAt 5 = .ok (.aload_n 0, 1) := by decide +kernel
theorem dX6_valueAt_6 : decode cX6_valueAt 6 = .ok (.getfield 23, 3) := by decide +kernel
theorem dX6_valueAt_9 : decode cX6_valueAt 9 = .ok (.if_icmp .ge 19, 3) := by decide +kernel
theorem dX6_valueAt_12 : decode cX6_valueAt 12 = .ok (.iload_n 1, 1) := by decide +kernel
theorem dX6_valueAt_13 : decode cX6_valueAt 13 = .ok (.sipush 400, 3) := by decide +kernel
theorem dX6_valueAt_16 : decode cX6_valueAt 16 = .ok (.if_icmp .gt 12, 3) := by decide +kernel
theorem dX6_valueAt_19 : decode cX6_valueAt 19 = .ok (.aload_n 0, 1) := by decide +kernel
theorem dX6_valueAt_20 : decode cX6_valueAt 20 = .ok (.getfield 19, 3) := by decide +kernel
theorem dX6_valueAt_23 : decode cX6_valueAt 23 = .ok (.iload_n 1, 1) := by decide +kernel
theorem dX6_valueAt_24 : decode cX6_valueAt 24 = .ok (.laload, 1) := by decide +kernel
theorem dX6_valueAt_25 : decode cX6_valueAt 25 = .ok (.goto 4, 3) := by decide +kernel
theorem dX6_valueAt_28 : decode cX6_valueAt 28 = .ok (.lconst 0, 1) := by decide +kernel
theorem dX6_valueAt_29 : decode cX6_valueAt 29 = .ok (.lreturn, 1) := by decide +kernel
theorem dX7_advise_0 : decode cX7_advise 0 = .ok (.aload_n 0, 1) := by decide +kernel
theorem dX7_advise_1 : decode cX7_advise 1 = .ok (.iload_n 1, 1) := by decide +kernel
theorem dX7_advise_2 : decode cX7_advise 2 = .ok (.invokevirtual 150, 3) := by decide +kernel
theorem dX7_advise_5 : decode cX7_advise 5 = .ok (.iload_n 2, 1) := by decide +kernel
theorem dX7_advise_6 : decode cX7_advise 6 = .ok (.iconst 1, 1) := by decide +kernel
theorem dX7_advise_7 : decode cX7_advise 7 = .ok (.if_icmp .lt 9, 3) := by decide +kernel
theorem dX7_advise_10 : decode cX7_advise 10 = .ok (.iload_n 2, 1) := by decide +kernel
theorem dX7_advise_11 : decode cX7_advise 11 = .ok (.bipush 50, 2) := by decide +kernel
theorem dX7_advise_13 : decode cX7_advise 13 = .ok (.if_icmp .le 13, 3) := by decide +kernel
theorem dX7_advise_16 : decode cX7_advise 16 = .ok (.new 83, 3) := by decide +kernel
theorem dX7_advise_19 : decode cX7_advise 19 = .ok (.dup, 1) := by decide +kernel
theorem dX7_advise_20 : decode cX7_advise 20 = .ok (.ldc 220, 2) := by decide +kernel
theorem dX7_advise_22 : decode cX7_advise 22 = .ok (.invokespecial 87, 3) := by decide +kernel
theorem dX7_advise_25 : decode cX7_advise 25 = .ok (.athrow, 1) := by decide +kernel
theorem dX7_advise_26 : decode cX7_advise 26 = .ok (.aload_n 0, 1) := by decide +kernel
theorem dX7_advise_27 : decode cX7_advise 27 = .ok (.getfield 24, 3) := by decide +kernel
theorem dX7_advise_30 : decode cX7_advise 30 = .ok (.invokevirtual 222, 3) := by decide +kernel
theorem dX7_advise_33 : decode cX7_advise 33 = .ok (.aload_n 0, 1) := by decide +kernel
theorem dX7_advise_34 : decode cX7_advise 34 = .ok (.getfield 24, 3) := by decide +kernel
theorem dX7_advise_37 : decode cX7_advise 37 = .ok (.iload_n 1, 1) := by decide +kernel
theorem dX7_advise_38 : decode cX7_advise 38 = .ok (.invokevirtual 153, 3) := by decide +kernel
theorem dX7_advise_41 : decode cX7_advise 41 = .ok (.ldc2_w 225, 3) := by decide +kernel
theorem dX7_advise_44 : decode cX7_advise 44 = .ok (.lxor, 1) := by decide +kernel
theorem dX7_advise_45 : decode cX7_advise 45 = .ok (.land, 1) := by decide +kernel
theorem dX7_advise_46 : decode cX7_advise 46 = .ok (.lstore_n 3, 1) := by decide +kernel
theorem dX7_advise_47 : decode cX7_advise 47 = .ok (.aload_n 0, 1) := by decide +kernel
theorem dX7_advise_48 : decode cX7_advise 48 = .ok (.iload_n 1, 1) := by decide +kernel
theorem dX7_advise_49 : decode cX7_advise 49 = .ok (.lload_n 3, 1) := by decide +kernel
theorem dX7_advise_50 : decode cX7_advise 50 = .ok (.aload_n 0, 1) := by decide +kernel
theorem dX7_advise_51 : decode cX7_advise 51 = .ok (.getfield 24, 3) := by decide +kernel
theorem dX7_advise_54 : decode cX7_advise 54 = .ok (.iload_n 2, 1) := by decide +kernel
theorem dX7_advise_55 : decode cX7_advise 55 = .ok (.invokevirtual 227, 3) := by decide +kernel
theorem dX7_advise_58 : decode cX7_advise 58 = .ok (.land, 1) := by decide +kernel
theorem dX7_advise_59 : decode cX7_advise 59 = .ok (.iconst 0, 1) := by decide +kernel
theorem dX7_advise_60 : decode cX7_advise 60 = .ok (.invokevirtual 216, 3) := by decide +kernel
theorem dX7_advise_63 : decode cX7_advise 63 = .ok (.ireturn, 1) := by decide +kernel
theorem dX7_bit_0 : decode cX7_bit 0 = .ok (.lconst 1, 1) := by decide +kernel
theorem dX7_bit_1 : decode cX7_bit 1 = .ok (.iload_n 0, 1) := by decide +kernel
theorem dX7_bit_2 : decode cX7_bit 2 = .ok (.lshl, 1) := by decide +kernel
theorem dX7_bit_3 : decode cX7_bit 3 = .ok (.lreturn, 1) := by decide +kernel
theorem dX7_byteAt_0 : decode cX7_byteAt 0 = .ok (.iload_n 1, 1) := by decide +kernel
theorem dX7_byteAt_1 : decode cX7_byteAt 1 = .ok (.ifCond .lt 14, 3) := by decide +kernel
theorem dX7_byteAt_4 : decode cX7_byteAt 4 = .ok (.iload_n 1, 1) := by decide +kernel
theorem dX7_byteAt_5 : decode cX7_byteAt 5 = .ok (.aload_n 0, 1) := by decide +kernel
theorem dX7_byteAt_6 : decode cX7_byteAt 6 = .ok (.getfield 18, 3) := by decide +kernel
theorem dX7_byteAt_9 : decode cX7_byteAt 9 = .ok (.invokevirtual 69, 3) := by decide +kernel
theorem dX7_byteAt_12 : decode cX7_byteAt 12 = .ok (.if_icmp .lt 14, 3) := by decide +kernel
theorem dX7_byteAt_15 : decode cX7_byteAt 15 = .ok (.new 145, 3) := by decide +kernel
theorem dX7_byteAt_18 : decode cX7_byteAt 18 = .ok (.dup, 1) := by decide +kernel
theorem dX7_byteAt_19 : decode cX7_byteAt 19 = .ok (.ldc_w 261, 3) := by decide +kernel
theorem dX7_byteAt_22 : decode cX7_byteAt 22 = .ok (.invokespecial 149, 3) := by decide +kernel
theorem dX7_byteAt_25 : decode cX7_byteAt 25 = .ok (.athrow, 1) := by decide +kernel
theorem dX7_byteAt_26 : decode cX7_byteAt 26 = .ok (.aload_n 0, 1) := by decide +kernel
theorem dX7_byteAt_27 : decode cX7_byteAt 27 = .ok (.getfield 18, 3) := by decide +kernel
theorem dX7_byteAt_30 : decode cX7_byteAt 30 = .ok (.iload_n 1, 1) := by decide +kernel
theorem dX7_byteAt_31 : decode cX7_byteAt 31 = .ok (.invokevirtual 263, 3) := by decide +kernel
theorem dX7_byteAt_34 : decode cX7_byteAt 34 = .ok (.ireturn, 1) := by decide +kernel
theorem dX7_concede_0 : decode cX7_concede 0 = .ok (.aload_n 0, 1) := by decide +kernel
theorem dX7_concede_1 : decode cX7_concede 1 = .ok (.iload_n 1, 1) := by decide +kernel
theorem dX7_concede_2 : decode cX7_concede 2 = .ok (.invokevirtual 150, 3) := by decide +kernel
theorem dX7_concede_5 : decode cX7_concede 5 = .ok (.aload_n 0, 1) := by decide +kernel
theorem dX7_concede_6 : decode cX7_concede 6 = .ok (.iload_n 1, 1) := by decide +kernel
theorem dX7_concede_7 : decode cX7_concede 7 = .ok (.aload_n 0, 1) := by decide +kernel
theorem dX7_concede_8 : decode cX7_concede 8 = .ok (.getfield 24, 3) := by decide +kernel
theorem dX7_concede_11 : decode cX7_concede 11 = .ok (.iload_n 1, 1) := by decide +kernel
theorem dX7_concede_12 : decode cX7_concede 12 = .ok (.invokevirtual 153, 3) := by decide +kernel
theorem dX7_concede_15 : decode cX7_concede 15 = .ok (.iconst 1, 1) := by decide +kernel
theorem dX7_concede_16 : decode cX7_concede 16 = .ok (.invokevirtual 216, 3) := by decide +kernel
theorem dX7_concede_19 : decode cX7_concede 19 = .ok (.ireturn, 1) := by decide +kernel
theorem dX7_conceding_0 : decode cX7_conceding 0 = .ok (.aload_n 0, 1) := by decide +kernel
theorem dX7_conceding_1 : decode cX7_conceding 1 = .ok (.iload_n 1, 1) := by decide +kernel
theorem dX7_conceding_2 : decode cX7_conceding 2 = .ok (.invokevirtual 168, 3) := by decide +kernel
theorem dX7_conceding_5 : decode cX7_conceding 5 = .ok (.aload_n 0, 1) := by decide +kernel
theorem dX7_conceding_6 : decode cX7_conceding 6 = .ok (.iload_n 2, 1) := by decide +kernel
theorem dX7_conceding_7 : decode cX7_conceding 7 = .ok (.invokevirtual 150, 3) := by decide +kernel
theorem dX7_conceding_10 : decode cX7_conceding 10 = .ok (.aload_n 0, 1) := by decide +kernel
theorem dX7_conceding_11 : decode cX7_conceding 11 = .ok (.getfield 37, 3) := by decide +kernel
theorem dX7_conceding_14 : decode cX7_conceding 14 = .ok (.iload_n 1, 1) := by decide +kernel
theorem dX7_conceding_15 : decode cX7_conceding 15 = .ok (.invokestatic 213, 3) := by decide +kernel
theorem dX7_conceding_18 : decode cX7_conceding 18 = .ok (.lconst 0, 1) := by decide +kernel
theorem dX7_conceding_19 : decode cX7_conceding 19 = .ok (.invokevirtual 109, 3) := by decide +kernel
theorem dX7_conceding_22 : decode cX7_conceding 22 = .ok (.aload_n 0, 1) := by decide +kernel
theorem dX7_conceding_23 : decode cX7_conceding 23 = .ok (.getfield 37, 3) := by decide +kernel
theorem dX7_conceding_26 : decode cX7_conceding 26 = .ok (.iload_n 2, 1) := by decide +kernel
theorem dX7_conceding_27 : decode cX7_conceding 27 = .ok (.invokevirtual 163, 3) := by decide +kernel
theorem dX7_conceding_30 : decode cX7_conceding 30 = .ok (.ireturn, 1) := by decide +kernel
theorem dX7_count_0 : decode cX7_count 0 = .ok (.iload_n 1, 1) := by decide +kernel
theorem dX7_count_1 : decode cX7_count 1 = .ok (.tableswitch 183 0 11 #[63, 71, 79, 91, 103, 115, 126, 137, 148, 159, 167, 175], 63) := by decide +kernel
theorem dX7_count_64 : decode cX7_count 64 = .ok (.aload_n 0, 1) := by decide +kernel
theorem dX7_count_65 : decode cX7_count 65 = .ok (.getfield 24, 3) := by decide +kernel
theorem dX7_count_68 : decode cX7_count 68 = .ok (.invokevirtual 113, 3) := by decide +kernel
theorem dX7_count_71 : decode cX7_count 71 = .ok (.ireturn, 1) := by decide +kernel
theorem dX7_count_72 : decode cX7_count 72 = .ok (.aload_n 0, 1) := by decide +kernel
theorem dX7_count_73 : decode cX7_count 73 = .ok (.getfield 24, 3) := by decide +kernel
theorem dX7_count_76 : decode cX7_count 76 = .ok (.invokevirtual 116, 3) := by decide +kernel
theorem dX7_count_79 : decode cX7_count 79 = .ok (.ireturn, 1) := by decide +kernel
theorem dX7_count_80 : decode cX7_count 80 = .ok (.aload_n 0, 1) := by decide +kernel
theorem dX7_count_81 : decode cX7_count 81 = .ok (.getfield 24, 3) := by decide +kernel
theorem dX7_count_84 : decode cX7_count 84 = .ok (.iconst 0, 1) := by decide +kernel
theorem dX7_count_85 : decode cX7_count 85 = .ok (.invokevirtual 119, 3) := by decide +kernel
theorem dX7_count_88 : decode cX7_count 88 = .ok (.invokestatic 123, 3) := by decide +kernel
theorem dX7_count_91 : decode cX7_count 91 = .ok (.ireturn, 1) := by decide +kernel
theorem dX7_count_92 : decode cX7_count 92 = .ok (.aload_n 0, 1) := by decide +kernel
theorem dX7_count_93 : decode cX7_count 93 = .ok (.getfield 24, 3) := by decide +kernel
theorem dX7_count_96 : decode cX7_count 96 = .ok (.iconst 1, 1) := by decide +kernel
theorem dX7_count_97 : decode cX7_count 97 = .ok (.invokevirtual 119, 3) := by decide +kernel
theorem dX7_count_100 : decode cX7_count 100 = .ok (.invokestatic 123, 3) := by decide +kernel
theorem dX7_count_103 : decode cX7_count 103 = .ok (.ireturn, 1) := by decide +kernel
theorem dX7_count_104 : decode cX7_count 104 = .ok (.aload_n 0, 1) := by decide +kernel
theorem dX7_count_105 : decode cX7_count 105 = .ok (.getfield 24, 3) := by decide +kernel
theorem dX7_count_108 : decode cX7_count 108 = .ok (.iconst 2, 1) := by decide +kernel
theorem dX7_count_109 : decode cX7_count 109 = .ok (.invokevirtual 119, 3) := by decide +kernel
theorem dX7_count_112 : decode cX7_count 112 = .ok (.invokestatic 123, 3) := by decide +kernel
theorem dX7_count_115 : decode cX7_count 115 = .ok (.ireturn, 1) := by decide +kernel
theorem dX7_count_116 : decode cX7_count 116 = .ok (.aload_n 0, 1) := by decide +kernel
theorem dX7_count_117 : decode cX7_count 117 = .ok (.getfield 33, 3) := by decide +kernel
theorem dX7_count_120 : decode cX7_count 120 = .ok (.invokevirtual 129, 3) := by decide +kernel
theorem dX7_count_123 : decode cX7_count 123 = .ok (.invokestatic 123, 3) := by decide +kernel
theorem dX7_count_126 : decode cX7_count 126 = .ok (.ireturn, 1) := by decide +kernel
theorem dX7_count_127 : decode cX7_count 127 = .ok (.aload_n 0, 1) := by decide +kernel
theorem dX7_count_128 : decode cX7_count 128 = .ok (.getfield 33, 3) := by decide +kernel
theorem dX7_count_131 : decode cX7_count 131 = .ok (.invokevirtual 133, 3) := by decide +kernel
theorem dX7_count_134 : decode cX7_count 134 = .ok (.invokestatic 123, 3) := by decide +kernel
theorem dX7_count_137 : decode cX7_count 137 = .ok (.ireturn, 1) := by decide +kernel
theorem dX7_count_138 : decode cX7_count 138 = .ok (.aload_n 0, 1) := by decide +kernel
theorem dX7_count_139 : decode cX7_count 139 = .ok (.getfield 33, 3) := by decide +kernel
theorem dX7_count_142 : decode cX7_count 142 = .ok (.invokevirtual 136, 3) := by decide +kernel
theorem dX7_count_145 : decode cX7_count 145 = .ok (.invokestatic 123, 3) := by decide +kernel
theorem dX7_count_148 : decode cX7_count 148 = .ok (.ireturn, 1) := by decide +kernel
theorem dX7_count_149 : decode cX7_count 149 = .ok (.aload_n 0, 1) := by decide +kernel
theorem dX7_count_150 : decode cX7_count 150 = .ok (.getfield 24, 3) := by decide +kernel
theorem dX7_count_153 : decode cX7_count 153 = .ok (.invokevirtual 139, 3) := by decide +kernel
theorem dX7_count_156 : decode cX7_count 156 = .ok (.invokestatic 123, 3) := by decide +kernel
theorem dX7_count_159 : decode cX7_count 159 = .ok (.ireturn, 1) := by decide +kernel
theorem dX7_count_160 : decode cX7_count 160 = .ok (.aload_n 0, 1) := by decide +kernel
theorem dX7_count_161 : decode cX7_count 161 = .ok (.getfield 33, 3) := by decide +kernel
theorem dX7_count_164 : decode cX7_count 164 = .ok (.invokevirtual 142, 3) := by decide +kernel
theorem dX7_count_167 : decode cX7_count 167 = .ok (.ireturn, 1) := by decide +kernel
theorem dX7_count_168 : decode cX7_count 168 = .ok (.aload_n 0, 1) := by decide +kernel
theorem dX7_count_169 : decode cX7_count 169 = .ok (.getfield 14, 3) := by decide +kernel
theorem dX7_count_172 : decode cX7_count 172 = .ok (.invokevirtual 69, 3) := by decide +kernel
theorem dX7_count_175 : decode cX7_count 175 = .ok (.ireturn, 1) := by decide +kernel
theorem dX7_count_176 : decode cX7_count 176 = .ok (.aload_n 0, 1) := by decide +kernel
theorem dX7_count_177 : decode cX7_count 177 = .ok (.getfield 18, 3) := by decide +kernel
theorem dX7_count_180 : decode cX7_count 180 = .ok (.invokevirtual 69, 3) := by decide +kernel
theorem dX7_count_183 : decode cX7_count 183 = .ok (.ireturn, 1) := by decide +kernel
theorem dX7_count_184 : decode cX7_count 184 = .ok (.new 145, 3) := by decide +kernel
theorem dX7_count_187 : decode cX7_count 187 = .ok (.dup, 1) := by decide +kernel
theorem dX7_count_188 : decode cX7_count 188 = .ok (.ldc 147, 2) := by decide +kernel
theorem dX7_count_190 : decode cX7_count 190 = .ok (.invokespecial 149, 3) := by decide +kernel
theorem dX7_count_193 : decode cX7_count 193 = .ok (.athrow, 1) := by decide +kernel
theorem dX7_defends_0 : decode cX7_defends 0 = .ok (.aload_n 0, 1) := by decide +kernel
theorem dX7_defends_1 : decode cX7_defends 1 = .ok (.iload_n 1, 1) := by decide +kernel
theorem dX7_defends_2 : decode cX7_defends 2 = .ok (.invokevirtual 168, 3) := by decide +kernel
theorem dX7_defends_5 : decode cX7_defends 5 = .ok (.aload_n 0, 1) := by decide +kernel
theorem dX7_defends_6 : decode cX7_defends 6 = .ok (.iload_n 2, 1) := by decide +kernel
theorem dX7_defends_7 : decode cX7_defends 7 = .ok (.invokevirtual 168, 3) := by decide +kernel
theorem dX7_defends_10 : decode cX7_defends 10 = .ok (.aload_n 0, 1) := by decide +kernel
theorem dX7_defends_11 : decode cX7_defends 11 = .ok (.getfield 24, 3) := by decide +kernel
theorem dX7_defends_14 : decode cX7_defends 14 = .ok (.iload_n 1, 1) := by decide +kernel
theorem dX7_defends_15 : decode cX7_defends 15 = .ok (.invokevirtual 183, 3) := by decide +kernel
theorem dX7_defends_18 : decode cX7_defends 18 = .ok (.istore_n 3, 1) := by decide +kernel
theorem dX7_defends_19 : decode cX7_defends 19 = .ok (.aload_n 0, 1) := by decide +kernel
theorem dX7_defends_20 : decode cX7_defends 20 = .ok (.getfield 24, 3) := by decide +kernel
theorem dX7_defends_23 : decode cX7_defends 23 = .ok (.iload_n 1, 1) := by decide +kernel
theorem dX7_defends_24 : decode cX7_defends 24 = .ok (.invokevirtual 199, 3) := by decide +kernel
theorem dX7_defends_27 : decode cX7_defends 27 = .ok (.ifCond .eq 41, 3) := by decide +kernel
theorem dX7_defends_30 : decode cX7_defends 30 = .ok (.aload_n 0, 1) := by decide +kernel
theorem dX7_defends_31 : decode cX7_defends 31 = .ok (.getfield 33, 3) := by decide +kernel
theorem dX7_defends_34 : decode cX7_defends 34 = .ok (.iload_n 1, 1) := by decide +kernel
theorem dX7_defends_35 : decode cX7_defends 35 = .ok (.invokevirtual 186, 3) := by decide +kernel
theorem dX7_defends_38 : decode cX7_defends 38 = .ok (.ifCond .eq 30, 3) := by decide +kernel
theorem dX7_defends_41 : decode cX7_defends 41 = .ok (.aload_n 0, 1) := by decide +kernel
theorem dX7_defends_42 : decode cX7_defends 42 = .ok (.getfield 24, 3) := by decide +kernel
theorem dX7_defends_45 : decode cX7_defends 45 = .ok (.iload_n 3, 1) := by decide +kernel
theorem dX7_defends_46 : decode cX7_defends 46 = .ok (.invokevirtual 199, 3) := by decide +kernel
theorem dX7_defends_49 : decode cX7_defends 49 = .ok (.ifCond .eq 19, 3) := by decide +kernel
theorem dX7_defends_52 : decode cX7_defends 52 = .ok (.aload_n 0, 1) := by decide +kernel
theorem dX7_defends_53 : decode cX7_defends 53 = .ok (.getfield 24, 3) := by decide +kernel
theorem dX7_defends_56 : decode cX7_defends 56 = .ok (.iload_n 3, 1) := by decide +kernel
theorem dX7_defends_57 : decode cX7_defends 57 = .ok (.invokevirtual 183, 3) := by decide +kernel
theorem dX7_defends_60 : decode cX7_defends 60 = .ok (.iload_n 2, 1) := by decide +kernel
theorem dX7_defends_61 : decode cX7_defends 61 = .ok (.if_icmp .ne 7, 3) := by decide +kernel
theorem dX7_defends_64 : decode cX7_defends 64 = .ok (.iconst 1, 1) := by decide +kernel
theorem dX7_defends_65 : decode cX7_defends 65 = .ok (.goto 4, 3) := by decide +kernel
theorem dX7_defends_68 : decode cX7_defends 68 = .ok (.iconst 0, 1) := by decide +kernel
theorem dX7_defends_69 : decode cX7_defends 69 = .ok (.ireturn, 1) := by decide +kernel
theorem dX7_errorAt_0 : decode cX7_errorAt 0 = .ok (.aload_n 0, 1) := by decide +kernel
theorem dX7_errorAt_1 : decode cX7_errorAt 1 = .ok (.getfield 65, 3) := by decide +kernel
theorem dX7_errorAt_4 : decode cX7_errorAt 4 = .ok (.ireturn, 1) := by decide +kernel
theorem dX7_far_0 : decode cX7_far 0 = .ok (.aload_n 0, 1) := by decide +kernel
theorem dX7_far_1 : decode cX7_far 1 = .ok (.iload_n 1, 1) := by decide +kernel
theorem dX7_far_2 : decode cX7_far 2 = .ok (.invokevirtual 168, 3) := by decide +kernel
theorem dX7_far_5 : decode cX7_far 5 = .ok (.iconst 0, 1) := by decide +kernel
theorem dX7_far_6 : decode cX7_far 6 = .ok (.istore_n 2, 1) := by decide +kernel
theorem dX7_far_7 : decode cX7_far 7 = .ok (.aload_n 0, 1) := by decide +kernel
theorem dX7_far_8 : decode cX7_far 8 = .ok (.getfield 24, 3) := by decide +kernel
theorem dX7_far_11 : decode cX7_far 11 = .ok (.iload_n 1, 1) := by decide +kernel
theorem dX7_far_12 : decode cX7_far 12 = .ok (.invokevirtual 183, 3) := by decide +kernel
theorem dX7_far_15 : decode cX7_far 15 = .ok (.istore_n 3, 1) := by decide +kernel
theorem dX7_far_16 : decode cX7_far 16 = .ok (.iload_n 3, 1) := by decide +kernel
theorem dX7_far_17 : decode cX7_far 17 = .ok (.iconst (-1), 1) := by decide +kernel
theorem dX7_far_18 : decode cX7_far 18 = .ok (.if_icmp .eq 24, 3) := by decide +kernel
theorem dX7_far_21 : decode cX7_far 21 = .ok (.iload_n 2, 1) := by decide +kernel
theorem dX7_far_22 : decode cX7_far 22 = .ok (.bipush 40, 2) := by decide +kernel
theorem dX7_far_24 : decode cX7_far 24 = .ok (.if_icmp .ge 18, 3) := by decide +kernel
theorem dX7_far_27 : decode cX7_far 27 = .ok (.iinc 2 1, 3) := by decide +kernel
theorem dX7_far_30 : decode cX7_far 30 = .ok (.aload_n 0, 1) := by decide +kernel
theorem dX7_far_31 : decode cX7_far 31 = .ok (.getfield 24, 3) := by decide +kernel
theorem dX7_far_34 : decode cX7_far 34 = .ok (.iload_n 3, 1) := by decide +kernel
theorem dX7_far_35 : decode cX7_far 35 = .ok (.invokevirtual 183, 3) := by decide +kernel
theorem dX7_far_38 : decode cX7_far 38 = .ok (.istore_n 3, 1) := by decide +kernel
theorem dX7_far_39 : decode cX7_far 39 = .ok (.goto (-23), 3) := by decide +kernel
theorem dX7_far_42 : decode cX7_far 42 = .ok (.iload_n 2, 1) := by decide +kernel
theorem dX7_far_43 : decode cX7_far 43 = .ok (.ireturn, 1) := by decide +kernel
theorem dX7_feed_0 : decode cX7_feed 0 = .ok (.aload_n 0, 1) := by decide +kernel
theorem dX7_feed_1 : decode cX7_feed 1 = .ok (.getfield 14, 3) := by decide +kernel
theorem dX7_feed_4 : decode cX7_feed 4 = .ok (.invokevirtual 69, 3) := by decide +kernel
theorem dX7_feed_7 : decode cX7_feed 7 = .ok (.bipush 20, 2) := by decide +kernel
theorem dX7_feed_9 : decode cX7_feed 9 = .ok (.iadd, 1) := by decide +kernel
theorem dX7_feed_10 : decode cX7_feed 10 = .ok (.sipush 2000, 3) := by decide +kernel
theorem dX7_feed_13 : decode cX7_feed 13 = .ok (.if_icmp .le 13, 3) := by decide +kernel
theorem dX7_feed_16 : decode cX7_feed 16 = .ok (.new 73, 3) := by decide +kernel
theorem dX7_feed_19 : decode cX7_feed 19 = .ok (.dup, 1) := by decide +kernel
theorem dX7_feed_20 : decode cX7_feed 20 = .ok (.ldc 75, 2) := by decide +kernel
theorem dX7_feed_22 : decode cX7_feed 22 = .ok (.invokespecial 77, 3) := by decide +kernel
theorem dX7_feed_25 : decode cX7_feed 25 = .ok (.athrow, 1) := by decide +kernel
theorem dX7_feed_26 : decode cX7_feed 26 = .ok (.aload_n 0, 1) := by decide +kernel
theorem dX7_feed_27 : decode cX7_feed 27 = .ok (.getfield 14, 3) := by decide +kernel
theorem dX7_feed_30 : decode cX7_feed 30 = .ok (.iload_n 1, 1) := by decide +kernel
theorem dX7_feed_31 : decode cX7_feed 31 = .ok (.invokevirtual 80, 3) := by decide +kernel
theorem dX7_feed_34 : decode cX7_feed 34 = .ok (.aload_n 0, 1) := by decide +kernel
theorem dX7_feed_35 : decode cX7_feed 35 = .ok (.getfield 14, 3) := by decide +kernel
theorem dX7_feed_38 : decode cX7_feed 38 = .ok (.iload_n 2, 1) := by decide +kernel
theorem dX7_feed_39 : decode cX7_feed 39 = .ok (.invokevirtual 80, 3) := by decide +kernel
theorem dX7_feed_42 : decode cX7_feed 42 = .ok (.aload_n 0, 1) := by decide +kernel
theorem dX7_feed_43 : decode cX7_feed 43 = .ok (.getfield 14, 3) := by decide +kernel
theorem dX7_feed_46 : decode cX7_feed 46 = .ok (.iload_n 3, 1) := by decide +kernel
theorem dX7_feed_47 : decode cX7_feed 47 = .ok (.invokevirtual 80, 3) := by decide +kernel
theorem dX7_feed_50 : decode cX7_feed 50 = .ok (.aload_n 0, 1) := by decide +kernel
theorem dX7_feed_51 : decode cX7_feed 51 = .ok (.getfield 14, 3) := by decide +kernel
theorem dX7_feed_54 : decode cX7_feed 54 = .ok (.iload 4, 2) := by decide +kernel
theorem dX7_feed_56 : decode cX7_feed 56 = .ok (.invokevirtual 80, 3) := by decide +kernel
theorem dX7_feed_59 : decode cX7_feed 59 = .ok (.aload_n 0, 1) := by decide +kernel
theorem dX7_feed_60 : decode cX7_feed 60 = .ok (.getfield 14, 3) := by decide +kernel
theorem dX7_feed_63 : decode cX7_feed 63 = .ok (.iload 5, 2) := by decide +kernel
theorem dX7_feed_65 : decode cX7_feed 65 = .ok (.invokevirtual 80, 3) := by decide +kernel
theorem dX7_feed_68 : decode cX7_feed 68 = .ok (.aload_n 0, 1) := by decide +kernel
theorem dX7_feed_69 : decode cX7_feed 69 = .ok (.getfield 14, 3) := by decide +kernel
theorem dX7_feed_72 : decode cX7_feed 72 = .ok (.invokevirtual 69, 3) := by decide +kernel
theorem dX7_feed_75 : decode cX7_feed 75 = .ok (.ireturn, 1) := by decide +kernel
theorem dX7_frees_0 : decode cX7_frees 0 = .ok (.aload_n 0, 1) := by decide +kernel
theorem dX7_frees_1 : decode cX7_frees 1 = .ok (.iload_n 1, 1) := by decide +kernel
theorem dX7_frees_2 : decode cX7_frees 2 = .ok (.invokevirtual 168, 3) := by decide +kernel
theorem dX7_frees_5 : decode cX7_frees 5 = .ok (.aload_n 0, 1) := by decide +kernel
theorem dX7_frees_6 : decode cX7_frees 6 = .ok (.getfield 33, 3) := by decide +kernel
theorem dX7_frees_9 : decode cX7_frees 9 = .ok (.iload_n 1, 1) := by decide +kernel
theorem dX7_frees_10 : decode cX7_frees 10 = .ok (.invokevirtual 186, 3) := by decide +kernel
theorem dX7_frees_13 : decode cX7_frees 13 = .ok (.ifCond .eq 5, 3) := by decide +kernel
theorem dX7_frees_16 : decode cX7_frees 16 = .ok (.iconst 0, 1) := by decide +kernel
theorem dX7_frees_17 : decode cX7_frees 17 = .ok (.ireturn, 1) := by decide +kernel
theorem dX7_frees_18 : decode cX7_frees 18 = .ok (.aload_n 0, 1) := by decide +kernel
theorem dX7_frees_19 : decode cX7_frees 19 = .ok (.iload_n 1, 1) := by decide +kernel
theorem dX7_frees_20 : decode cX7_frees 20 = .ok (.invokevirtual 233, 3) := by decide +kernel
theorem dX7_frees_23 : decode cX7_frees 23 = .ok (.istore_n 2, 1) := by decide +kernel
theorem dX7_frees_24 : decode cX7_frees 24 = .ok (.iload_n 2, 1) := by decide +kernel
theorem dX7_frees_25 : decode cX7_frees 25 = .ok (.iconst (-1), 1) := by decide +kernel
theorem dX7_frees_26 : decode cX7_frees 26 = .ok (.if_icmp .eq 9, 3) := by decide +kernel
theorem dX7_frees_29 : decode cX7_frees 29 = .ok (.iconst 1, 1) := by decide +kernel
theorem dX7_frees_30 : decode cX7_frees 30 = .ok (.iload_n 2, 1) := by decide +kernel
theorem dX7_frees_31 : decode cX7_frees 31 = .ok (.iadd, 1) := by decide +kernel
theorem dX7_frees_32 : decode cX7_frees 32 = .ok (.goto 8, 3) := by decide +kernel
theorem dX7_frees_35 : decode cX7_frees 35 = .ok (.aload_n 0, 1) := by decide +kernel
theorem dX7_frees_36 : decode cX7_frees 36 = .ok (.iload_n 1, 1) := by decide +kernel
theorem dX7_frees_37 : decode cX7_frees 37 = .ok (.invokevirtual 236, 3) := by decide +kernel
theorem dX7_frees_40 : decode cX7_frees 40 = .ok (.ireturn, 1) := by decide +kernel
theorem dX7_give_0 : decode cX7_give 0 = .ok (.aload_n 0, 1) := by decide +kernel
theorem dX7_give_1 : decode cX7_give 1 = .ok (.iload_n 1, 1) := by decide +kernel
theorem dX7_give_2 : decode cX7_give 2 = .ok (.invokevirtual 150, 3) := by decide +kernel
theorem dX7_give_5 : decode cX7_give 5 = .ok (.iload_n 2, 1) := by decide +kernel
theorem dX7_give_6 : decode cX7_give 6 = .ok (.iconst 1, 1) := by decide +kernel
theorem dX7_give_7 : decode cX7_give 7 = .ok (.if_icmp .lt 10, 3) := by decide +kernel
theorem dX7_give_10 : decode cX7_give 10 = .ok (.iload_n 2, 1) := by decide +kernel
theorem dX7_give_11 : decode cX7_give 11 = .ok (.sipush 3600, 3) := by decide +kernel
theorem dX7_give_14 : decode cX7_give 14 = .ok (.if_icmp .le 13, 3) := by decide +kernel
theorem dX7_give_17 : decode cX7_give 17 = .ok (.new 83, 3) := by decide +kernel
theorem dX7_give_20 : decode cX7_give 20 = .ok (.dup, 1) := by decide +kernel
theorem dX7_give_21 : decode cX7_give 21 = .ok (.ldc 207, 2) := by decide +kernel
theorem dX7_give_23 : decode cX7_give 23 = .ok (.invokespecial 87, 3) := by decide +kernel
theorem dX7_give_26 : decode cX7_give 26 = .ok (.athrow, 1) := by decide +kernel
theorem dX7_give_27 : decode cX7_give 27 = .ok (.aload_n 0, 1) := by decide +kernel
theorem dX7_give_28 : decode cX7_give 28 = .ok (.getfield 24, 3) := by decide +kernel
theorem dX7_give_31 : decode cX7_give 31 = .ok (.iload_n 1, 1) := by decide +kernel
theorem dX7_give_32 : decode cX7_give 32 = .ok (.iload_n 2, 1) := by decide +kernel
theorem dX7_give_33 : decode cX7_give 33 = .ok (.invokevirtual 209, 3) := by decide +kernel
theorem dX7_give_36 : decode cX7_give 36 = .ok (.aload_n 0, 1) := by decide +kernel
theorem dX7_give_37 : decode cX7_give 37 = .ok (.getfield 24, 3) := by decide +kernel
theorem dX7_give_40 : decode cX7_give 40 = .ok (.iload_n 1, 1) := by decide +kernel
theorem dX7_give_41 : decode cX7_give 41 = .ok (.invokevirtual 156, 3) := by decide +kernel
theorem dX7_give_44 : decode cX7_give 44 = .ok (.ireturn, 1) := by decide +kernel
theorem dX7_item_0 : decode cX7_item 0 = .ok (.aload_n 0, 1) := by decide +kernel
theorem dX7_item_1 : decode cX7_item 1 = .ok (.iload_n 1, 1) := by decide +kernel
theorem dX7_item_2 : decode cX7_item 2 = .ok (.invokevirtual 168, 3) := by decide +kernel
theorem dX7_item_5 : decode cX7_item 5 = .ok (.iload_n 2, 1) := by decide +kernel
theorem dX7_item_6 : decode cX7_item 6 = .ok (.tableswitch 220 0 10 #[58, 67, 76, 85, 94, 103, 135, 144, 161, 178, 199], 58) := by decide +kernel
theorem dX7_item_64 : decode cX7_item 64 = .ok (.aload_n 0, 1) := by decide +kernel
theorem dX7_item_65 : decode cX7_item 65 = .ok (.getfield 24, 3) := by decide +kernel
theorem dX7_item_68 : decode cX7_item 68 = .ok (.iload_n 1, 1) := by decide +kernel
theorem dX7_item_69 : decode cX7_item 69 = .ok (.invokevirtual 171, 3) := by decide +kernel
theorem dX7_item_72 : decode cX7_item 72 = .ok (.ireturn, 1) := by decide +kernel
theorem dX7_item_73 : decode cX7_item 73 = .ok (.aload_n 0, 1) := by decide +kernel
theorem dX7_item_74 : decode cX7_item 74 = .ok (.getfield 24, 3) := by decide +kernel
theorem dX7_item_77 : decode cX7_item 77 = .ok (.iload_n 1, 1) := by decide +kernel
theorem dX7_item_78 : decode cX7_item 78 = .ok (.invokevirtual 174, 3) := by decide +kernel
theorem dX7_item_81 : decode cX7_item 81 = .ok (.ireturn, 1) := by decide +kernel
theorem dX7_item_82 : decode cX7_item 82 = .ok (.aload_n 0, 1) := by decide +kernel
theorem dX7_item_83 : decode cX7_item 83 = .ok (.getfield 24, 3) := by decide +kernel
theorem dX7_item_86 : decode cX7_item 86 = .ok (.iload_n 1, 1) := by decide +kernel
theorem dX7_item_87 : decode cX7_item 87 = .ok (.invokevirtual 177, 3) := by decide +kernel
theorem dX7_item_90 : decode cX7_item 90 = .ok (.ireturn, 1) := by decide +kernel
theorem dX7_item_91 : decode cX7_item 91 = .ok (.aload_n 0, 1) := by decide +kernel
theorem dX7_item_92 : decode cX7_item 92 = .ok (.getfield 24, 3) := by decide +kernel
theorem dX7_item_95 : decode cX7_item 95 = .ok (.iload_n 1, 1) := by decide +kernel
theorem dX7_item_96 : decode cX7_item 96 = .ok (.invokevirtual 180, 3) := by decide +kernel
theorem dX7_item_99 : decode cX7_item 99 = .ok (.ireturn, 1) := by decide +kernel
theorem dX7_item_100 : decode cX7_item 100 = .ok (.aload_n 0, 1) := by decide +kernel
theorem dX7_item_101 : decode cX7_item 101 = .ok (.getfield 24, 3) := by decide +kernel
theorem dX7_item_104 : decode cX7_item 104 = .ok (.iload_n 1, 1) := by decide +kernel
theorem dX7_item_105 : decode cX7_item 105 = .ok (.invokevirtual 183, 3) := by decide +kernel
theorem dX7_item_108 : decode cX7_item 108 = .ok (.ireturn, 1) := by decide +kernel
theorem dX7_item_109 : decode cX7_item 109 = .ok (.aload_n 0, 1) := by decide +kernel
theorem dX7_item_110 : decode cX7_item 110 = .ok (.getfield 33, 3) := by decide +kernel
theorem dX7_item_113 : decode cX7_item 113 = .ok (.iload_n 1, 1) := by decide +kernel
theorem dX7_item_114 : decode cX7_item 114 = .ok (.invokevirtual 186, 3) := by decide +kernel
theorem dX7_item_117 : decode cX7_item 117 = .ok (.ifCond .eq 7, 3) := by decide +kernel
theorem dX7_item_120 : decode cX7_item 120 = .ok (.iconst 1, 1) := by decide +kernel
theorem dX7_item_121 : decode cX7_item 121 = .ok (.goto 19, 3) := by decide +kernel
theorem dX7_item_124 : decode cX7_item 124 = .ok (.aload_n 0, 1) := by decide +kernel
theorem dX7_item_125 : decode cX7_item 125 = .ok (.getfield 33, 3) := by decide +kernel
theorem dX7_item_128 : decode cX7_item 128 = .ok (.iload_n 1, 1) := by decide +kernel
theorem dX7_item_129 : decode cX7_item 129 = .ok (.invokevirtual 190, 3) := by decide +kernel
theorem dX7_item_132 : decode cX7_item 132 = .ok (.ifCond .eq 7, 3) := by decide +kernel
theorem dX7_item_135 : decode cX7_item 135 = .ok (.iconst 2, 1) := by decide +kernel
theorem dX7_item_136 : decode cX7_item 136 = .ok (.goto 4, 3) := by decide +kernel
theorem dX7_item_139 : decode cX7_item 139 = .ok (.iconst 0, 1) := by decide +kernel
theorem dX7_item_140 : decode cX7_item 140 = .ok (.ireturn, 1) := by decide +kernel
theorem dX7_item_141 : decode cX7_item 141 = .ok (.aload_n 0, 1) := by decide +kernel
theorem dX7_item_142 : decode cX7_item 142 = .ok (.getfield 33, 3) := by decide +kernel
theorem dX7_item_145 : decode cX7_item 145 = .ok (.iload_n 1, 1) := by decide +kernel
theorem dX7_item_146 : decode cX7_item 146 = .ok (.invokevirtual 193, 3) := by decide +kernel
theorem dX7_item_149 : decode cX7_item 149 = .ok (.ireturn, 1) := by decide +kernel
theorem dX7_item_150 : decode cX7_item 150 = .ok (.aload_n 0, 1) := by decide +kernel
theorem dX7_item_151 : decode cX7_item 151 = .ok (.getfield 24, 3) := by decide +kernel
theorem dX7_item_154 : decode cX7_item 154 = .ok (.iload_n 1, 1) := by decide +kernel
theorem dX7_item_155 : decode cX7_item 155 = .ok (.invokevirtual 196, 3) := by decide +kernel
theorem dX7_item_158 : decode cX7_item 158 = .ok (.ifCond .eq 7, 3) := by decide +kernel
theorem dX7_item_161 : decode cX7_item 161 = .ok (.iconst 1, 1) := by decide +kernel
theorem dX7_item_162 : decode cX7_item 162 = .ok (.goto 4, 3) := by decide +kernel
theorem dX7_item_165 : decode cX7_item 165 = .ok (.iconst 0, 1) := by decide +kernel
theorem dX7_item_166 : decode cX7_item 166 = .ok (.ireturn, 1) := by decide +kernel
theorem dX7_item_167 : decode cX7_item 167 = .ok (.aload_n 0, 1) := by decide +kernel
theorem dX7_item_168 : decode cX7_item 168 = .ok (.getfield 24, 3) := by decide +kernel
theorem dX7_item_171 : decode cX7_item 171 = .ok (.iload_n 1, 1) := by decide +kernel
theorem dX7_item_172 : decode cX7_item 172 = .ok (.invokevirtual 199, 3) := by decide +kernel
theorem dX7_item_175 : decode cX7_item 175 = .ok (.ifCond .eq 7, 3) := by decide +kernel
theorem dX7_item_178 : decode cX7_item 178 = .ok (.iconst 1, 1) := by decide +kernel
theorem dX7_item_179 : decode cX7_item 179 = .ok (.goto 4, 3) := by decide +kernel
theorem dX7_item_182 : decode cX7_item 182 = .ok (.iconst 0, 1) := by decide +kernel
theorem dX7_item_183 : decode cX7_item 183 = .ok (.ireturn, 1) := by decide +kernel
theorem dX7_item_184 : decode cX7_item 184 = .ok (.aload_n 0, 1) := by decide +kernel
theorem dX7_item_185 : decode cX7_item 185 = .ok (.getfield 24, 3) := by decide +kernel
theorem dX7_item_188 : decode cX7_item 188 = .ok (.iload_n 1, 1) := by decide +kernel
theorem dX7_item_189 : decode cX7_item 189 = .ok (.invokevirtual 202, 3) := by decide +kernel
theorem dX7_item_192 : decode cX7_item 192 = .ok (.aload_n 0, 1) := by decide +kernel
theorem dX7_item_193 : decode cX7_item 193 = .ok (.getfield 24, 3) := by decide +kernel
theorem dX7_item_196 : decode cX7_item 196 = .ok (.iconst 1, 1) := by decide +kernel
theorem dX7_item_197 : decode cX7_item 197 = .ok (.invokevirtual 119, 3) := by decide +kernel
theorem dX7_item_200 : decode cX7_item 200 = .ok (.land, 1) := by decide +kernel
theorem dX7_item_201 : decode cX7_item 201 = .ok (.invokestatic 123, 3) := by decide +kernel
theorem dX7_item_204 : decode cX7_item 204 = .ok (.ireturn, 1) := by decide +kernel
theorem dX7_item_205 : decode cX7_item 205 = .ok (.aload_n 0, 1) := by decide +kernel
theorem dX7_item_206 : decode cX7_item 206 = .ok (.getfield 24, 3) := by decide +kernel
theorem dX7_item_209 : decode cX7_item 209 = .ok (.iload_n 1, 1) := by decide +kernel
theorem dX7_item_210 : decode cX7_item 210 = .ok (.invokevirtual 202, 3) := by decide +kernel
theorem dX7_item_213 : decode cX7_item 213 = .ok (.aload_n 0, 1) := by decide +kernel
theorem dX7_item_214 : decode cX7_item 214 = .ok (.getfield 24, 3) := by decide +kernel
theorem dX7_item_217 : decode cX7_item 217 = .ok (.iconst 2, 1) := by decide +kernel
theorem dX7_item_218 : decode cX7_item 218 = .ok (.invokevirtual 119, 3) := by decide +kernel
theorem dX7_item_221 : decode cX7_item 221 = .ok (.land, 1) := by decide +kernel
theorem dX7_item_222 : decode cX7_item 222 = .ok (.invokestatic 123, 3) := by decide +kernel
theorem dX7_item_225 : decode cX7_item 225 = .ok (.ireturn, 1) := by decide +kernel
theorem dX7_item_226 : decode cX7_item 226 = .ok (.new 145, 3) := by decide +kernel
theorem dX7_item_229 : decode cX7_item 229 = .ok (.dup, 1) := by decide +kernel
theorem dX7_item_230 : decode cX7_item 230 = .ok (.ldc 205, 2) := by decide +kernel
theorem dX7_item_232 : decode cX7_item 232 = .ok (.invokespecial 149, 3) := by decide +kernel
theorem dX7_item_235 : decode cX7_item 235 = .ok (.athrow, 1) := by decide +kernel
theorem dX7_leader_0 : decode cX7_leader 0 = .ok (.iconst (-1), 1) := by decide +kernel
theorem dX7_leader_1 : decode cX7_leader 1 = .ok (.istore_n 1, 1) := by decide +kernel
theorem dX7_leader_2 : decode cX7_leader 2 = .ok (.iconst 0, 1) := by decide +kernel
theorem dX7_leader_3 : decode cX7_leader 3 = .ok (.istore_n 2, 1) := by decide +kernel
theorem dX7_leader_4 : decode cX7_leader 4 = .ok (.iload_n 2, 1) := by decide +kernel
theorem dX7_leader_5 : decode cX7_leader 5 = .ok (.aload_n 0, 1) := by decide +kernel
theorem dX7_leader_6 : decode cX7_leader 6 = .ok (.getfield 24, 3) := by decide +kernel
theorem dX7_leader_9 : decode cX7_leader 9 = .ok (.invokevirtual 113, 3) := by decide +kernel
theorem dX7_leader_12 : decode cX7_leader 12 = .ok (.if_icmp .ge 35, 3) := by decide +kernel
theorem dX7_leader_15 : decode cX7_leader 15 = .ok (.iload_n 1, 1) := by decide +kernel
theorem dX7_leader_16 : decode cX7_leader 16 = .ok (.iconst (-1), 1) := by decide +kernel
theorem dX7_leader_17 : decode cX7_leader 17 = .ok (.if_icmp .eq 22, 3) := by decide +kernel
theorem dX7_leader_20 : decode cX7_leader 20 = .ok (.aload_n 0, 1) := by decide +kernel
theorem dX7_leader_21 : decode cX7_leader 21 = .ok (.getfield 33, 3) := by decide +kernel
theorem dX7_leader_24 : decode cX7_leader 24 = .ok (.iload_n 2, 1) := by decide +kernel
theorem dX7_leader_25 : decode cX7_leader 25 = .ok (.invokevirtual 160, 3) := by decide +kernel
theorem dX7_leader_28 : decode cX7_leader 28 = .ok (.aload_n 0, 1) := by decide +kernel
theorem dX7_leader_29 : decode cX7_leader 29 = .ok (.getfield 33, 3) := by decide +kernel
theorem dX7_leader_32 : decode cX7_leader 32 = .ok (.iload_n 1, 1) := by decide +kernel
theorem dX7_leader_33 : decode cX7_leader 33 = .ok (.invokevirtual 160, 3) := by decide +kernel
theorem dX7_leader_36 : decode cX7_leader 36 = .ok (.if_icmp .le 5, 3) := by decide +kernel
theorem dX7_leader_39 : decode cX7_leader 39 = .ok (.iload_n 2, 1) := by decide +kernel
theorem dX7_leader_40 : decode cX7_leader 40 = .ok (.istore_n 1, 1) := by decide +kernel
theorem dX7_leader_41 : decode cX7_leader 41 = .ok (.iinc 2 1, 3) := by decide +kernel
theorem dX7_leader_44 : decode cX7_leader 44 = .ok (.goto (-40), 3) := by decide +kernel
theorem dX7_leader_47 : decode cX7_leader 47 = .ok (.iload_n 1, 1) := by decide +kernel
theorem dX7_leader_48 : decode cX7_leader 48 = .ok (.ireturn, 1) := by decide +kernel
theorem dX7_least_0 : decode cX7_least 0 = .ok (.aload_n 0, 1) := by decide +kernel
theorem dX7_least_1 : decode cX7_least 1 = .ok (.iload_n 1, 1) := by decide +kernel
theorem dX7_least_2 : decode cX7_least 2 = .ok (.invokevirtual 168, 3) := by decide +kernel
theorem dX7_least_5 : decode cX7_least 5 = .ok (.aload_n 0, 1) := by decide +kernel
theorem dX7_least_6 : decode cX7_least 6 = .ok (.getfield 24, 3) := by decide +kernel
theorem dX7_least_9 : decode cX7_least 9 = .ok (.iload_n 1, 1) := by decide +kernel
theorem dX7_least_10 : decode cX7_least 10 = .ok (.invokevirtual 230, 3) := by decide +kernel
theorem dX7_least_13 : decode cX7_least 13 = .ok (.ireturn, 1) := by decide +kernel
theorem dX7_needItem_0 : decode cX7_needItem 0 = .ok (.aload_n 0, 1) := by decide +kernel
theorem dX7_needItem_1 : decode cX7_needItem 1 = .ok (.getfield 24, 3) := by decide +kernel
theorem dX7_needItem_4 : decode cX7_needItem 4 = .ok (.iload_n 1, 1) := by decide +kernel
theorem dX7_needItem_5 : decode cX7_needItem 5 = .ok (.invokevirtual 291, 3) := by decide +kernel
theorem dX7_needItem_8 : decode cX7_needItem 8 = .ok (.ifCond .ne 14, 3) := by decide +kernel
theorem dX7_needItem_11 : decode cX7_needItem 11 = .ok (.new 145, 3) := by decide +kernel
theorem dX7_needItem_14 : decode cX7_needItem 14 = .ok (.dup, 1) := by decide +kernel
theorem dX7_needItem_15 : decode cX7_needItem 15 = .ok (.ldc_w 294, 3) := by decide +kernel
theorem dX7_needItem_18 : decode cX7_needItem 18 = .ok (.invokespecial 149, 3) := by decide +kernel
theorem dX7_needItem_21 : decode cX7_needItem 21 = .ok (.athrow, 1) := by decide +kernel
theorem dX7_needItem_22 : decode cX7_needItem 22 = .ok (.return_, 1) := by decide +kernel
theorem dX7_needSpeaker_0 : decode cX7_needSpeaker 0 = .ok (.aload_n 0, 1) := by decide +kernel
theorem dX7_needSpeaker_1 : decode cX7_needSpeaker 1 = .ok (.getfield 24, 3) := by decide +kernel
theorem dX7_needSpeaker_4 : decode cX7_needSpeaker 4 = .ok (.iload_n 1, 1) := by decide +kernel
theorem dX7_needSpeaker_5 : decode cX7_needSpeaker 5 = .ok (.invokevirtual 286, 3) := by decide +kernel
theorem dX7_needSpeaker_8 : decode cX7_needSpeaker 8 = .ok (.ifCond .ne 14, 3) := by decide +kernel
theorem dX7_needSpeaker_11 : decode cX7_needSpeaker 11 = .ok (.new 145, 3) := by decide +kernel
theorem dX7_needSpeaker_14 : decode cX7_needSpeaker 14 = .ok (.dup, 1) := by decide +kernel
theorem dX7_needSpeaker_15 : decode cX7_needSpeaker 15 = .ok (.ldc_w 289, 3) := by decide +kernel
theorem dX7_needSpeaker_18 : decode cX7_needSpeaker 18 = .ok (.invokespecial 149, 3) := by decide +kernel
theorem dX7_needSpeaker_21 : decode cX7_needSpeaker 21 = .ok (.athrow, 1) := by decide +kernel
theorem dX7_needSpeaker_22 : decode cX7_needSpeaker 22 = .ok (.return_, 1) := by decide +kernel
theorem dX7_oneThatFrees_0 : decode cX7_oneThatFrees 0 = .ok (.iconst 0, 1) := by decide +kernel
theorem dX7_oneThatFrees_1 : decode cX7_oneThatFrees 1 = .ok (.istore_n 2, 1) := by decide +kernel
theorem dX7_oneThatFrees_2 : decode cX7_oneThatFrees 2 = .ok (.iload_n 2, 1) := by decide +kernel
theorem dX7_oneThatFrees_3 : decode cX7_oneThatFrees 3 = .ok (.aload_n 0, 1) := by decide +kernel
theorem dX7_oneThatFrees_4 : decode cX7_oneThatFrees 4 = .ok (.getfield 24, 3) := by decide +kernel
theorem dX7_oneThatFrees_7 : decode cX7_oneThatFrees 7 = .ok (.invokevirtual 116, 3) := by decide +kernel
theorem dX7_oneThatFrees_10 : decode cX7_oneThatFrees 10 = .ok (.if_icmp .ge 39, 3) := by decide +kernel
theorem dX7_oneThatFrees_13 : decode cX7_oneThatFrees 13 = .ok (.iload_n 2, 1) := by decide +kernel
theorem dX7_oneThatFrees_14 : decode cX7_oneThatFrees 14 = .ok (.iload_n 1, 1) := by decide +kernel
theorem dX7_oneThatFrees_15 : decode cX7_oneThatFrees 15 = .ok (.if_icmp .eq 28, 3) := by decide +kernel
theorem dX7_oneThatFrees_18 : decode cX7_oneThatFrees 18 = .ok (.aload_n 0, 1) := by decide +kernel
theorem dX7_oneThatFrees_19 : decode cX7_oneThatFrees 19 = .ok (.getfield 37, 3) := by decide +kernel
theorem dX7_oneThatFrees_22 : decode cX7_oneThatFrees 22 = .ok (.iload_n 2, 1) := by decide +kernel
theorem dX7_oneThatFrees_23 : decode cX7_oneThatFrees 23 = .ok (.invokestatic 213, 3) := by decide +kernel
theorem dX7_oneThatFrees_26 : decode cX7_oneThatFrees 26 = .ok (.lconst 0, 1) := by decide +kernel
theorem dX7_oneThatFrees_27 : decode cX7_oneThatFrees 27 = .ok (.invokevirtual 109, 3) := by decide +kernel
theorem dX7_oneThatFrees_30 : decode cX7_oneThatFrees 30 = .ok (.aload_n 0, 1) := by decide +kernel
theorem dX7_oneThatFrees_31 : decode cX7_oneThatFrees 31 = .ok (.getfield 37, 3) := by decide +kernel
theorem dX7_oneThatFrees_34 : decode cX7_oneThatFrees 34 = .ok (.iload_n 1, 1) := by decide +kernel
theorem dX7_oneThatFrees_35 : decode cX7_oneThatFrees 35 = .ok (.invokevirtual 186, 3) := by decide +kernel
theorem dX7_oneThatFrees_38 : decode cX7_oneThatFrees 38 = .ok (.ifCond .eq 5, 3) := by decide +kernel
theorem dX7_oneThatFrees_41 : decode cX7_oneThatFrees 41 = .ok (.iload_n 2, 1) := by decide +kernel
theorem dX7_oneThatFrees_42 : decode cX7_oneThatFrees 42 = .ok (.ireturn, 1) := by decide +kernel
theorem dX7_oneThatFrees_43 : decode cX7_oneThatFrees 43 = .ok (.iinc 2 1, 3) := by decide +kernel
theorem dX7_oneThatFrees_46 : decode cX7_oneThatFrees 46 = .ok (.goto (-44), 3) := by decide +kernel
theorem dX7_oneThatFrees_49 : decode cX7_oneThatFrees 49 = .ok (.iconst (-1), 1) := by decide +kernel
theorem dX7_oneThatFrees_50 : decode cX7_oneThatFrees 50 = .ok (.ireturn, 1) := by decide +kernel
theorem dX7_pairThatFrees_0 : decode cX7_pairThatFrees 0 = .ok (.iconst 0, 1) := by decide +kernel
theorem dX7_pairThatFrees_1 : decode cX7_pairThatFrees 1 = .ok (.istore_n 2, 1) := by decide +kernel
theorem dX7_pairThatFrees_2 : decode cX7_pairThatFrees 2 = .ok (.iload_n 2, 1) := by decide +kernel
theorem dX7_pairThatFrees_3 : decode cX7_pairThatFrees 3 = .ok (.aload_n 0, 1) := by decide +kernel
theorem dX7_pairThatFrees_4 : decode cX7_pairThatFrees 4 = .ok (.getfield 24, 3) := by decide +kernel
theorem dX7_pairThatFrees_7 : decode cX7_pairThatFrees 7 = .ok (.invokevirtual 116, 3) := by decide +kernel
theorem dX7_pairThatFrees_10 : decode cX7_pairThatFrees 10 = .ok (.if_icmp .ge 79, 3) := by decide +kernel
theorem dX7_pairThatFrees_13 : decode cX7_pairThatFrees 13 = .ok (.iload_n 2, 1) := by decide +kernel
theorem dX7_pairThatFrees_14 : decode cX7_pairThatFrees 14 = .ok (.iconst 1, 1) := by decide +kernel
theorem dX7_pairThatFrees_15 : decode cX7_pairThatFrees 15 = .ok (.iadd, 1) := by decide +kernel
theorem dX7_pairThatFrees_16 : decode cX7_pairThatFrees 16 = .ok (.istore_n 3, 1) := by decide +kernel
theorem dX7_pairThatFrees_17 : decode cX7_pairThatFrees 17 = .ok (.iload_n 3, 1) := by decide +kernel
theorem dX7_pairThatFrees_18 : decode cX7_pairThatFrees 18 = .ok (.aload_n 0, 1) := by decide +kernel
theorem dX7_pairThatFrees_19 : decode cX7_pairThatFrees 19 = .ok (.getfield 24, 3) := by decide +kernel
theorem dX7_pairThatFrees_22 : decode cX7_pairThatFrees 22 = .ok (.invokevirtual 116, 3) := by decide +kernel
theorem dX7_pairThatFrees_25 : decode cX7_pairThatFrees 25 = .ok (.if_icmp .ge 58, 3) := by decide +kernel
theorem dX7_pairThatFrees_28 : decode cX7_pairThatFrees 28 = .ok (.iload_n 2, 1) := by decide +kernel
theorem dX7_pairThatFrees_29 : decode cX7_pairThatFrees 29 = .ok (.iload_n 1, 1) := by decide +kernel
theorem dX7_pairThatFrees_30 : decode cX7_pairThatFrees 30 = .ok (.if_icmp .eq 47, 3) := by decide +kernel
theorem dX7_pairThatFrees_33 : decode cX7_pairThatFrees 33 = .ok (.iload_n 3, 1) := by decide +kernel
theorem dX7_pairThatFrees_34 : decode cX7_pairThatFrees 34 = .ok (.iload_n 1, 1) := by decide +kernel
theorem dX7_pairThatFrees_35 : decode cX7_pairThatFrees 35 = .ok (.if_icmp .eq 42, 3) := by decide +kernel
theorem dX7_pairThatFrees_38 : decode cX7_pairThatFrees 38 = .ok (.aload_n 0, 1) := by decide +kernel
theorem dX7_pairThatFrees_39 : decode cX7_pairThatFrees 39 = .ok (.getfield 37, 3) := by decide +kernel
theorem dX7_pairThatFrees_42 : decode cX7_pairThatFrees 42 = .ok (.iload_n 2, 1) := by decide +kernel
theorem dX7_pairThatFrees_43 : decode cX7_pairThatFrees 43 = .ok (.invokestatic 213, 3) := by decide +kernel
theorem dX7_pairThatFrees_46 : decode cX7_pairThatFrees 46 = .ok (.iload_n 3, 1) := by decide +kernel
theorem dX7_pairThatFrees_47 : decode cX7_pairThatFrees 47 = .ok (.invokestatic 213, 3) := by decide +kernel
theorem dX7_pairThatFrees_50 : decode cX7_pairThatFrees 50 = .ok (.lor, 1) := by decide +kernel
theorem dX7_pairThatFrees_51 : decode cX7_pairThatFrees 51 = .ok (.lconst 0, 1) := by decide +kernel
theorem dX7_pairThatFrees_52 : decode cX7_pairThatFrees 52 = .ok (.invokevirtual 109, 3) := by decide +kernel
theorem dX7_pairThatFrees_55 : decode cX7_pairThatFrees 55 = .ok (.aload_n 0, 1) := by decide +kernel
theorem dX7_pairThatFrees_56 : decode cX7_pairThatFrees 56 = .ok (.getfield 37, 3) := by decide +kernel
theorem dX7_pairThatFrees_59 : decode cX7_pairThatFrees 59 = .ok (.iload_n 1, 1) := by decide +kernel
theorem dX7_pairThatFrees_60 : decode cX7_pairThatFrees 60 = .ok (.invokevirtual 186, 3) := by decide +kernel
theorem dX7_pairThatFrees_63 : decode cX7_pairThatFrees 63 = .ok (.ifCond .eq 14, 3) := by decide +kernel
theorem dX7_pairThatFrees_66 : decode cX7_pairThatFrees 66 = .ok (.bipush 100, 2) := by decide +kernel
theorem dX7_pairThatFrees_68 : decode cX7_pairThatFrees 68 = .ok (.iconst 1, 1) := by decide +kernel
theorem dX7_pairThatFrees_69 : decode cX7_pairThatFrees 69 = .ok (.iload_n 2, 1) := by decide +kernel
theorem dX7_pairThatFrees_70 : decode cX7_pairThatFrees 70 = .ok (.iadd, 1) := by decide +kernel
theorem dX7_pairThatFrees_71 : decode cX7_pairThatFrees 71 = .ok (.imul, 1) := by decide +kernel
theorem dX7_pairThatFrees_72 : decode cX7_pairThatFrees 72 = .ok (.iconst 1, 1) := by decide +kernel
theorem dX7_pairThatFrees_73 : decode cX7_pairThatFrees 73 = .ok (.iadd, 1) := by decide +kernel
theorem dX7_pairThatFrees_74 : decode cX7_pairThatFrees 74 = .ok (.iload_n 3, 1) := by decide +kernel
theorem dX7_pairThatFrees_75 : decode cX7_pairThatFrees 75 = .ok (.iadd, 1) := by decide +kernel
theorem dX7_pairThatFrees_76 : decode cX7_pairThatFrees 76 = .ok (.ireturn, 1) := by decide +kernel
theorem dX7_pairThatFrees_77 : decode cX7_pairThatFrees 77 = .ok (.iinc 3 1, 3) := by decide +kernel
theorem dX7_pairThatFrees_80 : decode cX7_pairThatFrees 80 = .ok (.goto (-63), 3) := by decide +kernel
theorem dX7_pairThatFrees_83 : decode cX7_pairThatFrees 83 = .ok (.iinc 2 1, 3) := by decide +kernel
theorem dX7_pairThatFrees_86 : decode cX7_pairThatFrees 86 = .ok (.goto (-84), 3) := by decide +kernel
theorem dX7_pairThatFrees_89 : decode cX7_pairThatFrees 89 = .ok (.iconst (-1), 1) := by decide +kernel
theorem dX7_pairThatFrees_90 : decode cX7_pairThatFrees 90 = .ok (.ireturn, 1) := by decide +kernel
theorem dX7_sheet_0 : decode cX7_sheet 0 = .ok (.aload_n 0, 1) := by decide +kernel
theorem dX7_sheet_1 : decode cX7_sheet 1 = .ok (.getfield 18, 3) := by decide +kernel
theorem dX7_sheet_4 : decode cX7_sheet 4 = .ok (.iconst 0, 1) := by decide +kernel
theorem dX7_sheet_5 : decode cX7_sheet 5 = .ok (.invokevirtual 88, 3) := by decide +kernel
theorem dX7_sheet_8 : decode cX7_sheet 8 = .ok (.iconst 0, 1) := by decide +kernel
theorem dX7_sheet_9 : decode cX7_sheet 9 = .ok (.istore_n 1, 1) := by decide +kernel
theorem dX7_sheet_10 : decode cX7_sheet 10 = .ok (.iload_n 1, 1) := by decide +kernel
theorem dX7_sheet_11 : decode cX7_sheet 11 = .ok (.aload_n 0, 1) := by decide +kernel
theorem dX7_sheet_12 : decode cX7_sheet 12 = .ok (.getfield 24, 3) := by decide +kernel
theorem dX7_sheet_15 : decode cX7_sheet 15 = .ok (.invokevirtual 116, 3) := by decide +kernel
theorem dX7_sheet_18 : decode cX7_sheet 18 = .ok (.if_icmp .ge 91, 3) := by decide +kernel
theorem dX7_sheet_21 : decode cX7_sheet 21 = .ok (.aload_n 0, 1) := by decide +kernel
theorem dX7_sheet_22 : decode cX7_sheet 22 = .ok (.getfield 18, 3) := by decide +kernel
theorem dX7_sheet_25 : decode cX7_sheet 25 = .ok (.aload_n 0, 1) := by decide +kernel
theorem dX7_sheet_26 : decode cX7_sheet 26 = .ok (.getfield 24, 3) := by decide +kernel
theorem dX7_sheet_29 : decode cX7_sheet 29 = .ok (.iload_n 1, 1) := by decide +kernel
theorem dX7_sheet_30 : decode cX7_sheet 30 = .ok (.invokevirtual 239, 3) := by decide +kernel
theorem dX7_sheet_33 : decode cX7_sheet 33 = .ok (.invokevirtual 242, 3) := by decide +kernel
theorem dX7_sheet_36 : decode cX7_sheet 36 = .ok (.aload_n 0, 1) := by decide +kernel
theorem dX7_sheet_37 : decode cX7_sheet 37 = .ok (.getfield 18, 3) := by decide +kernel
theorem dX7_sheet_40 : decode cX7_sheet 40 = .ok (.bipush 32, 2) := by decide +kernel
theorem dX7_sheet_42 : decode cX7_sheet 42 = .ok (.invokevirtual 246, 3) := by decide +kernel
theorem dX7_sheet_45 : decode cX7_sheet 45 = .ok (.aload_n 0, 1) := by decide +kernel
theorem dX7_sheet_46 : decode cX7_sheet 46 = .ok (.getfield 18, 3) := by decide +kernel
theorem dX7_sheet_49 : decode cX7_sheet 49 = .ok (.aload_n 0, 1) := by decide +kernel
theorem dX7_sheet_50 : decode cX7_sheet 50 = .ok (.getfield 24, 3) := by decide +kernel
theorem dX7_sheet_53 : decode cX7_sheet 53 = .ok (.aload_n 0, 1) := by decide +kernel
theorem dX7_sheet_54 : decode cX7_sheet 54 = .ok (.getfield 24, 3) := by decide +kernel
theorem dX7_sheet_57 : decode cX7_sheet 57 = .ok (.iload_n 1, 1) := by decide +kernel
theorem dX7_sheet_58 : decode cX7_sheet 58 = .ok (.invokevirtual 174, 3) := by decide +kernel
theorem dX7_sheet_61 : decode cX7_sheet 61 = .ok (.invokevirtual 249, 3) := by decide +kernel
theorem dX7_sheet_64 : decode cX7_sheet 64 = .ok (.invokevirtual 242, 3) := by decide +kernel
theorem dX7_sheet_67 : decode cX7_sheet 67 = .ok (.aload_n 0, 1) := by decide +kernel
theorem dX7_sheet_68 : decode cX7_sheet 68 = .ok (.getfield 18, 3) := by decide +kernel
theorem dX7_sheet_71 : decode cX7_sheet 71 = .ok (.bipush 32, 2) := by decide +kernel
theorem dX7_sheet_73 : decode cX7_sheet 73 = .ok (.invokevirtual 246, 3) := by decide +kernel
theorem dX7_sheet_76 : decode cX7_sheet 76 = .ok (.aload_n 0, 1) := by decide +kernel
theorem dX7_sheet_77 : decode cX7_sheet 77 = .ok (.getfield 18, 3) := by decide +kernel
theorem dX7_sheet_80 : decode cX7_sheet 80 = .ok (.aload_n 0, 1) := by decide +kernel
theorem dX7_sheet_81 : decode cX7_sheet 81 = .ok (.getfield 33, 3) := by decide +kernel
theorem dX7_sheet_84 : decode cX7_sheet 84 = .ok (.iload_n 1, 1) := by decide +kernel
theorem dX7_sheet_85 : decode cX7_sheet 85 = .ok (.invokevirtual 252, 3) := by decide +kernel
theorem dX7_sheet_88 : decode cX7_sheet 88 = .ok (.invokevirtual 256, 3) := by decide +kernel
theorem dX7_sheet_91 : decode cX7_sheet 91 = .ok (.invokevirtual 242, 3) := by decide +kernel
theorem dX7_sheet_94 : decode cX7_sheet 94 = .ok (.aload_n 0, 1) := by decide +kernel
theorem dX7_sheet_95 : decode cX7_sheet 95 = .ok (.getfield 18, 3) := by decide +kernel
theorem dX7_sheet_98 : decode cX7_sheet 98 = .ok (.bipush 10, 2) := by decide +kernel
theorem dX7_sheet_100 : decode cX7_sheet 100 = .ok (.invokevirtual 246, 3) := by decide +kernel
theorem dX7_sheet_103 : decode cX7_sheet 103 = .ok (.iinc 1 1, 3) := by decide +kernel
theorem dX7_sheet_106 : decode cX7_sheet 106 = .ok (.goto (-96), 3) := by decide +kernel
theorem dX7_sheet_109 : decode cX7_sheet 109 = .ok (.aload_n 0, 1) := by decide +kernel
theorem dX7_sheet_110 : decode cX7_sheet 110 = .ok (.getfield 18, 3) := by decide +kernel
theorem dX7_sheet_113 : decode cX7_sheet 113 = .ok (.invokevirtual 69, 3) := by decide +kernel
theorem dX7_sheet_116 : decode cX7_sheet 116 = .ok (.ireturn, 1) := by decide +kernel
theorem dX7_speaker_0 : decode cX7_speaker 0 = .ok (.aload_n 0, 1) := by decide +kernel
theorem dX7_speaker_1 : decode cX7_speaker 1 = .ok (.iload_n 1, 1) := by decide +kernel
theorem dX7_speaker_2 : decode cX7_speaker 2 = .ok (.invokevirtual 150, 3) := by decide +kernel
theorem dX7_speaker_5 : decode cX7_speaker 5 = .ok (.aload_n 0, 1) := by decide +kernel
theorem dX7_speaker_6 : decode cX7_speaker 6 = .ok (.getfield 24, 3) := by decide +kernel
theorem dX7_speaker_9 : decode cX7_speaker 9 = .ok (.iload_n 1, 1) := by decide +kernel
theorem dX7_speaker_10 : decode cX7_speaker 10 = .ok (.invokevirtual 153, 3) := by decide +kernel
theorem dX7_speaker_13 : decode cX7_speaker 13 = .ok (.lstore_n 3, 1) := by decide +kernel
theorem dX7_speaker_14 : decode cX7_speaker 14 = .ok (.iload_n 2, 1) := by decide +kernel
theorem dX7_speaker_15 : decode cX7_speaker 15 = .ok (.tableswitch 123 0 6 #[41, 50, 59, 68, 82, 96, 110], 41) := by decide +kernel
theorem dX7_speaker_56 : decode cX7_speaker 56 = .ok (.aload_n 0, 1) := by decide +kernel
theorem dX7_speaker_57 : decode cX7_speaker 57 = .ok (.getfield 24, 3) := by decide +kernel
theorem dX7_speaker_60 : decode cX7_speaker 60 = .ok (.iload_n 1, 1) := by decide +kernel
theorem dX7_speaker_61 : decode cX7_speaker 61 = .ok (.invokevirtual 156, 3) := by decide +kernel
theorem dX7_speaker_64 : decode cX7_speaker 64 = .ok (.ireturn, 1) := by decide +kernel
theorem dX7_speaker_65 : decode cX7_speaker 65 = .ok (.aload_n 0, 1) := by decide +kernel
theorem dX7_speaker_66 : decode cX7_speaker 66 = .ok (.getfield 33, 3) := by decide +kernel
theorem dX7_speaker_69 : decode cX7_speaker 69 = .ok (.iload_n 1, 1) := by decide +kernel
theorem dX7_speaker_70 : decode cX7_speaker 70 = .ok (.invokevirtual 160, 3) := by decide +kernel
theorem dX7_speaker_73 : decode cX7_speaker 73 = .ok (.ireturn, 1) := by decide +kernel
theorem dX7_speaker_74 : decode cX7_speaker 74 = .ok (.aload_n 0, 1) := by decide +kernel
theorem dX7_speaker_75 : decode cX7_speaker 75 = .ok (.getfield 33, 3) := by decide +kernel
theorem dX7_speaker_78 : decode cX7_speaker 78 = .ok (.iload_n 1, 1) := by decide +kernel
theorem dX7_speaker_79 : decode cX7_speaker 79 = .ok (.invokevirtual 163, 3) := by decide +kernel
theorem dX7_speaker_82 : decode cX7_speaker 82 = .ok (.ireturn, 1) := by decide +kernel
theorem dX7_speaker_83 : decode cX7_speaker 83 = .ok (.lload_n 3, 1) := by decide +kernel
theorem dX7_speaker_84 : decode cX7_speaker 84 = .ok (.aload_n 0, 1) := by decide +kernel
theorem dX7_speaker_85 : decode cX7_speaker 85 = .ok (.getfield 24, 3) := by decide +kernel
theorem dX7_speaker_88 : decode cX7_speaker 88 = .ok (.iconst 0, 1) := by decide +kernel
theorem dX7_speaker_89 : decode cX7_speaker 89 = .ok (.invokevirtual 119, 3) := by decide +kernel
theorem dX7_speaker_92 : decode cX7_speaker 92 = .ok (.land, 1) := by decide +kernel
theorem dX7_speaker_93 : decode cX7_speaker 93 = .ok (.invokestatic 123, 3) := by decide +kernel
theorem dX7_speaker_96 : decode cX7_speaker 96 = .ok (.ireturn, 1) := by decide +kernel
theorem dX7_speaker_97 : decode cX7_speaker 97 = .ok (.lload_n 3, 1) := by decide +kernel
theorem dX7_speaker_98 : decode cX7_speaker 98 = .ok (.aload_n 0, 1) := by decide +kernel
theorem dX7_speaker_99 : decode cX7_speaker 99 = .ok (.getfield 24, 3) := by decide +kernel
theorem dX7_speaker_102 : decode cX7_speaker 102 = .ok (.iconst 1, 1) := by decide +kernel
theorem dX7_speaker_103 : decode cX7_speaker 103 = .ok (.invokevirtual 119, 3) := by decide +kernel
theorem dX7_speaker_106 : decode cX7_speaker 106 = .ok (.land, 1) := by decide +kernel
theorem dX7_speaker_107 : decode cX7_speaker 107 = .ok (.invokestatic 123, 3) := by decide +kernel
theorem dX7_speaker_110 : decode cX7_speaker 110 = .ok (.ireturn, 1) := by decide +kernel
theorem dX7_speaker_111 : decode cX7_speaker 111 = .ok (.lload_n 3, 1) := by decide +kernel
theorem dX7_speaker_112 : decode cX7_speaker 112 = .ok (.aload_n 0, 1) := by decide +kernel
theorem dX7_speaker_113 : decode cX7_speaker 113 = .ok (.getfield 24, 3) := by decide +kernel
theorem dX7_speaker_116 : decode cX7_speaker 116 = .ok (.iconst 2, 1) := by decide +kernel
theorem dX7_speaker_117 : decode cX7_speaker 117 = .ok (.invokevirtual 119, 3) := by decide +kernel
theorem dX7_speaker_120 : decode cX7_speaker 120 = .ok (.land, 1) := by decide +kernel
theorem dX7_speaker_121 : decode cX7_speaker 121 = .ok (.invokestatic 123, 3) := by decide +kernel
theorem dX7_speaker_124 : decode cX7_speaker 124 = .ok (.ireturn, 1) := by decide +kernel
theorem dX7_speaker_125 : decode cX7_speaker 125 = .ok (.lload_n 3, 1) := by decide +kernel
theorem dX7_speaker_126 : decode cX7_speaker 126 = .ok (.aload_n 0, 1) := by decide +kernel
theorem dX7_speaker_127 : decode cX7_speaker 127 = .ok (.getfield 24, 3) := by decide +kernel
theorem dX7_speaker_130 : decode cX7_speaker 130 = .ok (.invokevirtual 139, 3) := by decide +kernel
theorem dX7_speaker_133 : decode cX7_speaker 133 = .ok (.land, 1) := by decide +kernel
theorem dX7_speaker_134 : decode cX7_speaker 134 = .ok (.invokestatic 123, 3) := by decide +kernel
theorem dX7_speaker_137 : decode cX7_speaker 137 = .ok (.ireturn, 1) := by decide +kernel
theorem dX7_speaker_138 : decode cX7_speaker 138 = .ok (.new 145, 3) := by decide +kernel
theorem dX7_speaker_141 : decode cX7_speaker 141 = .ok (.dup, 1) := by decide +kernel
theorem dX7_speaker_142 : decode cX7_speaker 142 = .ok (.ldc 166, 2) := by decide +kernel
theorem dX7_speaker_144 : decode cX7_speaker 144 = .ok (.invokespecial 149, 3) := by decide +kernel
theorem dX7_speaker_147 : decode cX7_speaker 147 = .ok (.athrow, 1) := by decide +kernel
theorem dX7_trim_0 : decode cX7_trim 0 = .ok (.iload_n 1, 1) := by decide +kernel
theorem dX7_trim_1 : decode cX7_trim 1 = .ok (.ifCond .lt 14, 3) := by decide +kernel
theorem dX7_trim_4 : decode cX7_trim 4 = .ok (.iload_n 1, 1) := by decide +kernel
theorem dX7_trim_5 : decode cX7_trim 5 = .ok (.aload_n 0, 1) := by decide +kernel
theorem dX7_trim_6 : decode cX7_trim 6 = .ok (.getfield 14, 3) := by decide +kernel
theorem dX7_trim_9 : decode cX7_trim 9 = .ok (.invokevirtual 69, 3) := by decide +kernel
theorem dX7_trim_12 : decode cX7_trim 12 = .ok (.if_icmp .le 13, 3) := by decide +kernel
theorem dX7_trim_15 : decode cX7_trim 15 = .ok (.new 83, 3) := by decide +kernel
theorem dX7_trim_18 : decode cX7_trim 18 = .ok (.dup, 1) := by decide +kernel
theorem dX7_trim_19 : decode cX7_trim 19 = .ok (.ldc 85, 2) := by decide +kernel
theorem dX7_trim_21 : decode cX7_trim 21 = .ok (.invokespecial 87, 3) := by decide +kernel
theorem dX7_trim_24 : decode cX7_trim 24 = .ok (.athrow, 1) := by decide +kernel
theorem dX7_trim_25 : decode cX7_trim 25 = .ok (.aload_n 0, 1) := by decide +kernel
theorem dX7_trim_26 : decode cX7_trim 26 = .ok (.getfield 14, 3) := by decide +kernel
theorem dX7_trim_29 : decode cX7_trim 29 = .ok (.iload_n 1, 1) := by decide +kernel
theorem dX7_trim_30 : decode cX7_trim 30 = .ok (.invokevirtual 88, 3) := by decide +kernel
theorem dX7_trim_33 : decode cX7_trim 33 = .ok (.iload_n 1, 1) := by decide +kernel
theorem dX7_trim_34 : decode cX7_trim 34 = .ok (.ireturn, 1) := by decide +kernel
theorem dX7_why_0 : decode cX7_why 0 = .ok (.aload_n 0, 1) := by decide +kernel
theorem dX7_why_1 : decode cX7_why 1 = .ok (.iload_n 1, 1) := by decide +kernel
theorem dX7_why_2 : decode cX7_why 2 = .ok (.invokevirtual 168, 3) := by decide +kernel
theorem dX7_why_5 : decode cX7_why 5 = .ok (.aload_n 0, 1) := by decide +kernel
theorem dX7_why_6 : decode cX7_why 6 = .ok (.getfield 33, 3) := by decide +kernel
theorem dX7_why_9 : decode cX7_why 9 = .ok (.iload_n 1, 1) := by decide +kernel
theorem dX7_why_10 : decode cX7_why 10 = .ok (.invokevirtual 190, 3) := by decide +kernel
theorem dX7_why_13 : decode cX7_why 13 = .ok (.ifCond .ne 5, 3) := by decide +kernel
theorem dX7_why_16 : decode cX7_why 16 = .ok (.iconst (-1), 1) := by decide +kernel
theorem dX7_why_17 : decode cX7_why 17 = .ok (.ireturn, 1) := by decide +kernel
theorem dX7_why_18 : decode cX7_why 18 = .ok (.iconst 0, 1) := by decide +kernel
theorem dX7_why_19 : decode cX7_why 19 = .ok (.istore_n 2, 1) := by decide +kernel
theorem dX7_why_20 : decode cX7_why 20 = .ok (.iload_n 2, 1) := by decide +kernel
theorem dX7_why_21 : decode cX7_why 21 = .ok (.aload_n 0, 1) := by decide +kernel
theorem dX7_why_22 : decode cX7_why 22 = .ok (.getfield 24, 3) := by decide +kernel
theorem dX7_why_25 : decode cX7_why 25 = .ok (.invokevirtual 116, 3) := by decide +kernel
theorem dX7_why_28 : decode cX7_why 28 = .ok (.if_icmp .ge 45, 3) := by decide +kernel
theorem dX7_why_31 : decode cX7_why 31 = .ok (.aload_n 0, 1) := by decide +kernel
theorem dX7_why_32 : decode cX7_why 32 = .ok (.getfield 24, 3) := by decide +kernel
theorem dX7_why_35 : decode cX7_why 35 = .ok (.iload_n 2, 1) := by decide +kernel
theorem dX7_why_36 : decode cX7_why 36 = .ok (.invokevirtual 183, 3) := by decide +kernel
theorem dX7_why_39 : decode cX7_why 39 = .ok (.iload_n 1, 1) := by decide +kernel
theorem dX7_why_40 : decode cX7_why 40 = .ok (.if_icmp .ne 27, 3) := by decide +kernel
theorem dX7_why_43 : decode cX7_why 43 = .ok (.aload_n 0, 1) := by decide +kernel
theorem dX7_why_44 : decode cX7_why 44 = .ok (.getfield 24, 3) := by decide +kernel
theorem dX7_why_47 : decode cX7_why 47 = .ok (.iload_n 2, 1) := by decide +kernel
theorem dX7_why_48 : decode cX7_why 48 = .ok (.invokevirtual 199, 3) := by decide +kernel
theorem dX7_why_51 : decode cX7_why 51 = .ok (.ifCond .eq 16, 3) := by decide +kernel
theorem dX7_why_54 : decode cX7_why 54 = .ok (.aload_n 0, 1) := by decide +kernel
theorem dX7_why_55 : decode cX7_why 55 = .ok (.getfield 33, 3) := by decide +kernel
theorem dX7_why_58 : decode cX7_why 58 = .ok (.iload_n 2, 1) := by decide +kernel
theorem dX7_why_59 : decode cX7_why 59 = .ok (.invokevirtual 186, 3) := by decide +kernel
theorem dX7_why_62 : decode cX7_why 62 = .ok (.ifCond .eq 5, 3) := by decide +kernel
theorem dX7_why_65 : decode cX7_why 65 = .ok (.iload_n 2, 1) := by decide +kernel
theorem dX7_why_66 : decode cX7_why 66 = .ok (.ireturn, 1) := by decide +kernel
theorem dX7_why_67 : decode cX7_why 67 = .ok (.iinc 2 1, 3) := by decide +kernel
theorem dX7_why_70 : decode cX7_why 70 = .ok (.goto (-50), 3) := by decide +kernel
theorem dX7_why_73 : decode cX7_why 73 = .ok (.aload_n 0, 1) := by decide +kernel
theorem dX7_why_74 : decode cX7_why 74 = .ok (.getfield 24, 3) := by decide +kernel
theorem dX7_why_77 : decode cX7_why 77 = .ok (.iload_n 1, 1) := by decide +kernel
theorem dX7_why_78 : decode cX7_why 78 = .ok (.invokevirtual 196, 3) := by decide +kernel
theorem dX7_why_81 : decode cX7_why 81 = .ok (.ifCond .eq 8, 3) := by decide +kernel
theorem dX7_why_84 : decode cX7_why 84 = .ok (.bipush (-2), 2) := by decide +kernel
theorem dX7_why_86 : decode cX7_why 86 = .ok (.goto 5, 3) := by decide +kernel
theorem dX7_why_89 : decode cX7_why 89 = .ok (.bipush (-3), 2) := by decide +kernel
theorem dX7_why_91 : decode cX7_why 91 = .ok (.ireturn, 1) := by decide +kernel
theorem dX8_add_0 : decode cX8_add 0 = .ok (.aload_n 0, 1) := by decide +kernel
theorem dX8_add_1 : decode cX8_add 1 = .ok (.getfield 23, 3) := by decide +kernel
theorem dX8_add_4 : decode cX8_add 4 = .ok (.aload_n 0, 1) := by decide +kernel
theorem dX8_add_5 : decode cX8_add 5 = .ok (.getfield 54, 3) := by decide +kernel
theorem dX8_add_8 : decode cX8_add 8 = .ok (.lload_n 1, 1) := by decide +kernel
theorem dX8_add_9 : decode cX8_add 9 = .ok (.lastore, 1) := by decide +kernel
theorem dX8_add_10 : decode cX8_add 10 = .ok (.aload_n 0, 1) := by decide +kernel
theorem dX8_add_11 : decode cX8_add 11 = .ok (.getfield 26, 3) := by decide +kernel
theorem dX8_add_14 : decode cX8_add 14 = .ok (.aload_n 0, 1) := by decide +kernel
theorem dX8_add_15 : decode cX8_add 15 = .ok (.getfield 54, 3) := by decide +kernel
theorem dX8_add_18 : decode cX8_add 18 = .ok (.iload_n 3, 1) := by decide +kernel
theorem dX8_add_19 : decode cX8_add 19 = .ok (.iastore, 1) := by decide +kernel
theorem dX8_add_20 : decode cX8_add 20 = .ok (.aload_n 0, 1) := by decide +kernel
theorem dX8_add_21 : decode cX8_add 21 = .ok (.getfield 29, 3) := by decide +kernel
theorem dX8_add_24 : decode cX8_add 24 = .ok (.aload_n 0, 1) := by decide +kernel
theorem dX8_add_25 : decode cX8_add 25 = .ok (.getfield 54, 3) := by decide +kernel
theorem dX8_add_28 : decode cX8_add 28 = .ok (.iload 4, 2) := by decide +kernel
theorem dX8_add_30 : decode cX8_add 30 = .ok (.iastore, 1) := by decide +kernel
theorem dX8_add_31 : decode cX8_add 31 = .ok (.aload_n 0, 1) := by decide +kernel
theorem dX8_add_32 : decode cX8_add 32 = .ok (.getfield 32, 3) := by decide +kernel
theorem dX8_add_35 : decode cX8_add 35 = .ok (.aload_n 0, 1) := by decide +kernel
theorem dX8_add_36 : decode cX8_add 36 = .ok (.getfield 54, 3) := by decide +kernel
theorem dX8_add_39 : decode cX8_add 39 = .ok (.iload 5, 2) := by decide +kernel
theorem dX8_add_41 : decode cX8_add 41 = .ok (.iastore, 1) := by decide +kernel
theorem dX8_add_42 : decode cX8_add 42 = .ok (.aload_n 0, 1) := by decide +kernel
theorem dX8_add_43 : decode cX8_add 43 = .ok (.getfield 35, 3) := by decide +kernel
theorem dX8_add_46 : decode cX8_add 46 = .ok (.aload_n 0, 1) := by decide +kernel
theorem dX8_add_47 : decode cX8_add 47 = .ok (.getfield 54, 3) := by decide +kernel
theorem dX8_add_50 : decode cX8_add 50 = .ok (.iload 6, 2) := by decide +kernel
theorem dX8_add_52 : decode cX8_add 52 = .ok (.iastore, 1) := by decide +kernel
theorem dX8_add_53 : decode cX8_add 53 = .ok (.aload_n 0, 1) := by decide +kernel
theorem dX8_add_54 : decode cX8_add 54 = .ok (.getfield 38, 3) := by decide +kernel
theorem dX8_add_57 : decode cX8_add 57 = .ok (.aload_n 0, 1) := by decide +kernel
theorem dX8_add_58 : decode cX8_add 58 = .ok (.getfield 54, 3) := by decide +kernel
theorem dX8_add_61 : decode cX8_add 61 = .ok (.iload 7, 2) := by decide +kernel
theorem dX8_add_63 : decode cX8_add 63 = .ok (.iastore, 1) := by decide +kernel
theorem dX8_add_64 : decode cX8_add 64 = .ok (.aload_n 0, 1) := by decide +kernel
theorem dX8_add_65 : decode cX8_add 65 = .ok (.getfield 41, 3) := by decide +kernel
theorem dX8_add_68 : decode cX8_add 68 = .ok (.aload_n 0, 1) := by decide +kernel
theorem dX8_add_69 : decode cX8_add 69 = .ok (.getfield 54, 3) := by decide +kernel
theorem dX8_add_72 : decode cX8_add 72 = .ok (.iconst 0, 1) := by decide +kernel
theorem dX8_add_73 : decode cX8_add 73 = .ok (.iastore, 1) := by decide +kernel
theorem dX8_add_74 : decode cX8_add 74 = .ok (.aload_n 0, 1) := by decide +kernel
theorem dX8_add_75 : decode cX8_add 75 = .ok (.dup, 1) := by decide +kernel
theorem dX8_add_76 : decode cX8_add 76 = .ok (.getfield 54, 3) := by decide +kernel
theorem dX8_add_79 : decode cX8_add 79 = .ok (.iconst 1, 1) := by decide +kernel
theorem dX8_add_80 : decode cX8_add 80 = .ok (.iadd, 1) := by decide +kernel
theorem dX8_add_81 : decode cX8_add 81 = .ok (.putfield 54, 3) := by decide +kernel
theorem dX8_add_84 : decode cX8_add 84 = .ok (.return_, 1) := by decide +kernel
theorem dX8_become_0 : decode cX8_become 0 = .ok (.aload_n 0, 1) := by decide +kernel
theorem dX8_become_1 : decode cX8_become 1 = .ok (.aload_n 1, 1) := by decide +kernel
theorem dX8_become_2 : decode cX8_become 2 = .ok (.getfield 50, 3) := by decide +kernel
theorem dX8_become_5 : decode cX8_become 5 = .ok (.putfield 50, 3) := by decide +kernel
theorem dX8_become_8 : decode cX8_become 8 = .ok (.aload_n 0, 1) := by decide +kernel
theorem dX8_become_9 : decode cX8_become 9 = .ok (.aload_n 1, 1) := by decide +kernel
theorem dX8_become_10 : decode cX8_become 10 = .ok (.getfield 54, 3) := by decide +kernel
theorem dX8_become_13 : decode cX8_become 13 = .ok (.putfield 54, 3) := by decide +kernel
theorem dX8_become_16 : decode cX8_become 16 = .ok (.aload_n 1, 1) := by decide +kernel
theorem dX8_become_17 : decode cX8_become 17 = .ok (.getfield 15, 3) := by decide +kernel
theorem dX8_become_20 : decode cX8_become 20 = .ok (.iconst 0, 1) := by decide +kernel
theorem dX8_become_21 : decode cX8_become 21 = .ok (.aload_n 0, 1) := by decide +kernel
theorem dX8_become_22 : decode cX8_become 22 = .ok (.getfield 15, 3) := by decide +kernel
theorem dX8_become_25 : decode cX8_become 25 = .ok (.iconst 0, 1) := by decide +kernel
theorem dX8_become_26 : decode cX8_become 26 = .ok (.bipush 6, 2) := by decide +kernel
theorem dX8_become_28 : decode cX8_become 28 = .ok (.invokestatic 44, 3) := by decide +kernel
theorem dX8_become_31 : decode cX8_become 31 = .ok (.aload_n 1, 1) := by decide +kernel
theorem dX8_become_32 : decode cX8_become 32 = .ok (.getfield 23, 3) := by decide +kernel
theorem dX8_become_35 : decode cX8_become 35 = .ok (.iconst 0, 1) := by decide +kernel
theorem dX8_become_36 : decode cX8_become 36 = .ok (.aload_n 0, 1) := by decide +kernel
theorem dX8_become_37 : decode cX8_become 37 = .ok (.getfield 23, 3) := by decide +kernel
theorem dX8_become_40 : decode cX8_become 40 = .ok (.iconst 0, 1) := by decide +kernel
theorem dX8_become_41 : decode cX8_become 41 = .ok (.bipush 40, 2) := by decide +kernel
theorem dX8_become_43 : decode cX8_become 43 = .ok (.invokestatic 44, 3) := by decide +kernel
theorem dX8_become_46 : decode cX8_become 46 = .ok (.aload_n 0, 1) := by decide +kernel
theorem dX8_become_47 : decode cX8_become 47 = .ok (.aload_n 1, 1) := by decide +kernel
theorem dX8_become_48 : decode cX8_become 48 = .ok (.getfield 19, 3) := by decide +kernel
theorem dX8_become_51 : decode cX8_become 51 = .ok (.aload_n 0, 1) := by decide +kernel
theorem dX8_become_52 : decode cX8_become 52 = .ok (.getfield 19, 3) := by decide +kernel
theorem dX8_become_55 : decode cX8_become 55 = .ok (.invokevirtual 57, 3) := by decide +kernel
theorem dX8_become_58 : decode cX8_become 58 = .ok (.aload_n 0, 1) := by decide +kernel
theorem dX8_become_59 : decode cX8_become 59 = .ok (.aload_n 1, 1) := by decide +kernel
theorem dX8_become_60 : decode cX8_become 60 = .ok (.getfield 26, 3) := by decide +kernel
theorem dX8_become_63 : decode cX8_become 63 = .ok (.aload_n 0, 1) := by decide +kernel
theorem dX8_become_64 : decode cX8_become 64 = .ok (.getfield 26, 3) := by decide +kernel
theorem dX8_become_67 : decode cX8_become 67 = .ok (.invokevirtual 57, 3) := by decide +kernel
theorem dX8_become_70 : decode cX8_become 70 = .ok (.aload_n 0, 1) := by decide +kernel
theorem dX8_become_71 : decode cX8_become 71 = .ok (.aload_n 1, 1) := by decide +kernel
theorem dX8_become_72 : decode cX8_become 72 = .ok (.getfield 29, 3) := by decide +kernel
theorem dX8_become_75 : decode cX8_become 75 = .ok (.aload_n 0, 1) := by decide +kernel
theorem dX8_become_76 : decode cX8_become 76 = .ok (.getfield 29, 3) := by decide +kernel
theorem dX8_become_79 : decode cX8_become 79 = .ok (.invokevirtual 57, 3) := by decide +kernel
theorem dX8_become_82 : decode cX8_become 82 = .ok (.aload_n 0, 1) := by decide +kernel
theorem dX8_become_83 : decode cX8_become 83 = .ok (.aload_n 1, 1) := by decide +kernel
theorem dX8_become_84 : decode cX8_become 84 = .ok (.getfield 32, 3) := by decide +kernel
theorem dX8_become_87 : decode cX8_become 87 = .ok (.aload_n 0, 1) := by decide +kernel
theorem dX8_become_88 : decode cX8_become 88 = .ok (.getfield 32, 3) := by decide +kernel
theorem dX8_become_91 : decode cX8_become 91 = .ok (.invokevirtual 57, 3) := by decide +kernel
theorem dX8_become_94 : decode cX8_become 94 = .ok (.aload_n 0, 1) := by decide +kernel
theorem dX8_become_95 : decode cX8_become 95 = .ok (.aload_n 1, 1) := by decide +kernel
theorem dX8_become_96 : decode cX8_become 96 = .ok (.getfield 35, 3) := by decide +kernel
theorem dX8_become_99 : decode cX8_become 99 = .ok (.aload_n 0, 1) := by decide +kernel
theorem dX8_become_100 : decode cX8_become 100 = .ok (.getfield 35, 3) := by decide +kernel
theorem dX8_become_103 : decode cX8_become 103 = .ok (.invokevirtual 57, 3) := by decide +kernel
theorem dX8_become_106 : decode cX8_become 106 = .ok (.aload_n 0, 1) := by decide +kernel
theorem dX8_become_107 : decode cX8_become 107 = .ok (.aload_n 1, 1) := by decide +kernel
theorem dX8_become_108 : decode cX8_become 108 = .ok (.getfield 38, 3) := by decide +kernel
theorem dX8_become_111 : decode cX8_become 111 = .ok (.aload_n 0, 1) := by decide +kernel
theorem dX8_become_112 : decode cX8_become 112 = .ok (.getfield 38, 3) := by decide +kernel
theorem dX8_become_115 : decode cX8_become 115 = .ok (.invokevirtual 57, 3) := by decide +kernel
theorem dX8_become_118 : decode cX8_become 118 = .ok (.aload_n 0, 1) := by decide +kernel
theorem dX8_become_119 : decode cX8_become 119 = .ok (.aload_n 1, 1) := by decide +kernel
theorem dX8_become_120 : decode cX8_become 120 = .ok (.getfield 41, 3) := by decide +kernel
theorem dX8_become_123 : decode cX8_become 123 = .ok (.aload_n 0, 1) := by decide +kernel
theorem dX8_become_124 : decode cX8_become 124 = .ok (.getfield 41, 3) := by decide +kernel
theorem dX8_become_127 : decode cX8_become 127 = .ok (.invokevirtual 57, 3) := by decide +kernel
theorem dX8_become_130 : decode cX8_become 130 = .ok (.return_, 1) := by decide +kernel
theorem dX8_copy_0 : decode cX8_copy 0 = .ok (.aload_n 1, 1) := by decide +kernel
theorem dX8_copy_1 : decode cX8_copy 1 = .ok (.iconst 0, 1) := by decide +kernel
theorem dX8_copy_2 : decode cX8_copy 2 = .ok (.aload_n 2, 1) := by decide +kernel
theorem dX8_copy_3 : decode cX8_copy 3 = .ok (.iconst 0, 1) := by decide +kernel
theorem dX8_copy_4 : decode cX8_copy 4 = .ok (.aload_n 1, 1) := by decide +kernel
theorem dX8_copy_5 : decode cX8_copy 5 = .ok (.arraylength, 1) := by decide +kernel
theorem dX8_copy_6 : decode cX8_copy 6 = .ok (.invokestatic 44, 3) := by decide +kernel
theorem dX8_copy_9 : decode cX8_copy 9 = .ok (.return_, 1) := by decide +kernel
theorem dX8_isStrong_0 : decode cX8_isStrong 0 = .ok (.aload_n 0, 1) := by decide +kernel
theorem dX8_isStrong_1 : decode cX8_isStrong 1 = .ok (.getfield 26, 3) := by decide +kernel
theorem dX8_isStrong_4 : decode cX8_isStrong 4 = .ok (.iload_n 1, 1) := by decide +kernel
theorem dX8_isStrong_5 : decode cX8_isStrong 5 = .ok (.iaload, 1) := by decide +kernel
theorem dX8_isStrong_6 : decode cX8_isStrong 6 = .ok (.iconst 1, 1) := by decide +kernel
theorem dX8_isStrong_7 : decode cX8_isStrong 7 = .ok (.if_icmp .eq 5, 3) := by decide +kernel
theorem dX8_isStrong_10 : decode cX8_isStrong 10 = .ok (.iconst 0, 1) := by decide +kernel
theorem dX8_isStrong_11 : decode cX8_isStrong 11 = .ok (.ireturn, 1) := by decide +kernel
theorem dX8_isStrong_12 : decode cX8_isStrong 12 = .ok (.aload_n 0, 1) := by decide +kernel
theorem dX8_isStrong_13 : decode cX8_isStrong 13 = .ok (.getfield 26, 3) := by decide +kernel
theorem dX8_isStrong_16 : decode cX8_isStrong 16 = .ok (.aload_n 0, 1) := by decide +kernel
theorem dX8_isStrong_17 : decode cX8_isStrong 17 = .ok (.getfield 38, 3) := by decide +kernel
theorem dX8_isStrong_20 : decode cX8_isStrong 20 = .ok (.iload_n 1, 1) := by decide +kernel
theorem dX8_isStrong_21 : decode cX8_isStrong 21 = .ok (.iaload, 1) := by decide +kernel
theorem dX8_isStrong_22 : decode cX8_isStrong 22 = .ok (.iaload, 1) := by decide +kernel
theorem dX8_isStrong_23 : decode cX8_isStrong 23 = .ok (.ifCond .ne 33, 3) := by decide +kernel
theorem dX8_isStrong_26 : decode cX8_isStrong 26 = .ok (.aload_n 0, 1) := by decide +kernel
theorem dX8_isStrong_27 : decode cX8_isStrong 27 = .ok (.getfield 32, 3) := by decide +kernel
theorem dX8_isStrong_30 : decode cX8_isStrong 30 = .ok (.aload_n 0, 1) := by decide +kernel
theorem dX8_isStrong_31 : decode cX8_isStrong 31 = .ok (.getfield 38, 3) := by decide +kernel
theorem dX8_isStrong_34 : decode cX8_isStrong 34 = .ok (.iload_n 1, 1) := by decide +kernel
theorem dX8_isStrong_35 : decode cX8_isStrong 35 = .ok (.iaload, 1) := by decide +kernel
theorem dX8_isStrong_36 : decode cX8_isStrong 36 = .ok (.iaload, 1) := by decide +kernel
theorem dX8_isStrong_37 : decode cX8_isStrong 37 = .ok (.iconst 2, 1) := by decide +kernel
theorem dX8_isStrong_38 : decode cX8_isStrong 38 = .ok (.aload_n 0, 1) := by decide +kernel
theorem dX8_isStrong_39 : decode cX8_isStrong 39 = .ok (.getfield 32, 3) := by decide +kernel
theorem dX8_isStrong_42 : decode cX8_isStrong 42 = .ok (.iload_n 1, 1) := by decide +kernel
theorem dX8_isStrong_43 : decode cX8_isStrong 43 = .ok (.iaload, 1) := by decide +kernel
theorem dX8_isStrong_44 : decode cX8_isStrong 44 = .ok (.imul, 1) := by decide +kernel
theorem dX8_isStrong_45 : decode cX8_isStrong 45 = .ok (.if_icmp .gt 7, 3) := by decide +kernel
theorem dX8_isStrong_48 : decode cX8_isStrong 48 = .ok (.iconst 1, 1) := by decide +kernel
theorem dX8_isStrong_49 : decode cX8_isStrong 49 = .ok (.goto 32, 3) := by decide +kernel
theorem dX8_isStrong_52 : decode cX8_isStrong 52 = .ok (.iconst 0, 1) := by decide +kernel
theorem dX8_isStrong_53 : decode cX8_isStrong 53 = .ok (.goto 28, 3) := by decide +kernel
theorem dX8_isStrong_56 : decode cX8_isStrong 56 = .ok (.aload_n 0, 1) := by decide +kernel
theorem dX8_isStrong_57 : decode cX8_isStrong 57 = .ok (.getfield 32, 3) := by decide +kernel
theorem dX8_isStrong_60 : decode cX8_isStrong 60 = .ok (.aload_n 0, 1) := by decide +kernel
theorem dX8_isStrong_61 : decode cX8_isStrong 61 = .ok (.getfield 38, 3) := by decide +kernel
theorem dX8_isStrong_64 : decode cX8_isStrong 64 = .ok (.iload_n 1, 1) := by decide +kernel
theorem dX8_isStrong_65 : decode cX8_isStrong 65 = .ok (.iaload, 1) := by decide +kernel
theorem dX8_isStrong_66 : decode cX8_isStrong 66 = .ok (.iaload, 1) := by decide +kernel
theorem dX8_isStrong_67 : decode cX8_isStrong 67 = .ok (.aload_n 0, 1) := by decide +kernel
theorem dX8_isStrong_68 : decode cX8_isStrong 68 = .ok (.getfield 32, 3) := by decide +kernel
theorem dX8_isStrong_71 : decode cX8_isStrong 71 = .ok (.iload_n 1, 1) := by decide +kernel
theorem dX8_isStrong_72 : decode cX8_isStrong 72 = .ok (.iaload, 1) := by decide +kernel
theorem dX8_isStrong_73 : decode cX8_isStrong 73 = .ok (.if_icmp .gt 7, 3) := by decide +kernel
theorem dX8_isStrong_76 : decode cX8_isStrong 76 = .ok (.iconst 1, 1) := by decide +kernel
theorem dX8_isStrong_77 : decode cX8_isStrong 77 = .ok (.goto 4, 3) := by decide +kernel
theorem dX8_isStrong_80 : decode cX8_isStrong 80 = .ok (.iconst 0, 1) := by decide +kernel
theorem dX8_isStrong_81 : decode cX8_isStrong 81 = .ok (.ireturn, 1) := by decide +kernel
theorem dX9_advise_0 : decode cX9_advise 0 = .ok (.aload_n 0, 1) := by decide +kernel
theorem dX9_advise_1 : decode cX9_advise 1 = .ok (.iconst 0, 1) := by decide +kernel
theorem dX9_advise_2 : decode cX9_advise 2 = .ok (.putfield 85, 3) := by decide +kernel
theorem dX9_advise_5 : decode cX9_advise 5 = .ok (.aload_n 0, 1) := by decide +kernel
theorem dX9_advise_6 : decode cX9_advise 6 = .ok (.iload_n 1, 1) := by decide +kernel
theorem dX9_advise_7 : decode cX9_advise 7 = .ok (.invokevirtual 340, 3) := by decide +kernel
theorem dX9_advise_10 : decode cX9_advise 10 = .ok (.ifCond .ne 9, 3) := by decide +kernel
theorem dX9_advise_13 : decode cX9_advise 13 = .ok (.aload_n 0, 1) := by decide +kernel
theorem dX9_advise_14 : decode cX9_advise 14 = .ok (.iconst 1, 1) := by decide +kernel
theorem dX9_advise_15 : decode cX9_advise 15 = .ok (.invokevirtual 312, 3) := by decide +kernel
theorem dX9_advise_18 : decode cX9_advise 18 = .ok (.ireturn, 1) := by decide +kernel
theorem dX9_advise_19 : decode cX9_advise 19 = .ok (.iload_n 2, 1) := by decide +kernel
theorem dX9_advise_20 : decode cX9_advise 20 = .ok (.iconst 1, 1) := by decide +kernel
theorem dX9_advise_21 : decode cX9_advise 21 = .ok (.bipush 50, 2) := by decide +kernel
theorem dX9_advise_23 : decode cX9_advise 23 = .ok (.invokestatic 91, 3) := by decide +kernel
theorem dX9_advise_26 : decode cX9_advise 26 = .ok (.ifCond .ne 9, 3) := by decide +kernel
theorem dX9_advise_29 : decode cX9_advise 29 = .ok (.aload_n 0, 1) := by decide +kernel
theorem dX9_advise_30 : decode cX9_advise 30 = .ok (.iconst 2, 1) := by decide +kernel
theorem dX9_advise_31 : decode cX9_advise 31 = .ok (.invokevirtual 312, 3) := by decide +kernel
theorem dX9_advise_34 : decode cX9_advise 34 = .ok (.ireturn, 1) := by decide +kernel
theorem dX9_advise_35 : decode cX9_advise 35 = .ok (.aload_n 0, 1) := by decide +kernel
theorem dX9_advise_36 : decode cX9_advise 36 = .ok (.iload_n 1, 1) := by decide +kernel
theorem dX9_advise_37 : decode cX9_advise 37 = .ok (.aload_n 0, 1) := by decide +kernel
theorem dX9_advise_38 : decode cX9_advise 38 = .ok (.getfield 55, 3) := by decide +kernel
theorem dX9_advise_41 : decode cX9_advise 41 = .ok (.invokevirtual 337, 3) := by decide +kernel
theorem dX9_advise_44 : decode cX9_advise 44 = .ok (.istore_n 3, 1) := by decide +kernel
theorem dX9_advise_45 : decode cX9_advise 45 = .ok (.iconst (-1), 1) := by decide +kernel
theorem dX9_advise_46 : decode cX9_advise 46 = .ok (.istore 4, 2) := by decide +kernel
theorem dX9_advise_48 : decode cX9_advise 48 = .ok (.iconst 0, 1) := by decide +kernel
theorem dX9_advise_49 : decode cX9_advise 49 = .ok (.istore 5, 2) := by decide +kernel
theorem dX9_advise_51 : decode cX9_advise 51 = .ok (.iload 5, 2) := by decide +kernel
theorem dX9_advise_53 : decode cX9_advise 53 = .ok (.aload_n 0, 1) := by decide +kernel
theorem dX9_advise_54 : decode cX9_advise 54 = .ok (.getfield 48, 3) := by decide +kernel
theorem dX9_advise_57 : decode cX9_advise 57 = .ok (.getfield 95, 3) := by decide +kernel
theorem dX9_advise_60 : decode cX9_advise 60 = .ok (.if_icmp .ge 82, 3) := by decide +kernel
theorem dX9_advise_63 : decode cX9_advise 63 = .ok (.aload_n 0, 1) := by decide +kernel
theorem dX9_advise_64 : decode cX9_advise 64 = .ok (.getfield 48, 3) := by decide +kernel
theorem dX9_advise_67 : decode cX9_advise 67 = .ok (.getfield 121, 3) := by decide +kernel
theorem dX9_advise_70 : decode cX9_advise 70 = .ok (.iload 5, 2) := by decide +kernel
theorem dX9_advise_72 : decode cX9_advise 72 = .ok (.iaload, 1) := by decide +kernel
theorem dX9_advise_73 : decode cX9_advise 73 = .ok (.iload_n 1, 1) := by decide +kernel
theorem dX9_advise_74 : decode cX9_advise 74 = .ok (.if_icmp .eq 62, 3) := by decide +kernel
theorem dX9_advise_77 : decode cX9_advise 77 = .ok (.aload_n 0, 1) := by decide +kernel
theorem dX9_advise_78 : decode cX9_advise 78 = .ok (.iload 5, 2) := by decide +kernel
theorem dX9_advise_80 : decode cX9_advise 80 = .ok (.invokevirtual 363, 3) := by decide +kernel
theorem dX9_advise_83 : decode cX9_advise 83 = .ok (.iload_n 2, 1) := by decide +kernel
theorem dX9_advise_84 : decode cX9_advise 84 = .ok (.if_icmp .le 6, 3) := by decide +kernel
theorem dX9_advise_87 : decode cX9_advise 87 = .ok (.goto 49, 3) := by decide +kernel
theorem dX9_advise_90 : decode cX9_advise 90 = .ok (.aload_n 0, 1) := by decide +kernel
theorem dX9_advise_91 : decode cX9_advise 91 = .ok (.iload 5, 2) := by decide +kernel
theorem dX9_advise_93 : decode cX9_advise 93 = .ok (.putfield 73, 3) := by decide +kernel
theorem dX9_advise_96 : decode cX9_advise 96 = .ok (.aload_n 0, 1) := by decide +kernel
theorem dX9_advise_97 : decode cX9_advise 97 = .ok (.aload_n 0, 1) := by decide +kernel
theorem dX9_advise_98 : decode cX9_advise 98 = .ok (.getfield 61, 3) := by decide +kernel
theorem dX9_advise_101 : decode cX9_advise 101 = .ok (.aload_n 0, 1) := by decide +kernel
theorem dX9_advise_102 : decode cX9_advise 102 = .ok (.getfield 64, 3) := by decide +kernel
theorem dX9_advise_105 : decode cX9_advise 105 = .ok (.invokevirtual 287, 3) := by decide +kernel
theorem dX9_advise_108 : decode cX9_advise 108 = .ok (.pop, 1) := by decide +kernel
theorem dX9_advise_109 : decode cX9_advise 109 = .ok (.aload_n 0, 1) := by decide +kernel
theorem dX9_advise_110 : decode cX9_advise 110 = .ok (.iload_n 1, 1) := by decide +kernel
theorem dX9_advise_111 : decode cX9_advise 111 = .ok (.aload_n 0, 1) := by decide +kernel
theorem dX9_advise_112 : decode cX9_advise 112 = .ok (.getfield 61, 3) := by decide +kernel
theorem dX9_advise_115 : decode cX9_advise 115 = .ok (.invokevirtual 337, 3) := by decide +kernel
theorem dX9_advise_118 : decode cX9_advise 118 = .ok (.istore 6, 2) := by decide +kernel
theorem dX9_advise_120 : decode cX9_advise 120 = .ok (.iload 6, 2) := by decide +kernel
theorem dX9_advise_122 : decode cX9_advise 122 = .ok (.iload_n 3, 1) := by decide +kernel
theorem dX9_advise_123 : decode cX9_advise 123 = .ok (.if_icmp .gt 6, 3) := by decide +kernel
theorem dX9_advise_126 : decode cX9_advise 126 = .ok (.goto 10, 3) := by decide +kernel
theorem dX9_advise_129 : decode cX9_advise 129 = .ok (.iload 6, 2) := by decide +kernel
theorem dX9_advise_131 : decode cX9_advise 131 = .ok (.istore_n 3, 1) := by decide +kernel
theorem dX9_advise_132 : decode cX9_advise 132 = .ok (.iload 5, 2) := by decide +kernel
theorem dX9_advise_134 : decode cX9_advise 134 = .ok (.istore 4, 2) := by decide +kernel
theorem dX9_advise_136 : decode cX9_advise 136 = .ok (.iinc 5 1, 3) := by decide +kernel
theorem dX9_advise_139 : decode cX9_advise 139 = .ok (.goto (-88), 3) := by decide +kernel
theorem dX9_advise_142 : decode cX9_advise 142 = .ok (.aload_n 0, 1) := by decide +kernel
theorem dX9_advise_143 : decode cX9_advise 143 = .ok (.iconst (-1), 1) := by decide +kernel
theorem dX9_advise_144 : decode cX9_advise 144 = .ok (.putfield 73, 3) := by decide +kernel
theorem dX9_advise_147 : decode cX9_advise 147 = .ok (.iload 4, 2) := by decide +kernel
theorem dX9_advise_149 : decode cX9_advise 149 = .ok (.ireturn, 1) := by decide +kernel
theorem dX9_byteAt_0 : decode cX9_byteAt 0 = .ok (.aload_n 0, 1) := by decide +kernel
theorem dX9_byteAt_1 : decode cX9_byteAt 1 = .ok (.iconst 0, 1) := by decide +kernel
theorem dX9_byteAt_2 : decode cX9_byteAt 2 = .ok (.putfield 85, 3) := by decide +kernel
theorem dX9_byteAt_5 : decode cX9_byteAt 5 = .ok (.iload_n 1, 1) := by decide +kernel
theorem dX9_byteAt_6 : decode cX9_byteAt 6 = .ok (.iconst 0, 1) := by decide +kernel
theorem dX9_byteAt_7 : decode cX9_byteAt 7 = .ok (.aload_n 0, 1) := by decide +kernel
theorem dX9_byteAt_8 : decode cX9_byteAt 8 = .ok (.getfield 331, 3) := by decide +kernel
theorem dX9_byteAt_11 : decode cX9_byteAt 11 = .ok (.iconst 1, 1) := by decide +kernel
theorem dX9_byteAt_12 : decode cX9_byteAt 12 = .ok (.isub, 1) := by decide +kernel
theorem dX9_byteAt_13 : decode cX9_byteAt 13 = .ok (.invokestatic 91, 3) := by decide +kernel
theorem dX9_byteAt_16 : decode cX9_byteAt 16 = .ok (.ifCond .eq 12, 3) := by decide +kernel
theorem dX9_byteAt_19 : decode cX9_byteAt 19 = .ok (.aload_n 0, 1) := by decide +kernel
theorem dX9_byteAt_20 : decode cX9_byteAt 20 = .ok (.getfield 31, 3) := by decide +kernel
theorem dX9_byteAt_23 : decode cX9_byteAt 23 = .ok (.iload_n 1, 1) := by decide +kernel
theorem dX9_byteAt_24 : decode cX9_byteAt 24 = .ok (.iaload, 1) := by decide +kernel
theorem dX9_byteAt_25 : decode cX9_byteAt 25 = .ok (.goto 8, 3) := by decide +kernel
theorem dX9_byteAt_28 : decode cX9_byteAt 28 = .ok (.aload_n 0, 1) := by decide +kernel
theorem dX9_byteAt_29 : decode cX9_byteAt 29 = .ok (.iconst 1, 1) := by decide +kernel
theorem dX9_byteAt_30 : decode cX9_byteAt 30 = .ok (.invokevirtual 312, 3) := by decide +kernel
theorem dX9_byteAt_33 : decode cX9_byteAt 33 = .ok (.ireturn, 1) := by decide +kernel
theorem dX9_concede_0 : decode cX9_concede 0 = .ok (.aload_n 0, 1) := by decide +kernel
theorem dX9_concede_1 : decode cX9_concede 1 = .ok (.iconst 0, 1) := by decide +kernel
theorem dX9_concede_2 : decode cX9_concede 2 = .ok (.putfield 85, 3) := by decide +kernel
theorem dX9_concede_5 : decode cX9_concede 5 = .ok (.aload_n 0, 1) := by decide +kernel
theorem dX9_concede_6 : decode cX9_concede 6 = .ok (.iload_n 1, 1) := by decide +kernel
theorem dX9_concede_7 : decode cX9_concede 7 = .ok (.invokevirtual 340, 3) := by decide +kernel
theorem dX9_concede_10 : decode cX9_concede 10 = .ok (.ifCond .ne 9, 3) := by decide +kernel
theorem dX9_concede_13 : decode cX9_concede 13 = .ok (.aload_n 0, 1) := by decide +kernel
theorem dX9_concede_14 : decode cX9_concede 14 = .ok (.iconst 1, 1) := by decide +kernel
theorem dX9_concede_15 : decode cX9_concede 15 = .ok (.invokevirtual 312, 3) := by decide +kernel
theorem dX9_concede_18 : decode cX9_concede 18 = .ok (.ireturn, 1) := by decide +kernel
theorem dX9_concede_19 : decode cX9_concede 19 = .ok (.aload_n 0, 1) := by decide +kernel
theorem dX9_concede_20 : decode cX9_concede 20 = .ok (.iload_n 1, 1) := by decide +kernel
theorem dX9_concede_21 : decode cX9_concede 21 = .ok (.aload_n 0, 1) := by decide +kernel
theorem dX9_concede_22 : decode cX9_concede 22 = .ok (.getfield 55, 3) := by decide +kernel
theorem dX9_concede_25 : decode cX9_concede 25 = .ok (.invokevirtual 337, 3) := by decide +kernel
theorem dX9_concede_28 : decode cX9_concede 28 = .ok (.istore_n 2, 1) := by decide +kernel
theorem dX9_concede_29 : decode cX9_concede 29 = .ok (.iconst (-1), 1) := by decide +kernel
theorem dX9_concede_30 : decode cX9_concede 30 = .ok (.istore_n 3, 1) := by decide +kernel
theorem dX9_concede_31 : decode cX9_concede 31 = .ok (.iconst 0, 1) := by decide +kernel
theorem dX9_concede_32 : decode cX9_concede 32 = .ok (.istore 4, 2) := by decide +kernel
theorem dX9_concede_34 : decode cX9_concede 34 = .ok (.iload 4, 2) := by decide +kernel
theorem dX9_concede_36 : decode cX9_concede 36 = .ok (.aload_n 0, 1) := by decide +kernel
theorem dX9_concede_37 : decode cX9_concede 37 = .ok (.getfield 48, 3) := by decide +kernel
theorem dX9_concede_40 : decode cX9_concede 40 = .ok (.getfield 95, 3) := by decide +kernel
theorem dX9_concede_43 : decode cX9_concede 43 = .ok (.if_icmp .ge 50, 3) := by decide +kernel
theorem dX9_concede_46 : decode cX9_concede 46 = .ok (.aload_n 0, 1) := by decide +kernel
theorem dX9_concede_47 : decode cX9_concede 47 = .ok (.getfield 48, 3) := by decide +kernel
theorem dX9_concede_50 : decode cX9_concede 50 = .ok (.getfield 121, 3) := by decide +kernel
theorem dX9_concede_53 : decode cX9_concede 53 = .ok (.iload 4, 2) := by decide +kernel
theorem dX9_concede_55 : decode cX9_concede 55 = .ok (.iaload, 1) := by decide +kernel
theorem dX9_concede_56 : decode cX9_concede 56 = .ok (.iload_n 1, 1) := by decide +kernel
theorem dX9_concede_57 : decode cX9_concede 57 = .ok (.if_icmp .eq 6, 3) := by decide +kernel
theorem dX9_concede_60 : decode cX9_concede 60 = .ok (.goto 27, 3) := by decide +kernel
theorem dX9_concede_63 : decode cX9_concede 63 = .ok (.aload_n 0, 1) := by decide +kernel
theorem dX9_concede_64 : decode cX9_concede 64 = .ok (.iload 4, 2) := by decide +kernel
theorem dX9_concede_66 : decode cX9_concede 66 = .ok (.iload_n 1, 1) := by decide +kernel
theorem dX9_concede_67 : decode cX9_concede 67 = .ok (.invokevirtual 360, 3) := by decide +kernel
theorem dX9_concede_70 : decode cX9_concede 70 = .ok (.istore 5, 2) := by decide +kernel
theorem dX9_concede_72 : decode cX9_concede 72 = .ok (.iload 5, 2) := by decide +kernel
theorem dX9_concede_74 : decode cX9_concede 74 = .ok (.iload_n 2, 1) := by decide +kernel
theorem dX9_concede_75 : decode cX9_concede 75 = .ok (.if_icmp .gt 6, 3) := by decide +kernel
theorem dX9_concede_78 : decode cX9_concede 78 = .ok (.goto 9, 3) := by decide +kernel
theorem dX9_concede_81 : decode cX9_concede 81 = .ok (.iload 5, 2) := by decide +kernel
theorem dX9_concede_83 : decode cX9_concede 83 = .ok (.istore_n 2, 1) := by decide +kernel
theorem dX9_concede_84 : decode cX9_concede 84 = .ok (.iload 4, 2) := by decide +kernel
theorem dX9_concede_86 : decode cX9_concede 86 = .ok (.istore_n 3, 1) := by decide +kernel
theorem dX9_concede_87 : decode cX9_concede 87 = .ok (.iinc 4 1, 3) := by decide +kernel
theorem dX9_concede_90 : decode cX9_concede 90 = .ok (.goto (-56), 3) := by decide +kernel
theorem dX9_concede_93 : decode cX9_concede 93 = .ok (.iload_n 3, 1) := by decide +kernel
theorem dX9_concede_94 : decode cX9_concede 94 = .ok (.ireturn, 1) := by decide +kernel
theorem dX9_conceding_0 : decode cX9_conceding 0 = .ok (.aload_n 0, 1) := by decide +kernel
theorem dX9_conceding_1 : decode cX9_conceding 1 = .ok (.iconst 0, 1) := by decide +kernel
theorem dX9_conceding_2 : decode cX9_conceding 2 = .ok (.putfield 85, 3) := by decide +kernel
theorem dX9_conceding_5 : decode cX9_conceding 5 = .ok (.aload_n 0, 1) := by decide +kernel
theorem dX9_conceding_6 : decode cX9_conceding 6 = .ok (.iload_n 1, 1) := by decide +kernel
theorem dX9_conceding_7 : decode cX9_conceding 7 = .ok (.invokevirtual 348, 3) := by decide +kernel
theorem dX9_conceding_10 : decode cX9_conceding 10 = .ok (.ifCond .eq 11, 3) := by decide +kernel
theorem dX9_conceding_13 : decode cX9_conceding 13 = .ok (.aload_n 0, 1) := by decide +kernel
theorem dX9_conceding_14 : decode cX9_conceding 14 = .ok (.iload_n 2, 1) := by decide +kernel
theorem dX9_conceding_15 : decode cX9_conceding 15 = .ok (.invokevirtual 340, 3) := by decide +kernel
theorem dX9_conceding_18 : decode cX9_conceding 18 = .ok (.ifCond .ne 9, 3) := by decide +kernel
theorem dX9_conceding_21 : decode cX9_conceding 21 = .ok (.aload_n 0, 1) := by decide +kernel
theorem dX9_conceding_22 : decode cX9_conceding 22 = .ok (.iconst 1, 1) := by decide +kernel
theorem dX9_conceding_23 : decode cX9_conceding 23 = .ok (.invokevirtual 312, 3) := by decide +kernel
theorem dX9_conceding_26 : decode cX9_conceding 26 = .ok (.ireturn, 1) := by decide +kernel
theorem dX9_conceding_27 : decode cX9_conceding 27 = .ok (.aload_n 0, 1) := by decide +kernel
theorem dX9_conceding_28 : decode cX9_conceding 28 = .ok (.iload_n 1, 1) := by decide +kernel
theorem dX9_conceding_29 : decode cX9_conceding 29 = .ok (.iload_n 2, 1) := by decide +kernel
theorem dX9_conceding_30 : decode cX9_conceding 30 = .ok (.invokevirtual 360, 3) := by decide +kernel
theorem dX9_conceding_33 : decode cX9_conceding 33 = .ok (.ireturn, 1) := by decide +kernel
theorem dX9_count_0 : decode cX9_count 0 = .ok (.aload_n 0, 1) := by decide +kernel
theorem dX9_count_1 : decode cX9_count 1 = .ok (.iconst 0, 1) := by decide +kernel
theorem dX9_count_2 : decode cX9_count 2 = .ok (.putfield 85, 3) := by decide +kernel
theorem dX9_count_5 : decode cX9_count 5 = .ok (.iload_n 1, 1) := by decide +kernel
theorem dX9_count_6 : decode cX9_count 6 = .ok (.iconst 0, 1) := by decide +kernel
theorem dX9_count_7 : decode cX9_count 7 = .ok (.bipush 11, 2) := by decide +kernel
theorem dX9_count_9 : decode cX9_count 9 = .ok (.invokestatic 91, 3) := by decide +kernel
theorem dX9_count_12 : decode cX9_count 12 = .ok (.ifCond .eq 11, 3) := by decide +kernel
theorem dX9_count_15 : decode cX9_count 15 = .ok (.aload_n 0, 1) := by decide +kernel
theorem dX9_count_16 : decode cX9_count 16 = .ok (.iload_n 1, 1) := by decide +kernel
theorem dX9_count_17 : decode cX9_count 17 = .ok (.invokevirtual 334, 3) := by decide +kernel
theorem dX9_count_20 : decode cX9_count 20 = .ok (.goto 8, 3) := by decide +kernel
theorem dX9_count_23 : decode cX9_count 23 = .ok (.aload_n 0, 1) := by decide +kernel
theorem dX9_count_24 : decode cX9_count 24 = .ok (.iconst 1, 1) := by decide +kernel
theorem dX9_count_25 : decode cX9_count 25 = .ok (.invokevirtual 312, 3) := by decide +kernel
theorem dX9_count_28 : decode cX9_count 28 = .ok (.ireturn, 1) := by decide +kernel
theorem dX9_defends_0 : decode cX9_defends 0 = .ok (.aload_n 0, 1) := by decide +kernel
theorem dX9_defends_1 : decode cX9_defends 1 = .ok (.iconst 0, 1) := by decide +kernel
theorem dX9_defends_2 : decode cX9_defends 2 = .ok (.putfield 85, 3) := by decide +kernel
theorem dX9_defends_5 : decode cX9_defends 5 = .ok (.aload_n 0, 1) := by decide +kernel
theorem dX9_defends_6 : decode cX9_defends 6 = .ok (.iload_n 1, 1) := by decide +kernel
theorem dX9_defends_7 : decode cX9_defends 7 = .ok (.invokevirtual 348, 3) := by decide +kernel
theorem dX9_defends_10 : decode cX9_defends 10 = .ok (.ifCond .eq 11, 3) := by decide +kernel
theorem dX9_defends_13 : decode cX9_defends 13 = .ok (.aload_n 0, 1) := by decide +kernel
theorem dX9_defends_14 : decode cX9_defends 14 = .ok (.iload_n 2, 1) := by decide +kernel
theorem dX9_defends_15 : decode cX9_defends 15 = .ok (.invokevirtual 348, 3) := by decide +kernel
theorem dX9_defends_18 : decode cX9_defends 18 = .ok (.ifCond .ne 17, 3) := by decide +kernel
theorem dX9_defends_21 : decode cX9_defends 21 = .ok (.aload_n 0, 1) := by decide +kernel
theorem dX9_defends_22 : decode cX9_defends 22 = .ok (.iconst 1, 1) := by decide +kernel
theorem dX9_defends_23 : decode cX9_defends 23 = .ok (.invokevirtual 312, 3) := by decide +kernel
theorem dX9_defends_26 : decode cX9_defends 26 = .ok (.ifCond .eq 7, 3) := by decide +kernel
theorem dX9_defends_29 : decode cX9_defends 29 = .ok (.iconst 1, 1) := by decide +kernel
theorem dX9_defends_30 : decode cX9_defends 30 = .ok (.goto 4, 3) := by decide +kernel
theorem dX9_defends_33 : decode cX9_defends 33 = .ok (.iconst 0, 1) := by decide +kernel
theorem dX9_defends_34 : decode cX9_defends 34 = .ok (.ireturn, 1) := by decide +kernel
theorem dX9_defends_35 : decode cX9_defends 35 = .ok (.aload_n 0, 1) := by decide +kernel
theorem dX9_defends_36 : decode cX9_defends 36 = .ok (.getfield 48, 3) := by decide +kernel
theorem dX9_defends_39 : decode cX9_defends 39 = .ok (.iload_n 1, 1) := by decide +kernel
theorem dX9_defends_40 : decode cX9_defends 40 = .ok (.invokevirtual 108, 3) := by decide +kernel
theorem dX9_defends_43 : decode cX9_defends 43 = .ok (.ifCond .eq 13, 3) := by decide +kernel
theorem dX9_defends_46 : decode cX9_defends 46 = .ok (.aload_n 0, 1) := by decide +kernel
theorem dX9_defends_47 : decode cX9_defends 47 = .ok (.getfield 55, 3) := by decide +kernel
theorem dX9_defends_50 : decode cX9_defends 50 = .ok (.iload_n 1, 1) := by decide +kernel
theorem dX9_defends_51 : decode cX9_defends 51 = .ok (.iaload, 1) := by decide +kernel
theorem dX9_defends_52 : decode cX9_defends 52 = .ok (.iconst 1, 1) := by decide +kernel
theorem dX9_defends_53 : decode cX9_defends 53 = .ok (.if_icmp .eq 5, 3) := by decide +kernel
theorem dX9_defends_56 : decode cX9_defends 56 = .ok (.iconst 0, 1) := by decide +kernel
theorem dX9_defends_57 : decode cX9_defends 57 = .ok (.ireturn, 1) := by decide +kernel
theorem dX9_defends_58 : decode cX9_defends 58 = .ok (.aload_n 0, 1) := by decide +kernel
theorem dX9_defends_59 : decode cX9_defends 59 = .ok (.getfield 48, 3) := by decide +kernel
theorem dX9_defends_62 : decode cX9_defends 62 = .ok (.getfield 111, 3) := by decide +kernel
theorem dX9_defends_65 : decode cX9_defends 65 = .ok (.iload_n 1, 1) := by decide +kernel
theorem dX9_defends_66 : decode cX9_defends 66 = .ok (.iaload, 1) := by decide +kernel
theorem dX9_defends_67 : decode cX9_defends 67 = .ok (.istore_n 3, 1) := by decide +kernel
theorem dX9_defends_68 : decode cX9_defends 68 = .ok (.aload_n 0, 1) := by decide +kernel
theorem dX9_defends_69 : decode cX9_defends 69 = .ok (.getfield 48, 3) := by decide +kernel
theorem dX9_defends_72 : decode cX9_defends 72 = .ok (.iload_n 3, 1) := by decide +kernel
theorem dX9_defends_73 : decode cX9_defends 73 = .ok (.invokevirtual 108, 3) := by decide +kernel
theorem dX9_defends_76 : decode cX9_defends 76 = .ok (.ifCond .eq 20, 3) := by decide +kernel
theorem dX9_defends_79 : decode cX9_defends 79 = .ok (.aload_n 0, 1) := by decide +kernel
theorem dX9_defends_80 : decode cX9_defends 80 = .ok (.getfield 48, 3) := by decide +kernel
theorem dX9_defends_83 : decode cX9_defends 83 = .ok (.getfield 111, 3) := by decide +kernel
theorem dX9_defends_86 : decode cX9_defends 86 = .ok (.iload_n 3, 1) := by decide +kernel
theorem dX9_defends_87 : decode cX9_defends 87 = .ok (.iaload, 1) := by decide +kernel
theorem dX9_defends_88 : decode cX9_defends 88 = .ok (.iload_n 2, 1) := by decide +kernel
theorem dX9_defends_89 : decode cX9_defends 89 = .ok (.if_icmp .ne 7, 3) := by decide +kernel
theorem dX9_defends_92 : decode cX9_defends 92 = .ok (.iconst 1, 1) := by decide +kernel
theorem dX9_defends_93 : decode cX9_defends 93 = .ok (.goto 4, 3) := by decide +kernel
theorem dX9_defends_96 : decode cX9_defends 96 = .ok (.iconst 0, 1) := by decide +kernel
theorem dX9_defends_97 : decode cX9_defends 97 = .ok (.ireturn, 1) := by decide +kernel
theorem dX9_errorAt_0 : decode cX9_errorAt 0 = .ok (.aload_n 0, 1) := by decide +kernel
theorem dX9_errorAt_1 : decode cX9_errorAt 1 = .ok (.iconst 0, 1) := by decide +kernel
theorem dX9_errorAt_2 : decode cX9_errorAt 2 = .ok (.putfield 85, 3) := by decide +kernel
theorem dX9_errorAt_5 : decode cX9_errorAt 5 = .ok (.aload_n 0, 1) := by decide +kernel
theorem dX9_errorAt_6 : decode cX9_errorAt 6 = .ok (.getfield 23, 3) := by decide +kernel
theorem dX9_errorAt_9 : decode cX9_errorAt 9 = .ok (.ireturn, 1) := by decide +kernel
theorem dX9_fail_0 : decode cX9_fail 0 = .ok (.aload_n 0, 1) := by decide +kernel
theorem dX9_fail_1 : decode cX9_fail 1 = .ok (.aload_n 0, 1) := by decide +kernel
theorem dX9_fail_2 : decode cX9_fail 2 = .ok (.getfield 37, 3) := by decide +kernel
theorem dX9_fail_5 : decode cX9_fail 5 = .ok (.iload_n 2, 1) := by decide +kernel
theorem dX9_fail_6 : decode cX9_fail 6 = .ok (.iaload, 1) := by decide +kernel
theorem dX9_fail_7 : decode cX9_fail 7 = .ok (.putfield 23, 3) := by decide +kernel
theorem dX9_fail_10 : decode cX9_fail 10 = .ok (.iload_n 1, 1) := by decide +kernel
theorem dX9_fail_11 : decode cX9_fail 11 = .ok (.ireturn, 1) := by decide +kernel
theorem dX9_far_0 : decode cX9_far 0 = .ok (.aload_n 0, 1) := by decide +kernel
theorem dX9_far_1 : decode cX9_far 1 = .ok (.iconst 0, 1) := by decide +kernel
theorem dX9_far_2 : decode cX9_far 2 = .ok (.putfield 85, 3) := by decide +kernel
theorem dX9_far_5 : decode cX9_far 5 = .ok (.aload_n 0, 1) := by decide +kernel
theorem dX9_far_6 : decode cX9_far 6 = .ok (.iload_n 1, 1) := by decide +kernel
theorem dX9_far_7 : decode cX9_far 7 = .ok (.invokevirtual 348, 3) := by decide +kernel
theorem dX9_far_10 : decode cX9_far 10 = .ok (.ifCond .eq 11, 3) := by decide +kernel
theorem dX9_far_13 : decode cX9_far 13 = .ok (.aload_n 0, 1) := by decide +kernel
theorem dX9_far_14 : decode cX9_far 14 = .ok (.iload_n 1, 1) := by decide +kernel
theorem dX9_far_15 : decode cX9_far 15 = .ok (.invokevirtual 357, 3) := by decide +kernel
theorem dX9_far_18 : decode cX9_far 18 = .ok (.goto 8, 3) := by decide +kernel
theorem dX9_far_21 : decode cX9_far 21 = .ok (.aload_n 0, 1) := by decide +kernel
theorem dX9_far_22 : decode cX9_far 22 = .ok (.iconst 1, 1) := by decide +kernel
theorem dX9_far_23 : decode cX9_far 23 = .ok (.invokevirtual 312, 3) := by decide +kernel
theorem dX9_far_26 : decode cX9_far 26 = .ok (.ireturn, 1) := by decide +kernel
theorem dX9_finds_0 : decode cX9_finds 0 = .ok (.aload_n 0, 1) := by decide +kernel
theorem dX9_finds_1 : decode cX9_finds 1 = .ok (.getfield 48, 3) := by decide +kernel
theorem dX9_finds_4 : decode cX9_finds 4 = .ok (.getfield 101, 3) := by decide +kernel
theorem dX9_finds_7 : decode cX9_finds 7 = .ok (.iload_n 1, 1) := by decide +kernel
theorem dX9_finds_8 : decode cX9_finds 8 = .ok (.iaload, 1) := by decide +kernel
theorem dX9_finds_9 : decode cX9_finds 9 = .ok (.istore_n 3, 1) := by decide +kernel
theorem dX9_finds_10 : decode cX9_finds 10 = .ok (.aload_n 0, 1) := by decide +kernel
theorem dX9_finds_11 : decode cX9_finds 11 = .ok (.iload_n 1, 1) := by decide +kernel
theorem dX9_finds_12 : decode cX9_finds 12 = .ok (.invokevirtual 104, 3) := by decide +kernel
theorem dX9_finds_15 : decode cX9_finds 15 = .ok (.ifCond .ne 23, 3) := by decide +kernel
theorem dX9_finds_18 : decode cX9_finds 18 = .ok (.iload_n 1, 1) := by decide +kernel
theorem dX9_finds_19 : decode cX9_finds 19 = .ok (.aload_n 0, 1) := by decide +kernel
theorem dX9_finds_20 : decode cX9_finds 20 = .ok (.getfield 73, 3) := by decide +kernel
theorem dX9_finds_23 : decode cX9_finds 23 = .ok (.if_icmp .eq 15, 3) := by decide +kernel
theorem dX9_finds_26 : decode cX9_finds 26 = .ok (.iload_n 3, 1) := by decide +kernel
theorem dX9_finds_27 : decode cX9_finds 27 = .ok (.iconst (-1), 1) := by decide +kernel
theorem dX9_finds_28 : decode cX9_finds 28 = .ok (.if_icmp .eq 12, 3) := by decide +kernel
theorem dX9_finds_31 : decode cX9_finds 31 = .ok (.aload_n 2, 1) := by decide +kernel
theorem dX9_finds_32 : decode cX9_finds 32 = .ok (.iload_n 3, 1) := by decide +kernel
theorem dX9_finds_33 : decode cX9_finds 33 = .ok (.iaload, 1) := by decide +kernel
theorem dX9_finds_34 : decode cX9_finds 34 = .ok (.iconst 2, 1) := by decide +kernel
theorem dX9_finds_35 : decode cX9_finds 35 = .ok (.if_icmp .ne 5, 3) := by decide +kernel
theorem dX9_finds_38 : decode cX9_finds 38 = .ok (.iconst 2, 1) := by decide +kernel
theorem dX9_finds_39 : decode cX9_finds 39 = .ok (.ireturn, 1) := by decide +kernel
theorem dX9_finds_40 : decode cX9_finds 40 = .ok (.iconst 1, 1) := by decide +kernel
theorem dX9_finds_41 : decode cX9_finds 41 = .ok (.istore 4, 2) := by decide +kernel
theorem dX9_finds_43 : decode cX9_finds 43 = .ok (.aload_n 0, 1) := by decide +kernel
theorem dX9_finds_44 : decode cX9_finds 44 = .ok (.getfield 76, 3) := by decide +kernel
theorem dX9_finds_47 : decode cX9_finds 47 = .ok (.iload_n 1, 1) := by decide +kernel
theorem dX9_finds_48 : decode cX9_finds 48 = .ok (.iaload, 1) := by decide +kernel
theorem dX9_finds_49 : decode cX9_finds 49 = .ok (.istore 5, 2) := by decide +kernel
theorem dX9_finds_51 : decode cX9_finds 51 = .ok (.iload 5, 2) := by decide +kernel
theorem dX9_finds_53 : decode cX9_finds 53 = .ok (.iconst (-1), 1) := by decide +kernel
theorem dX9_finds_54 : decode cX9_finds 54 = .ok (.if_icmp .eq 43, 3) := by decide +kernel
theorem dX9_finds_57 : decode cX9_finds 57 = .ok (.aload_n 2, 1) := by decide +kernel
theorem dX9_finds_58 : decode cX9_finds 58 = .ok (.iload 5, 2) := by decide +kernel
theorem dX9_finds_60 : decode cX9_finds 60 = .ok (.iaload, 1) := by decide +kernel
theorem dX9_finds_61 : decode cX9_finds 61 = .ok (.iconst 1, 1) := by decide +kernel
theorem dX9_finds_62 : decode cX9_finds 62 = .ok (.if_icmp .ne 5, 3) := by decide +kernel
theorem dX9_finds_65 : decode cX9_finds 65 = .ok (.iconst 2, 1) := by decide +kernel
theorem dX9_finds_66 : decode cX9_finds 66 = .ok (.ireturn, 1) := by decide +kernel
theorem dX9_finds_67 : decode cX9_finds 67 = .ok (.iload 4, 2) := by decide +kernel
theorem dX9_finds_69 : decode cX9_finds 69 = .ok (.aload_n 2, 1) := by decide +kernel
theorem dX9_finds_70 : decode cX9_finds 70 = .ok (.iload 5, 2) := by decide +kernel
theorem dX9_finds_72 : decode cX9_finds 72 = .ok (.iaload, 1) := by decide +kernel
theorem dX9_finds_73 : decode cX9_finds 73 = .ok (.iconst 2, 1) := by decide +kernel
theorem dX9_finds_74 : decode cX9_finds 74 = .ok (.if_icmp .ne 7, 3) := by decide +kernel
theorem dX9_finds_77 : decode cX9_finds 77 = .ok (.iconst 1, 1) := by decide +kernel
theorem dX9_finds_78 : decode cX9_finds 78 = .ok (.goto 4, 3) := by decide +kernel
theorem dX9_finds_81 : decode cX9_finds 81 = .ok (.iconst 0, 1) := by decide +kernel
theorem dX9_finds_82 : decode cX9_finds 82 = .ok (.iand, 1) := by decide +kernel
theorem dX9_finds_83 : decode cX9_finds 83 = .ok (.istore 4, 2) := by decide +kernel
theorem dX9_finds_85 : decode cX9_finds 85 = .ok (.aload_n 0, 1) := by decide +kernel
theorem dX9_finds_86 : decode cX9_finds 86 = .ok (.getfield 79, 3) := by decide +kernel
theorem dX9_finds_89 : decode cX9_finds 89 = .ok (.iload 5, 2) := by decide +kernel
theorem dX9_finds_91 : decode cX9_finds 91 = .ok (.iaload, 1) := by decide +kernel
theorem dX9_finds_92 : decode cX9_finds 92 = .ok (.istore 5, 2) := by decide +kernel
theorem dX9_finds_94 : decode cX9_finds 94 = .ok (.goto (-43), 3) := by decide +kernel
theorem dX9_finds_97 : decode cX9_finds 97 = .ok (.iload 4, 2) := by decide +kernel
theorem dX9_finds_99 : decode cX9_finds 99 = .ok (.ifCond .eq 19, 3) := by decide +kernel
theorem dX9_finds_102 : decode cX9_finds 102 = .ok (.iload_n 3, 1) := by decide +kernel
theorem dX9_finds_103 : decode cX9_finds 103 = .ok (.iconst (-1), 1) := by decide +kernel
theorem dX9_finds_104 : decode cX9_finds 104 = .ok (.if_icmp .eq 10, 3) := by decide +kernel
theorem dX9_finds_107 : decode cX9_finds 107 = .ok (.aload_n 2, 1) := by decide +kernel
theorem dX9_finds_108 : decode cX9_finds 108 = .ok (.iload_n 3, 1) := by decide +kernel
theorem dX9_finds_109 : decode cX9_finds 109 = .ok (.iaload, 1) := by decide +kernel
theorem dX9_finds_110 : decode cX9_finds 110 = .ok (.iconst 1, 1) := by decide +kernel
theorem dX9_finds_111 : decode cX9_finds 111 = .ok (.if_icmp .ne 7, 3) := by decide +kernel
theorem dX9_finds_114 : decode cX9_finds 114 = .ok (.iconst 1, 1) := by decide +kernel
theorem dX9_finds_115 : decode cX9_finds 115 = .ok (.goto 4, 3) := by decide +kernel
theorem dX9_finds_118 : decode cX9_finds 118 = .ok (.iconst 0, 1) := by decide +kernel
theorem dX9_finds_119 : decode cX9_finds 119 = .ok (.ireturn, 1) := by decide +kernel
theorem dX9_frees_0 : decode cX9_frees 0 = .ok (.aload_n 0, 1) := by decide +kernel
theorem dX9_frees_1 : decode cX9_frees 1 = .ok (.iconst 0, 1) := by decide +kernel
theorem dX9_frees_2 : decode cX9_frees 2 = .ok (.putfield 85, 3) := by decide +kernel
theorem dX9_frees_5 : decode cX9_frees 5 = .ok (.aload_n 0, 1) := by decide +kernel
theorem dX9_frees_6 : decode cX9_frees 6 = .ok (.iload_n 1, 1) := by decide +kernel
theorem dX9_frees_7 : decode cX9_frees 7 = .ok (.invokevirtual 348, 3) := by decide +kernel
theorem dX9_frees_10 : decode cX9_frees 10 = .ok (.ifCond .ne 9, 3) := by decide +kernel
theorem dX9_frees_13 : decode cX9_frees 13 = .ok (.aload_n 0, 1) := by decide +kernel
theorem dX9_frees_14 : decode cX9_frees 14 = .ok (.iconst 1, 1) := by decide +kernel
theorem dX9_frees_15 : decode cX9_frees 15 = .ok (.invokevirtual 312, 3) := by decide +kernel
theorem dX9_frees_18 : decode cX9_frees 18 = .ok (.ireturn, 1) := by decide +kernel
theorem dX9_frees_19 : decode cX9_frees 19 = .ok (.aload_n 0, 1) := by decide +kernel
theorem dX9_frees_20 : decode cX9_frees 20 = .ok (.getfield 55, 3) := by decide +kernel
theorem dX9_frees_23 : decode cX9_frees 23 = .ok (.iload_n 1, 1) := by decide +kernel
theorem dX9_frees_24 : decode cX9_frees 24 = .ok (.iaload, 1) := by decide +kernel
theorem dX9_frees_25 : decode cX9_frees 25 = .ok (.iconst 1, 1) := by decide +kernel
theorem dX9_frees_26 : decode cX9_frees 26 = .ok (.if_icmp .ne 5, 3) := by decide +kernel
theorem dX9_frees_29 : decode cX9_frees 29 = .ok (.iconst 0, 1) := by decide +kernel
theorem dX9_frees_30 : decode cX9_frees 30 = .ok (.ireturn, 1) := by decide +kernel
theorem dX9_frees_31 : decode cX9_frees 31 = .ok (.aload_n 0, 1) := by decide +kernel
theorem dX9_frees_32 : decode cX9_frees 32 = .ok (.iload_n 1, 1) := by decide +kernel
theorem dX9_frees_33 : decode cX9_frees 33 = .ok (.invokevirtual 369, 3) := by decide +kernel
theorem dX9_frees_36 : decode cX9_frees 36 = .ok (.istore_n 2, 1) := by decide +kernel
theorem dX9_frees_37 : decode cX9_frees 37 = .ok (.aload_n 0, 1) := by decide +kernel
theorem dX9_frees_38 : decode cX9_frees 38 = .ok (.iconst (-1), 1) := by decide +kernel
theorem dX9_frees_39 : decode cX9_frees 39 = .ok (.putfield 67, 3) := by decide +kernel
theorem dX9_frees_42 : decode cX9_frees 42 = .ok (.aload_n 0, 1) := by decide +kernel
theorem dX9_frees_43 : decode cX9_frees 43 = .ok (.iconst (-1), 1) := by decide +kernel
theorem dX9_frees_44 : decode cX9_frees 44 = .ok (.putfield 70, 3) := by decide +kernel
theorem dX9_frees_47 : decode cX9_frees 47 = .ok (.iload_n 2, 1) := by decide +kernel
theorem dX9_frees_48 : decode cX9_frees 48 = .ok (.ireturn, 1) := by decide +kernel
theorem dX9_give_0 : decode cX9_give 0 = .ok (.aload_n 0, 1) := by decide +kernel
theorem dX9_give_1 : decode cX9_give 1 = .ok (.iconst 0, 1) := by decide +kernel
theorem dX9_give_2 : decode cX9_give 2 = .ok (.putfield 85, 3) := by decide +kernel
theorem dX9_give_5 : decode cX9_give 5 = .ok (.aload_n 0, 1) := by decide +kernel
theorem dX9_give_6 : decode cX9_give 6 = .ok (.iload_n 1, 1) := by decide +kernel
theorem dX9_give_7 : decode cX9_give 7 = .ok (.invokevirtual 340, 3) := by decide +kernel
theorem dX9_give_10 : decode cX9_give 10 = .ok (.ifCond .ne 9, 3) := by decide +kernel
theorem dX9_give_13 : decode cX9_give 13 = .ok (.aload_n 0, 1) := by decide +kernel
theorem dX9_give_14 : decode cX9_give 14 = .ok (.iconst 1, 1) := by decide +kernel
theorem dX9_give_15 : decode cX9_give 15 = .ok (.invokevirtual 312, 3) := by decide +kernel
theorem dX9_give_18 : decode cX9_give 18 = .ok (.ireturn, 1) := by decide +kernel
theorem dX9_give_19 : decode cX9_give 19 = .ok (.iload_n 2, 1) := by decide +kernel
theorem dX9_give_20 : decode cX9_give 20 = .ok (.iconst 1, 1) := by decide +kernel
theorem dX9_give_21 : decode cX9_give 21 = .ok (.sipush 3600, 3) := by decide +kernel
theorem dX9_give_24 : decode cX9_give 24 = .ok (.invokestatic 91, 3) := by decide +kernel
theorem dX9_give_27 : decode cX9_give 27 = .ok (.ifCond .ne 9, 3) := by decide +kernel
theorem dX9_give_30 : decode cX9_give 30 = .ok (.aload_n 0, 1) := by decide +kernel
theorem dX9_give_31 : decode cX9_give 31 = .ok (.iconst 2, 1) := by decide +kernel
theorem dX9_give_32 : decode cX9_give 32 = .ok (.invokevirtual 312, 3) := by decide +kernel
theorem dX9_give_35 : decode cX9_give 35 = .ok (.ireturn, 1) := by decide +kernel
theorem dX9_give_36 : decode cX9_give 36 = .ok (.aload_n 0, 1) := by decide +kernel
theorem dX9_give_37 : decode cX9_give 37 = .ok (.getfield 48, 3) := by decide +kernel
theorem dX9_give_40 : decode cX9_give 40 = .ok (.getfield 118, 3) := by decide +kernel
theorem dX9_give_43 : decode cX9_give 43 = .ok (.iload_n 1, 1) := by decide +kernel
theorem dX9_give_44 : decode cX9_give 44 = .ok (.dup2, 1) := by decide +kernel
theorem dX9_give_45 : decode cX9_give 45 = .ok (.iaload, 1) := by decide +kernel
theorem dX9_give_46 : decode cX9_give 46 = .ok (.iload_n 2, 1) := by decide +kernel
theorem dX9_give_47 : decode cX9_give 47 = .ok (.iadd, 1) := by decide +kernel
theorem dX9_give_48 : decode cX9_give 48 = .ok (.iastore, 1) := by decide +kernel
theorem dX9_give_49 : decode cX9_give 49 = .ok (.aload_n 0, 1) := by decide +kernel
theorem dX9_give_50 : decode cX9_give 50 = .ok (.getfield 48, 3) := by decide +kernel
theorem dX9_give_53 : decode cX9_give 53 = .ok (.getfield 118, 3) := by decide +kernel
theorem dX9_give_56 : decode cX9_give 56 = .ok (.iload_n 1, 1) := by decide +kernel
theorem dX9_give_57 : decode cX9_give 57 = .ok (.iaload, 1) := by decide +kernel
theorem dX9_give_58 : decode cX9_give 58 = .ok (.ireturn, 1) := by decide +kernel
theorem dX9_isConceded_0 : decode cX9_isConceded 0 = .ok (.aload_n 0, 1) := by decide +kernel
theorem dX9_isConceded_1 : decode cX9_isConceded 1 = .ok (.getfield 48, 3) := by decide +kernel
theorem dX9_isConceded_4 : decode cX9_isConceded 4 = .ok (.getfield 98, 3) := by decide +kernel
theorem dX9_isConceded_7 : decode cX9_isConceded 7 = .ok (.iload_n 1, 1) := by decide +kernel
theorem dX9_isConceded_8 : decode cX9_isConceded 8 = .ok (.iaload, 1) := by decide +kernel
theorem dX9_isConceded_9 : decode cX9_isConceded 9 = .ok (.iconst 1, 1) := by decide +kernel
theorem dX9_isConceded_10 : decode cX9_isConceded 10 = .ok (.if_icmp .eq 19, 3) := by decide +kernel
theorem dX9_isConceded_13 : decode cX9_isConceded 13 = .ok (.iload_n 1, 1) := by decide +kernel
theorem dX9_isConceded_14 : decode cX9_isConceded 14 = .ok (.aload_n 0, 1) := by decide +kernel
theorem dX9_isConceded_15 : decode cX9_isConceded 15 = .ok (.getfield 67, 3) := by decide +kernel
theorem dX9_isConceded_18 : decode cX9_isConceded 18 = .ok (.if_icmp .eq 11, 3) := by decide +kernel
theorem dX9_isConceded_21 : decode cX9_isConceded 21 = .ok (.iload_n 1, 1) := by decide +kernel
theorem dX9_isConceded_22 : decode cX9_isConceded 22 = .ok (.aload_n 0, 1) := by decide +kernel
theorem dX9_isConceded_23 : decode cX9_isConceded 23 = .ok (.getfield 70, 3) := by decide +kernel
theorem dX9_isConceded_26 : decode cX9_isConceded 26 = .ok (.if_icmp .ne 7, 3) := by decide +kernel
theorem dX9_isConceded_29 : decode cX9_isConceded 29 = .ok (.iconst 1, 1) := by decide +kernel
theorem dX9_isConceded_30 : decode cX9_isConceded 30 = .ok (.goto 4, 3) := by decide +kernel
theorem dX9_isConceded_33 : decode cX9_isConceded 33 = .ok (.iconst 0, 1) := by decide +kernel
theorem dX9_isConceded_34 : decode cX9_isConceded 34 = .ok (.ireturn, 1) := by decide +kernel
theorem dX9_isDigit_0 : decode cX9_isDigit 0 = .ok (.iload_n 0, 1) := by decide +kernel
theorem dX9_isDigit_1 : decode cX9_isDigit 1 = .ok (.bipush 48, 2) := by decide +kernel
theorem dX9_isDigit_3 : decode cX9_isDigit 3 = .ok (.if_icmp .lt 13, 3) := by decide +kernel
theorem dX9_isDigit_6 : decode cX9_isDigit 6 = .ok (.iload_n 0, 1) := by decide +kernel
theorem dX9_isDigit_7 : decode cX9_isDigit 7 = .ok (.bipush 57, 2) := by decide +kernel
theorem dX9_isDigit_9 : decode cX9_isDigit 9 = .ok (.if_icmp .gt 7, 3) := by decide +kernel
theorem dX9_isDigit_12 : decode cX9_isDigit 12 = .ok (.iconst 1, 1) := by decide +kernel
theorem dX9_isDigit_13 : decode cX9_isDigit 13 = .ok (.goto 4, 3) := by decide +kernel
theorem dX9_isDigit_16 : decode cX9_isDigit 16 = .ok (.iconst 0, 1) := by decide +kernel
theorem dX9_isDigit_17 : decode cX9_isDigit 17 = .ok (.ireturn, 1) := by decide +kernel
theorem dX9_isIn_0 : decode cX9_isIn 0 = .ok (.iload_n 0, 1) := by decide +kernel
theorem dX9_isIn_1 : decode cX9_isIn 1 = .ok (.iload_n 1, 1) := by decide +kernel
theorem dX9_isIn_2 : decode cX9_isIn 2 = .ok (.if_icmp .lt 12, 3) := by decide +kernel
theorem dX9_isIn_5 : decode cX9_isIn 5 = .ok (.iload_n 0, 1) := by decide +kernel
theorem dX9_isIn_6 : decode cX9_isIn 6 = .ok (.iload_n 2, 1) := by decide +kernel
theorem dX9_isIn_7 : decode cX9_isIn 7 = .ok (.if_icmp .gt 7, 3) := by decide +kernel
theorem dX9_isIn_10 : decode cX9_isIn 10 = .ok (.iconst 1, 1) := by decide +kernel
theorem dX9_isIn_11 : decode cX9_isIn 11 = .ok (.goto 4, 3) := by decide +kernel
theorem dX9_isIn_14 : decode cX9_isIn 14 = .ok (.iconst 0, 1) := by decide +kernel
theorem dX9_isIn_15 : decode cX9_isIn 15 = .ok (.ireturn, 1) := by decide +kernel
theorem dX9_isItem_0 : decode cX9_isItem 0 = .ok (.iload_n 1, 1) := by decide +kernel
theorem dX9_isItem_1 : decode cX9_isItem 1 = .ok (.iconst 0, 1) := by decide +kernel
theorem dX9_isItem_2 : decode cX9_isItem 2 = .ok (.aload_n 0, 1) := by decide +kernel
theorem dX9_isItem_3 : decode cX9_isItem 3 = .ok (.getfield 48, 3) := by decide +kernel
theorem dX9_isItem_6 : decode cX9_isItem 6 = .ok (.getfield 95, 3) := by decide +kernel
theorem dX9_isItem_9 : decode cX9_isItem 9 = .ok (.iconst 1, 1) := by decide +kernel
theorem dX9_isItem_10 : decode cX9_isItem 10 = .ok (.isub, 1) := by decide +kernel
theorem dX9_isItem_11 : decode cX9_isItem 11 = .ok (.invokestatic 91, 3) := by decide +kernel
theorem dX9_isItem_14 : decode cX9_isItem 14 = .ok (.ireturn, 1) := by decide +kernel
theorem dX9_isLetter_0 : decode cX9_isLetter 0 = .ok (.iload_n 0, 1) := by decide +kernel
theorem dX9_isLetter_1 : decode cX9_isLetter 1 = .ok (.bipush 97, 2) := by decide +kernel
theorem dX9_isLetter_3 : decode cX9_isLetter 3 = .ok (.if_icmp .lt 13, 3) := by decide +kernel
theorem dX9_isLetter_6 : decode cX9_isLetter 6 = .ok (.iload_n 0, 1) := by decide +kernel
theorem dX9_isLetter_7 : decode cX9_isLetter 7 = .ok (.bipush 122, 2) := by decide +kernel
theorem dX9_isLetter_9 : decode cX9_isLetter 9 = .ok (.if_icmp .gt 7, 3) := by decide +kernel
theorem dX9_isLetter_12 : decode cX9_isLetter 12 = .ok (.iconst 1, 1) := by decide +kernel
theorem dX9_isLetter_13 : decode cX9_isLetter 13 = .ok (.goto 4, 3) := by decide +kernel
theorem dX9_isLetter_16 : decode cX9_isLetter 16 = .ok (.iconst 0, 1) := by decide +kernel
theorem dX9_isLetter_17 : decode cX9_isLetter 17 = .ok (.ireturn, 1) := by decide +kernel
theorem dX9_isSpeaker_0 : decode cX9_isSpeaker 0 = .ok (.iload_n 1, 1) := by decide +kernel
theorem dX9_isSpeaker_1 : decode cX9_isSpeaker 1 = .ok (.iconst 0, 1) := by decide +kernel
theorem dX9_isSpeaker_2 : decode cX9_isSpeaker 2 = .ok (.aload_n 0, 1) := by decide +kernel
theorem dX9_isSpeaker_3 : decode cX9_isSpeaker 3 = .ok (.getfield 48, 3) := by decide +kernel
theorem dX9_isSpeaker_6 : decode cX9_isSpeaker 6 = .ok (.getfield 88, 3) := by decide +kernel
theorem dX9_isSpeaker_9 : decode cX9_isSpeaker 9 = .ok (.iconst 1, 1) := by decide +kernel
theorem dX9_isSpeaker_10 : decode cX9_isSpeaker 10 = .ok (.isub, 1) := by decide +kernel
theorem dX9_isSpeaker_11 : decode cX9_isSpeaker 11 = .ok (.invokestatic 91, 3) := by decide +kernel
theorem dX9_isSpeaker_14 : decode cX9_isSpeaker 14 = .ok (.ireturn, 1) := by decide +kernel
theorem dX9_isSymbol_0 : decode cX9_isSymbol 0 = .ok (.aload_n 0, 1) := by decide +kernel
theorem dX9_isSymbol_1 : decode cX9_isSymbol 1 = .ok (.getfield 34, 3) := by decide +kernel
theorem dX9_isSymbol_4 : decode cX9_isSymbol 4 = .ok (.aload_n 0, 1) := by decide +kernel
theorem dX9_isSymbol_5 : decode cX9_isSymbol 5 = .ok (.getfield 168, 3) := by decide +kernel
theorem dX9_isSymbol_8 : decode cX9_isSymbol 8 = .ok (.iaload, 1) := by decide +kernel
theorem dX9_isSymbol_9 : decode cX9_isSymbol 9 = .ok (.iconst 4, 1) := by decide +kernel
theorem dX9_isSymbol_10 : decode cX9_isSymbol 10 = .ok (.if_icmp .ne 22, 3) := by decide +kernel
theorem dX9_isSymbol_13 : decode cX9_isSymbol 13 = .ok (.aload_n 0, 1) := by decide +kernel
theorem dX9_isSymbol_14 : decode cX9_isSymbol 14 = .ok (.getfield 40, 3) := by decide +kernel
theorem dX9_isSymbol_17 : decode cX9_isSymbol 17 = .ok (.aload_n 0, 1) := by decide +kernel
theorem dX9_isSymbol_18 : decode cX9_isSymbol 18 = .ok (.getfield 168, 3) := by decide +kernel
theorem dX9_isSymbol_21 : decode cX9_isSymbol 21 = .ok (.laload, 1) := by decide +kernel
theorem dX9_isSymbol_22 : decode cX9_isSymbol 22 = .ok (.iload_n 1, 1) := by decide +kernel
theorem dX9_isSymbol_23 : decode cX9_isSymbol 23 = .ok (.i2l, 1) := by decide +kernel
theorem dX9_isSymbol_24 : decode cX9_isSymbol 24 = .ok (.lcmp, 1) := by decide +kernel
theorem dX9_isSymbol_25 : decode cX9_isSymbol 25 = .ok (.ifCond .ne 7, 3) := by decide +kernel
theorem dX9_isSymbol_28 : decode cX9_isSymbol 28 = .ok (.iconst 1, 1) := by decide +kernel
theorem dX9_isSymbol_29 : decode cX9_isSymbol 29 = .ok (.goto 4, 3) := by decide +kernel
theorem dX9_isSymbol_32 : decode cX9_isSymbol 32 = .ok (.iconst 0, 1) := by decide +kernel
theorem dX9_isSymbol_33 : decode cX9_isSymbol 33 = .ok (.ireturn, 1) := by decide +kernel
theorem dX9_item_0 : decode cX9_item 0 = .ok (.aload_n 0, 1) := by decide +kernel
theorem dX9_item_1 : decode cX9_item 1 = .ok (.iconst 0, 1) := by decide +kernel
theorem dX9_item_2 : decode cX9_item 2 = .ok (.putfield 85, 3) := by decide +kernel
theorem dX9_item_5 : decode cX9_item 5 = .ok (.aload_n 0, 1) := by decide +kernel
theorem dX9_item_6 : decode cX9_item 6 = .ok (.iload_n 1, 1) := by decide +kernel
theorem dX9_item_7 : decode cX9_item 7 = .ok (.invokevirtual 348, 3) := by decide +kernel
theorem dX9_item_10 : decode cX9_item 10 = .ok (.ifCond .eq 22, 3) := by decide +kernel
theorem dX9_item_13 : decode cX9_item 13 = .ok (.iload_n 2, 1) := by decide +kernel
theorem dX9_item_14 : decode cX9_item 14 = .ok (.iconst 0, 1) := by decide +kernel
theorem dX9_item_15 : decode cX9_item 15 = .ok (.bipush 10, 2) := by decide +kernel
theorem dX9_item_17 : decode cX9_item 17 = .ok (.invokestatic 91, 3) := by decide +kernel
theorem dX9_item_20 : decode cX9_item 20 = .ok (.ifCond .eq 12, 3) := by decide +kernel
theorem dX9_item_23 : decode cX9_item 23 = .ok (.aload_n 0, 1) := by decide +kernel
theorem dX9_item_24 : decode cX9_item 24 = .ok (.iload_n 1, 1) := by decide +kernel
theorem dX9_item_25 : decode cX9_item 25 = .ok (.iload_n 2, 1) := by decide +kernel
theorem dX9_item_26 : decode cX9_item 26 = .ok (.invokevirtual 351, 3) := by decide +kernel
theorem dX9_item_29 : decode cX9_item 29 = .ok (.goto 8, 3) := by decide +kernel
theorem dX9_item_32 : decode cX9_item 32 = .ok (.aload_n 0, 1) := by decide +kernel
theorem dX9_item_33 : decode cX9_item 33 = .ok (.iconst 1, 1) := by decide +kernel
theorem dX9_item_34 : decode cX9_item 34 = .ok (.invokevirtual 312, 3) := by decide +kernel
theorem dX9_item_37 : decode cX9_item 37 = .ok (.ireturn, 1) := by decide +kernel
theorem dX9_itemTold_0 : decode cX9_itemTold 0 = .ok (.iload_n 2, 1) := by decide +kernel
theorem dX9_itemTold_1 : decode cX9_itemTold 1 = .ok (.tableswitch 153 0 9 #[55, 65, 75, 85, 95, 105, 112, 119, 129, 146], 55) := by decide +kernel
theorem dX9_itemTold_56 : decode cX9_itemTold 56 = .ok (.aload_n 0, 1) := by decide +kernel
theorem dX9_itemTold_57 : decode cX9_itemTold 57 = .ok (.getfield 48, 3) := by decide +kernel
theorem dX9_itemTold_60 : decode cX9_itemTold 60 = .ok (.getfield 124, 3) := by decide +kernel
theorem dX9_itemTold_63 : decode cX9_itemTold 63 = .ok (.iload_n 1, 1) := by decide +kernel
theorem dX9_itemTold_64 : decode cX9_itemTold 64 = .ok (.iaload, 1) := by decide +kernel
theorem dX9_itemTold_65 : decode cX9_itemTold 65 = .ok (.ireturn, 1) := by decide +kernel
theorem dX9_itemTold_66 : decode cX9_itemTold 66 = .ok (.aload_n 0, 1) := by decide +kernel
theorem dX9_itemTold_67 : decode cX9_itemTold 67 = .ok (.getfield 48, 3) := by decide +kernel
theorem dX9_itemTold_70 : decode cX9_itemTold 70 = .ok (.getfield 121, 3) := by decide +kernel
theorem dX9_itemTold_73 : decode cX9_itemTold 73 = .ok (.iload_n 1, 1) := by decide +kernel
theorem dX9_itemTold_74 : decode cX9_itemTold 74 = .ok (.iaload, 1) := by decide +kernel
theorem dX9_itemTold_75 : decode cX9_itemTold 75 = .ok (.ireturn, 1) := by decide +kernel
theorem dX9_itemTold_76 : decode cX9_itemTold 76 = .ok (.aload_n 0, 1) := by decide +kernel
theorem dX9_itemTold_77 : decode cX9_itemTold 77 = .ok (.getfield 48, 3) := by decide +kernel
theorem dX9_itemTold_80 : decode cX9_itemTold 80 = .ok (.getfield 127, 3) := by decide +kernel
theorem dX9_itemTold_83 : decode cX9_itemTold 83 = .ok (.iload_n 1, 1) := by decide +kernel
theorem dX9_itemTold_84 : decode cX9_itemTold 84 = .ok (.iaload, 1) := by decide +kernel
theorem dX9_itemTold_85 : decode cX9_itemTold 85 = .ok (.ireturn, 1) := by decide +kernel
theorem dX9_itemTold_86 : decode cX9_itemTold 86 = .ok (.aload_n 0, 1) := by decide +kernel
theorem dX9_itemTold_87 : decode cX9_itemTold 87 = .ok (.getfield 48, 3) := by decide +kernel
theorem dX9_itemTold_90 : decode cX9_itemTold 90 = .ok (.getfield 101, 3) := by decide +kernel
theorem dX9_itemTold_93 : decode cX9_itemTold 93 = .ok (.iload_n 1, 1) := by decide +kernel
theorem dX9_itemTold_94 : decode cX9_itemTold 94 = .ok (.iaload, 1) := by decide +kernel
theorem dX9_itemTold_95 : decode cX9_itemTold 95 = .ok (.ireturn, 1) := by decide +kernel
theorem dX9_itemTold_96 : decode cX9_itemTold 96 = .ok (.aload_n 0, 1) := by decide +kernel
theorem dX9_itemTold_97 : decode cX9_itemTold 97 = .ok (.getfield 48, 3) := by decide +kernel
theorem dX9_itemTold_100 : decode cX9_itemTold 100 = .ok (.getfield 111, 3) := by decide +kernel
theorem dX9_itemTold_103 : decode cX9_itemTold 103 = .ok (.iload_n 1, 1) := by decide +kernel
theorem dX9_itemTold_104 : decode cX9_itemTold 104 = .ok (.iaload, 1) := by decide +kernel
theorem dX9_itemTold_105 : decode cX9_itemTold 105 = .ok (.ireturn, 1) := by decide +kernel
theorem dX9_itemTold_106 : decode cX9_itemTold 106 = .ok (.aload_n 0, 1) := by decide +kernel
theorem dX9_itemTold_107 : decode cX9_itemTold 107 = .ok (.getfield 55, 3) := by decide +kernel
theorem dX9_itemTold_110 : decode cX9_itemTold 110 = .ok (.iload_n 1, 1) := by decide +kernel
theorem dX9_itemTold_111 : decode cX9_itemTold 111 = .ok (.iaload, 1) := by decide +kernel
theorem dX9_itemTold_112 : decode cX9_itemTold 112 = .ok (.ireturn, 1) := by decide +kernel
theorem dX9_itemTold_113 : decode cX9_itemTold 113 = .ok (.aload_n 0, 1) := by decide +kernel
theorem dX9_itemTold_114 : decode cX9_itemTold 114 = .ok (.getfield 58, 3) := by decide +kernel
theorem dX9_itemTold_117 : decode cX9_itemTold 117 = .ok (.iload_n 1, 1) := by decide +kernel
theorem dX9_itemTold_118 : decode cX9_itemTold 118 = .ok (.iaload, 1) := by decide +kernel
theorem dX9_itemTold_119 : decode cX9_itemTold 119 = .ok (.ireturn, 1) := by decide +kernel
theorem dX9_itemTold_120 : decode cX9_itemTold 120 = .ok (.aload_n 0, 1) := by decide +kernel
theorem dX9_itemTold_121 : decode cX9_itemTold 121 = .ok (.getfield 48, 3) := by decide +kernel
theorem dX9_itemTold_124 : decode cX9_itemTold 124 = .ok (.getfield 98, 3) := by decide +kernel
theorem dX9_itemTold_127 : decode cX9_itemTold 127 = .ok (.iload_n 1, 1) := by decide +kernel
theorem dX9_itemTold_128 : decode cX9_itemTold 128 = .ok (.iaload, 1) := by decide +kernel
theorem dX9_itemTold_129 : decode cX9_itemTold 129 = .ok (.ireturn, 1) := by decide +kernel
theorem dX9_itemTold_130 : decode cX9_itemTold 130 = .ok (.aload_n 0, 1) := by decide +kernel
theorem dX9_itemTold_131 : decode cX9_itemTold 131 = .ok (.getfield 48, 3) := by decide +kernel
theorem dX9_itemTold_134 : decode cX9_itemTold 134 = .ok (.iload_n 1, 1) := by decide +kernel
theorem dX9_itemTold_135 : decode cX9_itemTold 135 = .ok (.invokevirtual 108, 3) := by decide +kernel
theorem dX9_itemTold_138 : decode cX9_itemTold 138 = .ok (.ifCond .eq 7, 3) := by decide +kernel
theorem dX9_itemTold_141 : decode cX9_itemTold 141 = .ok (.iconst 1, 1) := by decide +kernel
theorem dX9_itemTold_142 : decode cX9_itemTold 142 = .ok (.goto 4, 3) := by decide +kernel
theorem dX9_itemTold_145 : decode cX9_itemTold 145 = .ok (.iconst 0, 1) := by decide +kernel
theorem dX9_itemTold_146 : decode cX9_itemTold 146 = .ok (.ireturn, 1) := by decide +kernel
theorem dX9_itemTold_147 : decode cX9_itemTold 147 = .ok (.aload_n 0, 1) := by decide +kernel
theorem dX9_itemTold_148 : decode cX9_itemTold 148 = .ok (.iload_n 1, 1) := by decide +kernel
theorem dX9_itemTold_149 : decode cX9_itemTold 149 = .ok (.iconst 1, 1) := by decide +kernel
theorem dX9_itemTold_150 : decode cX9_itemTold 150 = .ok (.invokevirtual 346, 3) := by decide +kernel
theorem dX9_itemTold_153 : decode cX9_itemTold 153 = .ok (.ireturn, 1) := by decide +kernel
theorem dX9_itemTold_154 : decode cX9_itemTold 154 = .ok (.aload_n 0, 1) := by decide +kernel
theorem dX9_itemTold_155 : decode cX9_itemTold 155 = .ok (.iload_n 1, 1) := by decide +kernel
theorem dX9_itemTold_156 : decode cX9_itemTold 156 = .ok (.iconst 2, 1) := by decide +kernel
theorem dX9_itemTold_157 : decode cX9_itemTold 157 = .ok (.invokevirtual 346, 3) := by decide +kernel
theorem dX9_itemTold_160 : decode cX9_itemTold 160 = .ok (.ireturn, 1) := by decide +kernel
theorem dX9_least_0 : decode cX9_least 0 = .ok (.aload_n 0, 1) := by decide +kernel
theorem dX9_least_1 : decode cX9_least 1 = .ok (.iconst 0, 1) := by decide +kernel
theorem dX9_least_2 : decode cX9_least 2 = .ok (.putfield 85, 3) := by decide +kernel
theorem dX9_least_5 : decode cX9_least 5 = .ok (.aload_n 0, 1) := by decide +kernel
theorem dX9_least_6 : decode cX9_least 6 = .ok (.iload_n 1, 1) := by decide +kernel
theorem dX9_least_7 : decode cX9_least 7 = .ok (.invokevirtual 348, 3) := by decide +kernel
theorem dX9_least_10 : decode cX9_least 10 = .ok (.ifCond .eq 11, 3) := by decide +kernel
theorem dX9_least_13 : decode cX9_least 13 = .ok (.aload_n 0, 1) := by decide +kernel
theorem dX9_least_14 : decode cX9_least 14 = .ok (.iload_n 1, 1) := by decide +kernel
theorem dX9_least_15 : decode cX9_least 15 = .ok (.invokevirtual 363, 3) := by decide +kernel
theorem dX9_least_18 : decode cX9_least 18 = .ok (.goto 8, 3) := by decide +kernel
theorem dX9_least_21 : decode cX9_least 21 = .ok (.aload_n 0, 1) := by decide +kernel
theorem dX9_least_22 : decode cX9_least 22 = .ok (.iconst 1, 1) := by decide +kernel
theorem dX9_least_23 : decode cX9_least 23 = .ok (.invokevirtual 312, 3) := by decide +kernel
theorem dX9_least_26 : decode cX9_least 26 = .ok (.ireturn, 1) := by decide +kernel
theorem dX9_leastOf_0 : decode cX9_leastOf 0 = .ok (.aload_n 0, 1) := by decide +kernel
theorem dX9_leastOf_1 : decode cX9_leastOf 1 = .ok (.getfield 48, 3) := by decide +kernel
theorem dX9_leastOf_4 : decode cX9_leastOf 4 = .ok (.getfield 124, 3) := by decide +kernel
theorem dX9_leastOf_7 : decode cX9_leastOf 7 = .ok (.iload_n 1, 1) := by decide +kernel
theorem dX9_leastOf_8 : decode cX9_leastOf 8 = .ok (.iaload, 1) := by decide +kernel
theorem dX9_leastOf_9 : decode cX9_leastOf 9 = .ok (.ifCond .ne 19, 3) := by decide +kernel
theorem dX9_leastOf_12 : decode cX9_leastOf 12 = .ok (.aload_n 0, 1) := by decide +kernel
theorem dX9_leastOf_13 : decode cX9_leastOf 13 = .ok (.getfield 48, 3) := by decide +kernel
theorem dX9_leastOf_16 : decode cX9_leastOf 16 = .ok (.getfield 127, 3) := by decide +kernel
theorem dX9_leastOf_19 : decode cX9_leastOf 19 = .ok (.iload_n 1, 1) := by decide +kernel
theorem dX9_leastOf_20 : decode cX9_leastOf 20 = .ok (.iaload, 1) := by decide +kernel
theorem dX9_leastOf_21 : decode cX9_leastOf 21 = .ok (.iconst 1, 1) := by decide +kernel
theorem dX9_leastOf_22 : decode cX9_leastOf 22 = .ok (.iadd, 1) := by decide +kernel
theorem dX9_leastOf_23 : decode cX9_leastOf 23 = .ok (.iconst 2, 1) := by decide +kernel
theorem dX9_leastOf_24 : decode cX9_leastOf 24 = .ok (.idiv, 1) := by decide +kernel
theorem dX9_leastOf_25 : decode cX9_leastOf 25 = .ok (.goto 12, 3) := by decide +kernel
theorem dX9_leastOf_28 : decode cX9_leastOf 28 = .ok (.aload_n 0, 1) := by decide +kernel
theorem dX9_leastOf_29 : decode cX9_leastOf 29 = .ok (.getfield 48, 3) := by decide +kernel
theorem dX9_leastOf_32 : decode cX9_leastOf 32 = .ok (.getfield 127, 3) := by decide +kernel
theorem dX9_leastOf_35 : decode cX9_leastOf 35 = .ok (.iload_n 1, 1) := by decide +kernel
theorem dX9_leastOf_36 : decode cX9_leastOf 36 = .ok (.iaload, 1) := by decide +kernel
theorem dX9_leastOf_37 : decode cX9_leastOf 37 = .ok (.ireturn, 1) := by decide +kernel
theorem dX9_name_0 : decode cX9_name 0 = .ok (.aload_n 0, 1) := by decide +kernel
theorem dX9_name_1 : decode cX9_name 1 = .ok (.aload_n 0, 1) := by decide +kernel
theorem dX9_name_2 : decode cX9_name 2 = .ok (.getfield 34, 3) := by decide +kernel
theorem dX9_name_5 : decode cX9_name 5 = .ok (.aload_n 0, 1) := by decide +kernel
theorem dX9_name_6 : decode cX9_name 6 = .ok (.getfield 168, 3) := by decide +kernel
theorem dX9_name_9 : decode cX9_name 9 = .ok (.iaload, 1) := by decide +kernel
theorem dX9_name_10 : decode cX9_name 10 = .ok (.iconst 2, 1) := by decide +kernel
theorem dX9_name_11 : decode cX9_name 11 = .ok (.if_icmp .ne 22, 3) := by decide +kernel
theorem dX9_name_14 : decode cX9_name 14 = .ok (.aload_n 0, 1) := by decide +kernel
theorem dX9_name_15 : decode cX9_name 15 = .ok (.getfield 40, 3) := by decide +kernel
theorem dX9_name_18 : decode cX9_name 18 = .ok (.aload_n 0, 1) := by decide +kernel
theorem dX9_name_19 : decode cX9_name 19 = .ok (.getfield 168, 3) := by decide +kernel
theorem dX9_name_22 : decode cX9_name 22 = .ok (.laload, 1) := by decide +kernel
theorem dX9_name_23 : decode cX9_name 23 = .ok (.invokestatic 183, 3) := by decide +kernel
theorem dX9_name_26 : decode cX9_name 26 = .ok (.ifCond .ne 7, 3) := by decide +kernel
theorem dX9_name_29 : decode cX9_name 29 = .ok (.iconst 1, 1) := by decide +kernel
theorem dX9_name_30 : decode cX9_name 30 = .ok (.goto 4, 3) := by decide +kernel
theorem dX9_name_33 : decode cX9_name 33 = .ok (.iconst 0, 1) := by decide +kernel
theorem dX9_name_34 : decode cX9_name 34 = .ok (.invokevirtual 179, 3) := by decide +kernel
theorem dX9_name_37 : decode cX9_name 37 = .ok (.ireturn, 1) := by decide +kernel
theorem dX9_no_0 : decode cX9_no 0 = .ok (.aload_n 0, 1) := by decide +kernel
theorem dX9_no_1 : decode cX9_no 1 = .ok (.iload_n 1, 1) := by decide +kernel
theorem dX9_no_2 : decode cX9_no 2 = .ok (.putfield 85, 3) := by decide +kernel
theorem dX9_no_5 : decode cX9_no 5 = .ok (.iconst 0, 1) := by decide +kernel
theorem dX9_no_6 : decode cX9_no 6 = .ok (.ireturn, 1) := by decide +kernel
theorem dX9_number_0 : decode cX9_number 0 = .ok (.aload_n 0, 1) := by decide +kernel
theorem dX9_number_1 : decode cX9_number 1 = .ok (.aload_n 0, 1) := by decide +kernel
theorem dX9_number_2 : decode cX9_number 2 = .ok (.getfield 34, 3) := by decide +kernel
theorem dX9_number_5 : decode cX9_number 5 = .ok (.aload_n 0, 1) := by decide +kernel
theorem dX9_number_6 : decode cX9_number 6 = .ok (.getfield 168, 3) := by decide +kernel
theorem dX9_number_9 : decode cX9_number 9 = .ok (.iaload, 1) := by decide +kernel
theorem dX9_number_10 : decode cX9_number 10 = .ok (.iconst 3, 1) := by decide +kernel
theorem dX9_number_11 : decode cX9_number 11 = .ok (.if_icmp .ne 7, 3) := by decide +kernel
theorem dX9_number_14 : decode cX9_number 14 = .ok (.iconst 1, 1) := by decide +kernel
theorem dX9_number_15 : decode cX9_number 15 = .ok (.goto 4, 3) := by decide +kernel
theorem dX9_number_18 : decode cX9_number 18 = .ok (.iconst 0, 1) := by decide +kernel
theorem dX9_number_19 : decode cX9_number 19 = .ok (.invokevirtual 179, 3) := by decide +kernel
theorem dX9_number_22 : decode cX9_number 22 = .ok (.ireturn, 1) := by decide +kernel
theorem dX9_past_0 : decode cX9_past 0 = .ok (.iload_n 1, 1) := by decide +kernel
theorem dX9_past_1 : decode cX9_past 1 = .ok (.ifCond .eq 13, 3) := by decide +kernel
theorem dX9_past_4 : decode cX9_past 4 = .ok (.aload_n 0, 1) := by decide +kernel
theorem dX9_past_5 : decode cX9_past 5 = .ok (.dup, 1) := by decide +kernel
theorem dX9_past_6 : decode cX9_past 6 = .ok (.getfield 168, 3) := by decide +kernel
theorem dX9_past_9 : decode cX9_past 9 = .ok (.iconst 1, 1) := by decide +kernel
theorem dX9_past_10 : decode cX9_past 10 = .ok (.iadd, 1) := by decide +kernel
theorem dX9_past_11 : decode cX9_past 11 = .ok (.putfield 168, 3) := by decide +kernel
theorem dX9_past_14 : decode cX9_past 14 = .ok (.iload_n 1, 1) := by decide +kernel
theorem dX9_past_15 : decode cX9_past 15 = .ok (.ireturn, 1) := by decide +kernel
theorem dX9_print_0 : decode cX9_print 0 = .ok (.aload_n 0, 1) := by decide +kernel
theorem dX9_print_1 : decode cX9_print 1 = .ok (.getfield 31, 3) := by decide +kernel
theorem dX9_print_4 : decode cX9_print 4 = .ok (.aload_n 0, 1) := by decide +kernel
theorem dX9_print_5 : decode cX9_print 5 = .ok (.getfield 331, 3) := by decide +kernel
theorem dX9_print_8 : decode cX9_print 8 = .ok (.iload_n 1, 1) := by decide +kernel
theorem dX9_print_9 : decode cX9_print 9 = .ok (.iastore, 1) := by decide +kernel
theorem dX9_print_10 : decode cX9_print 10 = .ok (.aload_n 0, 1) := by decide +kernel
theorem dX9_print_11 : decode cX9_print 11 = .ok (.dup, 1) := by decide +kernel
theorem dX9_print_12 : decode cX9_print 12 = .ok (.getfield 331, 3) := by decide +kernel
theorem dX9_print_15 : decode cX9_print 15 = .ok (.iconst 1, 1) := by decide +kernel
theorem dX9_print_16 : decode cX9_print 16 = .ok (.iadd, 1) := by decide +kernel
theorem dX9_print_17 : decode cX9_print 17 = .ok (.putfield 331, 3) := by decide +kernel
theorem dX9_print_20 : decode cX9_print 20 = .ok (.return_, 1) := by decide +kernel
theorem dX9_print__0 : decode cX9_print_ 0 = .ok (.bipush 56, 2) := by decide +kernel
theorem dX9_print__2 : decode cX9_print_ 2 = .ok (.istore_n 3, 1) := by decide +kernel
theorem dX9_print__3 : decode cX9_print_ 3 = .ok (.lload_n 1, 1) := by decide +kernel
theorem dX9_print__4 : decode cX9_print_ 4 = .ok (.iload_n 3, 1) := by decide +kernel
theorem dX9_print__5 : decode cX9_print_ 5 = .ok (.lshr, 1) := by decide +kernel
theorem dX9_print__6 : decode cX9_print_ 6 = .ok (.ldc2_w 372, 3) := by decide +kernel
theorem dX9_print__9 : decode cX9_print_ 9 = .ok (.land, 1) := by decide +kernel
theorem dX9_print__10 : decode cX9_print_ 10 = .ok (.lconst 0, 1) := by decide +kernel
theorem dX9_print__11 : decode cX9_print_ 11 = .ok (.lcmp, 1) := by decide +kernel
theorem dX9_print__12 : decode cX9_print_ 12 = .ok (.ifCond .ne 9, 3) := by decide +kernel
theorem dX9_print__15 : decode cX9_print_ 15 = .ok (.iinc 3 (-8), 3) := by decide +kernel
theorem dX9_print__18 : decode cX9_print_ 18 = .ok (.goto (-15), 3) := by decide +kernel
theorem dX9_print__21 : decode cX9_print_ 21 = .ok (.iload_n 3, 1) := by decide +kernel
theorem dX9_print__22 : decode cX9_print_ 22 = .ok (.ifCond .lt 21, 3) := by decide +kernel
theorem dX9_print__25 : decode cX9_print_ 25 = .ok (.aload_n 0, 1) := by decide +kernel
theorem dX9_print__26 : decode cX9_print_ 26 = .ok (.lload_n 1, 1) := by decide +kernel
theorem dX9_print__27 : decode cX9_print_ 27 = .ok (.iload_n 3, 1) := by decide +kernel
theorem dX9_print__28 : decode cX9_print_ 28 = .ok (.lshr, 1) := by decide +kernel
theorem dX9_print__29 : decode cX9_print_ 29 = .ok (.ldc2_w 372, 3) := by decide +kernel
theorem dX9_print__32 : decode cX9_print_ 32 = .ok (.land, 1) := by decide +kernel
theorem dX9_print__33 : decode cX9_print_ 33 = .ok (.l2i, 1) := by decide +kernel
theorem dX9_print__34 : decode cX9_print_ 34 = .ok (.invokevirtual 374, 3) := by decide +kernel
theorem dX9_print__37 : decode cX9_print_ 37 = .ok (.iinc 3 (-8), 3) := by decide +kernel
theorem dX9_print__40 : decode cX9_print_ 40 = .ok (.goto (-19), 3) := by decide +kernel
theorem dX9_print__43 : decode cX9_print_ 43 = .ok (.return_, 1) := by decide +kernel
theorem dX9_read_0 : decode cX9_read 0 = .ok (.aload_n 0, 1) := by decide +kernel
theorem dX9_read_1 : decode cX9_read 1 = .ok (.iconst 0, 1) := by decide +kernel
theorem dX9_read_2 : decode cX9_read 2 = .ok (.putfield 142, 3) := by decide +kernel
theorem dX9_read_5 : decode cX9_read 5 = .ok (.iconst 0, 1) := by decide +kernel
theorem dX9_read_6 : decode cX9_read 6 = .ok (.istore_n 1, 1) := by decide +kernel
theorem dX9_read_7 : decode cX9_read 7 = .ok (.aload_n 0, 1) := by decide +kernel
theorem dX9_read_8 : decode cX9_read 8 = .ok (.getfield 142, 3) := by decide +kernel
theorem dX9_read_11 : decode cX9_read 11 = .ok (.sipush 400, 3) := by decide +kernel
theorem dX9_read_14 : decode cX9_read 14 = .ok (.if_icmp .gt 312, 3) := by decide +kernel
theorem dX9_read_17 : decode cX9_read 17 = .ok (.iload_n 1, 1) := by decide +kernel
theorem dX9_read_18 : decode cX9_read 18 = .ok (.aload_n 0, 1) := by decide +kernel
theorem dX9_read_19 : decode cX9_read 19 = .ok (.getfield 145, 3) := by decide +kernel
theorem dX9_read_22 : decode cX9_read 22 = .ok (.if_icmp .ge 31, 3) := by decide +kernel
theorem dX9_read_25 : decode cX9_read 25 = .ok (.aload_n 0, 1) := by decide +kernel
theorem dX9_read_26 : decode cX9_read 26 = .ok (.getfield 27, 3) := by decide +kernel
theorem dX9_read_29 : decode cX9_read 29 = .ok (.iload_n 1, 1) := by decide +kernel
theorem dX9_read_30 : decode cX9_read 30 = .ok (.iaload, 1) := by decide +kernel
theorem dX9_read_31 : decode cX9_read 31 = .ok (.bipush 32, 2) := by decide +kernel
theorem dX9_read_33 : decode cX9_read 33 = .ok (.if_icmp .eq 14, 3) := by decide +kernel
theorem dX9_read_36 : decode cX9_read 36 = .ok (.aload_n 0, 1) := by decide +kernel
theorem dX9_read_37 : decode cX9_read 37 = .ok (.getfield 27, 3) := by decide +kernel
theorem dX9_read_40 : decode cX9_read 40 = .ok (.iload_n 1, 1) := by decide +kernel
theorem dX9_read_41 : decode cX9_read 41 = .ok (.iaload, 1) := by decide +kernel
theorem dX9_read_42 : decode cX9_read 42 = .ok (.bipush 10, 2) := by decide +kernel
theorem dX9_read_44 : decode cX9_read 44 = .ok (.if_icmp .ne 9, 3) := by decide +kernel
theorem dX9_read_47 : decode cX9_read 47 = .ok (.iinc 1 1, 3) := by decide +kernel
theorem dX9_read_50 : decode cX9_read 50 = .ok (.goto (-33), 3) := by decide +kernel
theorem dX9_read_53 : decode cX9_read 53 = .ok (.iload_n 1, 1) := by decide +kernel
theorem dX9_read_54 : decode cX9_read 54 = .ok (.aload_n 0, 1) := by decide +kernel
theorem dX9_read_55 : decode cX9_read 55 = .ok (.getfield 145, 3) := by decide +kernel
theorem dX9_read_58 : decode cX9_read 58 = .ok (.if_icmp .ne 14, 3) := by decide +kernel
theorem dX9_read_61 : decode cX9_read 61 = .ok (.aload_n 0, 1) := by decide +kernel
theorem dX9_read_62 : decode cX9_read 62 = .ok (.iconst 0, 1) := by decide +kernel
theorem dX9_read_63 : decode cX9_read 63 = .ok (.aload_n 0, 1) := by decide +kernel
theorem dX9_read_64 : decode cX9_read 64 = .ok (.getfield 145, 3) := by decide +kernel
theorem dX9_read_67 : decode cX9_read 67 = .ok (.lconst 0, 1) := by decide +kernel
theorem dX9_read_68 : decode cX9_read 68 = .ok (.invokevirtual 148, 3) := by decide +kernel
theorem dX9_read_71 : decode cX9_read 71 = .ok (.return_, 1) := by decide +kernel
theorem dX9_read_72 : decode cX9_read 72 = .ok (.iload_n 1, 1) := by decide +kernel
theorem dX9_read_73 : decode cX9_read 73 = .ok (.istore_n 2, 1) := by decide +kernel
theorem dX9_read_74 : decode cX9_read 74 = .ok (.aload_n 0, 1) := by decide +kernel
theorem dX9_read_75 : decode cX9_read 75 = .ok (.getfield 27, 3) := by decide +kernel
theorem dX9_read_78 : decode cX9_read 78 = .ok (.iload_n 1, 1) := by decide +kernel
theorem dX9_read_79 : decode cX9_read 79 = .ok (.iaload, 1) := by decide +kernel
theorem dX9_read_80 : decode cX9_read 80 = .ok (.i2l, 1) := by decide +kernel
theorem dX9_read_81 : decode cX9_read 81 = .ok (.lstore_n 3, 1) := by decide +kernel
theorem dX9_read_82 : decode cX9_read 82 = .ok (.aload_n 0, 1) := by decide +kernel
theorem dX9_read_83 : decode cX9_read 83 = .ok (.getfield 27, 3) := by decide +kernel
theorem dX9_read_86 : decode cX9_read 86 = .ok (.iload_n 1, 1) := by decide +kernel
theorem dX9_read_87 : decode cX9_read 87 = .ok (.iaload, 1) := by decide +kernel
theorem dX9_read_88 : decode cX9_read 88 = .ok (.invokestatic 152, 3) := by decide +kernel
theorem dX9_read_91 : decode cX9_read 91 = .ok (.ifCond .eq 79, 3) := by decide +kernel
theorem dX9_read_94 : decode cX9_read 94 = .ok (.iinc 1 1, 3) := by decide +kernel
theorem dX9_read_97 : decode cX9_read 97 = .ok (.iload_n 1, 1) := by decide +kernel
theorem dX9_read_98 : decode cX9_read 98 = .ok (.aload_n 0, 1) := by decide +kernel
theorem dX9_read_99 : decode cX9_read 99 = .ok (.getfield 145, 3) := by decide +kernel
theorem dX9_read_102 : decode cX9_read 102 = .ok (.if_icmp .ge 46, 3) := by decide +kernel
theorem dX9_read_105 : decode cX9_read 105 = .ok (.aload_n 0, 1) := by decide +kernel
theorem dX9_read_106 : decode cX9_read 106 = .ok (.getfield 27, 3) := by decide +kernel
theorem dX9_read_109 : decode cX9_read 109 = .ok (.iload_n 1, 1) := by decide +kernel
theorem dX9_read_110 : decode cX9_read 110 = .ok (.iaload, 1) := by decide +kernel
theorem dX9_read_111 : decode cX9_read 111 = .ok (.invokestatic 152, 3) := by decide +kernel
theorem dX9_read_114 : decode cX9_read 114 = .ok (.ifCond .ne 15, 3) := by decide +kernel
theorem dX9_read_117 : decode cX9_read 117 = .ok (.aload_n 0, 1) := by decide +kernel
theorem dX9_read_118 : decode cX9_read 118 = .ok (.getfield 27, 3) := by decide +kernel
theorem dX9_read_121 : decode cX9_read 121 = .ok (.iload_n 1, 1) := by decide +kernel
theorem dX9_read_122 : decode cX9_read 122 = .ok (.iaload, 1) := by decide +kernel
theorem dX9_read_123 : decode cX9_read 123 = .ok (.invokestatic 155, 3) := by decide +kernel
theorem dX9_read_126 : decode cX9_read 126 = .ok (.ifCond .eq 22, 3) := by decide +kernel
theorem dX9_read_129 : decode cX9_read 129 = .ok (.lload_n 3, 1) := by decide +kernel
theorem dX9_read_130 : decode cX9_read 130 = .ok (.bipush 8, 2) := by decide +kernel
theorem dX9_read_132 : decode cX9_read 132 = .ok (.lshl, 1) := by decide +kernel
theorem dX9_read_133 : decode cX9_read 133 = .ok (.aload_n 0, 1) := by decide +kernel
theorem dX9_read_134 : decode cX9_read 134 = .ok (.getfield 27, 3) := by decide +kernel
theorem dX9_read_137 : decode cX9_read 137 = .ok (.iload_n 1, 1) := by decide +kernel
theorem dX9_read_138 : decode cX9_read 138 = .ok (.iaload, 1) := by decide +kernel
theorem dX9_read_139 : decode cX9_read 139 = .ok (.i2l, 1) := by decide +kernel
theorem dX9_read_140 : decode cX9_read 140 = .ok (.lor, 1) := by decide +kernel
theorem dX9_read_141 : decode cX9_read 141 = .ok (.lstore_n 3, 1) := by decide +kernel
theorem dX9_read_142 : decode cX9_read 142 = .ok (.iinc 1 1, 3) := by decide +kernel
theorem dX9_read_145 : decode cX9_read 145 = .ok (.goto (-48), 3) := by decide +kernel
theorem dX9_read_148 : decode cX9_read 148 = .ok (.aload_n 0, 1) := by decide +kernel
theorem dX9_read_149 : decode cX9_read 149 = .ok (.iload_n 1, 1) := by decide +kernel
theorem dX9_read_150 : decode cX9_read 150 = .ok (.iload_n 2, 1) := by decide +kernel
theorem dX9_read_151 : decode cX9_read 151 = .ok (.isub, 1) := by decide +kernel
theorem dX9_read_152 : decode cX9_read 152 = .ok (.bipush 8, 2) := by decide +kernel
theorem dX9_read_154 : decode cX9_read 154 = .ok (.if_icmp .gt 7, 3) := by decide +kernel
theorem dX9_read_157 : decode cX9_read 157 = .ok (.iconst 2, 1) := by decide +kernel
theorem dX9_read_158 : decode cX9_read 158 = .ok (.goto 4, 3) := by decide +kernel
theorem dX9_read_161 : decode cX9_read 161 = .ok (.iconst 1, 1) := by decide +kernel
theorem dX9_read_162 : decode cX9_read 162 = .ok (.iload_n 2, 1) := by decide +kernel
theorem dX9_read_163 : decode cX9_read 163 = .ok (.lload_n 3, 1) := by decide +kernel
theorem dX9_read_164 : decode cX9_read 164 = .ok (.invokevirtual 148, 3) := by decide +kernel
theorem dX9_read_167 : decode cX9_read 167 = .ok (.goto 140, 3) := by decide +kernel
theorem dX9_read_170 : decode cX9_read 170 = .ok (.aload_n 0, 1) := by decide +kernel
theorem dX9_read_171 : decode cX9_read 171 = .ok (.getfield 27, 3) := by decide +kernel
theorem dX9_read_174 : decode cX9_read 174 = .ok (.iload_n 1, 1) := by decide +kernel
theorem dX9_read_175 : decode cX9_read 175 = .ok (.iaload, 1) := by decide +kernel
theorem dX9_read_176 : decode cX9_read 176 = .ok (.invokestatic 155, 3) := by decide +kernel
theorem dX9_read_179 : decode cX9_read 179 = .ok (.ifCond .eq 90, 3) := by decide +kernel
theorem dX9_read_182 : decode cX9_read 182 = .ok (.lload_n 3, 1) := by decide +kernel
theorem dX9_read_183 : decode cX9_read 183 = .ok (.ldc2_w 158, 3) := by decide +kernel
theorem dX9_read_186 : decode cX9_read 186 = .ok (.lsub, 1) := by decide +kernel
theorem dX9_read_187 : decode cX9_read 187 = .ok (.lstore_n 3, 1) := by decide +kernel
theorem dX9_read_188 : decode cX9_read 188 = .ok (.iinc 1 1, 3) := by decide +kernel
theorem dX9_read_191 : decode cX9_read 191 = .ok (.iload_n 1, 1) := by decide +kernel
theorem dX9_read_192 : decode cX9_read 192 = .ok (.aload_n 0, 1) := by decide +kernel
theorem dX9_read_193 : decode cX9_read 193 = .ok (.getfield 145, 3) := by decide +kernel
theorem dX9_read_196 : decode cX9_read 196 = .ok (.if_icmp .ge 51, 3) := by decide +kernel
theorem dX9_read_199 : decode cX9_read 199 = .ok (.aload_n 0, 1) := by decide +kernel
theorem dX9_read_200 : decode cX9_read 200 = .ok (.getfield 27, 3) := by decide +kernel
theorem dX9_read_203 : decode cX9_read 203 = .ok (.iload_n 1, 1) := by decide +kernel
theorem dX9_read_204 : decode cX9_read 204 = .ok (.iaload, 1) := by decide +kernel
theorem dX9_read_205 : decode cX9_read 205 = .ok (.invokestatic 155, 3) := by decide +kernel
theorem dX9_read_208 : decode cX9_read 208 = .ok (.ifCond .eq 39, 3) := by decide +kernel
theorem dX9_read_211 : decode cX9_read 211 = .ok (.iload_n 1, 1) := by decide +kernel
theorem dX9_read_212 : decode cX9_read 212 = .ok (.iload_n 2, 1) := by decide +kernel
theorem dX9_read_213 : decode cX9_read 213 = .ok (.isub, 1) := by decide +kernel
theorem dX9_read_214 : decode cX9_read 214 = .ok (.bipush 6, 2) := by decide +kernel
theorem dX9_read_216 : decode cX9_read 216 = .ok (.if_icmp .ge 23, 3) := by decide +kernel
theorem dX9_read_219 : decode cX9_read 219 = .ok (.ldc2_w 160, 3) := by decide +kernel
theorem dX9_read_222 : decode cX9_read 222 = .ok (.lload_n 3, 1) := by decide +kernel
theorem dX9_read_223 : decode cX9_read 223 = .ok (.lmul, 1) := by decide +kernel
theorem dX9_read_224 : decode cX9_read 224 = .ok (.aload_n 0, 1) := by decide +kernel
theorem dX9_read_225 : decode cX9_read 225 = .ok (.getfield 27, 3) := by decide +kernel
theorem dX9_read_228 : decode cX9_read 228 = .ok (.iload_n 1, 1) := by decide +kernel
theorem dX9_read_229 : decode cX9_read 229 = .ok (.iaload, 1) := by decide +kernel
theorem dX9_read_230 : decode cX9_read 230 = .ok (.i2l, 1) := by decide +kernel
theorem dX9_read_231 : decode cX9_read 231 = .ok (.ladd, 1) := by decide +kernel
theorem dX9_read_232 : decode cX9_read 232 = .ok (.ldc2_w 158, 3) := by decide +kernel
theorem dX9_read_235 : decode cX9_read 235 = .ok (.lsub, 1) := by decide +kernel
theorem dX9_read_236 : decode cX9_read 236 = .ok (.goto 4, 3) := by decide +kernel
theorem dX9_read_239 : decode cX9_read 239 = .ok (.lload_n 3, 1) := by decide +kernel
theorem dX9_read_240 : decode cX9_read 240 = .ok (.lstore_n 3, 1) := by decide +kernel
theorem dX9_read_241 : decode cX9_read 241 = .ok (.iinc 1 1, 3) := by decide +kernel
theorem dX9_read_244 : decode cX9_read 244 = .ok (.goto (-53), 3) := by decide +kernel
theorem dX9_read_247 : decode cX9_read 247 = .ok (.aload_n 0, 1) := by decide +kernel
theorem dX9_read_248 : decode cX9_read 248 = .ok (.iload_n 1, 1) := by decide +kernel
theorem dX9_read_249 : decode cX9_read 249 = .ok (.iload_n 2, 1) := by decide +kernel
theorem dX9_read_250 : decode cX9_read 250 = .ok (.isub, 1) := by decide +kernel
theorem dX9_read_251 : decode cX9_read 251 = .ok (.bipush 6, 2) := by decide +kernel
theorem dX9_read_253 : decode cX9_read 253 = .ok (.if_icmp .gt 7, 3) := by decide +kernel
theorem dX9_read_256 : decode cX9_read 256 = .ok (.iconst 3, 1) := by decide +kernel
theorem dX9_read_257 : decode cX9_read 257 = .ok (.goto 4, 3) := by decide +kernel
theorem dX9_read_260 : decode cX9_read 260 = .ok (.iconst 1, 1) := by decide +kernel
theorem dX9_read_261 : decode cX9_read 261 = .ok (.iload_n 2, 1) := by decide +kernel
theorem dX9_read_262 : decode cX9_read 262 = .ok (.lload_n 3, 1) := by decide +kernel
theorem dX9_read_263 : decode cX9_read 263 = .ok (.invokevirtual 148, 3) := by decide +kernel
theorem dX9_read_266 : decode cX9_read 266 = .ok (.goto 41, 3) := by decide +kernel
theorem dX9_read_269 : decode cX9_read 269 = .ok (.iinc 1 1, 3) := by decide +kernel
theorem dX9_read_272 : decode cX9_read 272 = .ok (.aload_n 0, 1) := by decide +kernel
theorem dX9_read_273 : decode cX9_read 273 = .ok (.lload_n 3, 1) := by decide +kernel
theorem dX9_read_274 : decode cX9_read 274 = .ok (.ldc2_w 162, 3) := by decide +kernel
theorem dX9_read_277 : decode cX9_read 277 = .ok (.lcmp, 1) := by decide +kernel
theorem dX9_read_278 : decode cX9_read 278 = .ok (.ifCond .eq 19, 3) := by decide +kernel
theorem dX9_read_281 : decode cX9_read 281 = .ok (.lload_n 3, 1) := by decide +kernel
theorem dX9_read_282 : decode cX9_read 282 = .ok (.ldc2_w 164, 3) := by decide +kernel
theorem dX9_read_285 : decode cX9_read 285 = .ok (.lcmp, 1) := by decide +kernel
theorem dX9_read_286 : decode cX9_read 286 = .ok (.ifCond .eq 11, 3) := by decide +kernel
theorem dX9_read_289 : decode cX9_read 289 = .ok (.lload_n 3, 1) := by decide +kernel
theorem dX9_read_290 : decode cX9_read 290 = .ok (.ldc2_w 166, 3) := by decide +kernel
theorem dX9_read_293 : decode cX9_read 293 = .ok (.lcmp, 1) := by decide +kernel
theorem dX9_read_294 : decode cX9_read 294 = .ok (.ifCond .ne 7, 3) := by decide +kernel
theorem dX9_read_297 : decode cX9_read 297 = .ok (.iconst 4, 1) := by decide +kernel
theorem dX9_read_298 : decode cX9_read 298 = .ok (.goto 4, 3) := by decide +kernel
theorem dX9_read_301 : decode cX9_read 301 = .ok (.iconst 1, 1) := by decide +kernel
theorem dX9_read_302 : decode cX9_read 302 = .ok (.iload_n 2, 1) := by decide +kernel
theorem dX9_read_303 : decode cX9_read 303 = .ok (.lload_n 3, 1) := by decide +kernel
theorem dX9_read_304 : decode cX9_read 304 = .ok (.invokevirtual 148, 3) := by decide +kernel
theorem dX9_read_307 : decode cX9_read 307 = .ok (.aload_n 0, 1) := by decide +kernel
theorem dX9_read_308 : decode cX9_read 308 = .ok (.getfield 34, 3) := by decide +kernel
theorem dX9_read_311 : decode cX9_read 311 = .ok (.aload_n 0, 1) := by decide +kernel
theorem dX9_read_312 : decode cX9_read 312 = .ok (.getfield 142, 3) := by decide +kernel
theorem dX9_read_315 : decode cX9_read 315 = .ok (.iconst 1, 1) := by decide +kernel
theorem dX9_read_316 : decode cX9_read 316 = .ok (.isub, 1) := by decide +kernel
theorem dX9_read_317 : decode cX9_read 317 = .ok (.iaload, 1) := by decide +kernel
theorem dX9_read_318 : decode cX9_read 318 = .ok (.iconst 1, 1) := by decide +kernel
theorem dX9_read_319 : decode cX9_read 319 = .ok (.if_icmp .ne 4, 3) := by decide +kernel
theorem dX9_read_322 : decode cX9_read 322 = .ok (.return_, 1) := by decide +kernel
theorem dX9_read_323 : decode cX9_read 323 = .ok (.goto (-316), 3) := by decide +kernel
theorem dX9_read_326 : decode cX9_read 326 = .ok (.return_, 1) := by decide +kernel
theorem dX9_speaker_0 : decode cX9_speaker 0 = .ok (.aload_n 0, 1) := by decide +kernel
theorem dX9_speaker_1 : decode cX9_speaker 1 = .ok (.iconst 0, 1) := by decide +kernel
theorem dX9_speaker_2 : decode cX9_speaker 2 = .ok (.putfield 85, 3) := by decide +kernel
theorem dX9_speaker_5 : decode cX9_speaker 5 = .ok (.aload_n 0, 1) := by decide +kernel
theorem dX9_speaker_6 : decode cX9_speaker 6 = .ok (.iload_n 1, 1) := by decide +kernel
theorem dX9_speaker_7 : decode cX9_speaker 7 = .ok (.invokevirtual 340, 3) := by decide +kernel
theorem dX9_speaker_10 : decode cX9_speaker 10 = .ok (.ifCond .eq 22, 3) := by decide +kernel
theorem dX9_speaker_13 : decode cX9_speaker 13 = .ok (.iload_n 2, 1) := by decide +kernel
theorem dX9_speaker_14 : decode cX9_speaker 14 = .ok (.iconst 0, 1) := by decide +kernel
theorem dX9_speaker_15 : decode cX9_speaker 15 = .ok (.bipush 6, 2) := by decide +kernel
theorem dX9_speaker_17 : decode cX9_speaker 17 = .ok (.invokestatic 91, 3) := by decide +kernel
theorem dX9_speaker_20 : decode cX9_speaker 20 = .ok (.ifCond .eq 12, 3) := by decide +kernel
theorem dX9_speaker_23 : decode cX9_speaker 23 = .ok (.aload_n 0, 1) := by decide +kernel
theorem dX9_speaker_24 : decode cX9_speaker 24 = .ok (.iload_n 1, 1) := by decide +kernel
theorem dX9_speaker_25 : decode cX9_speaker 25 = .ok (.iload_n 2, 1) := by decide +kernel
theorem dX9_speaker_26 : decode cX9_speaker 26 = .ok (.invokevirtual 343, 3) := by decide +kernel
theorem dX9_speaker_29 : decode cX9_speaker 29 = .ok (.goto 8, 3) := by decide +kernel
theorem dX9_speaker_32 : decode cX9_speaker 32 = .ok (.aload_n 0, 1) := by decide +kernel
theorem dX9_speaker_33 : decode cX9_speaker 33 = .ok (.iconst 1, 1) := by decide +kernel
theorem dX9_speaker_34 : decode cX9_speaker 34 = .ok (.invokevirtual 312, 3) := by decide +kernel
theorem dX9_speaker_37 : decode cX9_speaker 37 = .ok (.ireturn, 1) := by decide +kernel
theorem dX9_stand_0 : decode cX9_stand 0 = .ok (.iconst 0, 1) := by decide +kernel
theorem dX9_stand_1 : decode cX9_stand 1 = .ok (.istore_n 3, 1) := by decide +kernel
theorem dX9_stand_2 : decode cX9_stand 2 = .ok (.iload_n 3, 1) := by decide +kernel
theorem dX9_stand_3 : decode cX9_stand 3 = .ok (.aload_n 0, 1) := by decide +kernel
theorem dX9_stand_4 : decode cX9_stand 4 = .ok (.getfield 48, 3) := by decide +kernel
theorem dX9_stand_7 : decode cX9_stand 7 = .ok (.getfield 95, 3) := by decide +kernel
theorem dX9_stand_10 : decode cX9_stand 10 = .ok (.if_icmp .ge 24, 3) := by decide +kernel
theorem dX9_stand_13 : decode cX9_stand 13 = .ok (.aload_n 0, 1) := by decide +kernel
theorem dX9_stand_14 : decode cX9_stand 14 = .ok (.getfield 76, 3) := by decide +kernel
theorem dX9_stand_17 : decode cX9_stand 17 = .ok (.iload_n 3, 1) := by decide +kernel
theorem dX9_stand_18 : decode cX9_stand 18 = .ok (.iconst (-1), 1) := by decide +kernel
theorem dX9_stand_19 : decode cX9_stand 19 = .ok (.iastore, 1) := by decide +kernel
theorem dX9_stand_20 : decode cX9_stand 20 = .ok (.aload_n 1, 1) := by decide +kernel
theorem dX9_stand_21 : decode cX9_stand 21 = .ok (.iload_n 3, 1) := by decide +kernel
theorem dX9_stand_22 : decode cX9_stand 22 = .ok (.iconst 0, 1) := by decide +kernel
theorem dX9_stand_23 : decode cX9_stand 23 = .ok (.iastore, 1) := by decide +kernel
theorem dX9_stand_24 : decode cX9_stand 24 = .ok (.aload_n 2, 1) := by decide +kernel
theorem dX9_stand_25 : decode cX9_stand 25 = .ok (.iload_n 3, 1) := by decide +kernel
theorem dX9_stand_26 : decode cX9_stand 26 = .ok (.iconst 0, 1) := by decide +kernel
theorem dX9_stand_27 : decode cX9_stand 27 = .ok (.iastore, 1) := by decide +kernel
theorem dX9_stand_28 : decode cX9_stand 28 = .ok (.iinc 3 1, 3) := by decide +kernel
theorem dX9_stand_31 : decode cX9_stand 31 = .ok (.goto (-29), 3) := by decide +kernel
theorem dX9_stand_34 : decode cX9_stand 34 = .ok (.aload_n 0, 1) := by decide +kernel
theorem dX9_stand_35 : decode cX9_stand 35 = .ok (.getfield 48, 3) := by decide +kernel
theorem dX9_stand_38 : decode cX9_stand 38 = .ok (.getfield 95, 3) := by decide +kernel
theorem dX9_stand_41 : decode cX9_stand 41 = .ok (.iconst 1, 1) := by decide +kernel
theorem dX9_stand_42 : decode cX9_stand 42 = .ok (.isub, 1) := by decide +kernel
theorem dX9_stand_43 : decode cX9_stand 43 = .ok (.istore_n 3, 1) := by decide +kernel
theorem dX9_stand_44 : decode cX9_stand 44 = .ok (.iload_n 3, 1) := by decide +kernel
theorem dX9_stand_45 : decode cX9_stand 45 = .ok (.ifCond .lt 58, 3) := by decide +kernel
theorem dX9_stand_48 : decode cX9_stand 48 = .ok (.aload_n 0, 1) := by decide +kernel
theorem dX9_stand_49 : decode cX9_stand 49 = .ok (.getfield 48, 3) := by decide +kernel
theorem dX9_stand_52 : decode cX9_stand 52 = .ok (.iload_n 3, 1) := by decide +kernel
theorem dX9_stand_53 : decode cX9_stand 53 = .ok (.invokevirtual 108, 3) := by decide +kernel
theorem dX9_stand_56 : decode cX9_stand 56 = .ok (.ifCond .ne 6, 3) := by decide +kernel
theorem dX9_stand_59 : decode cX9_stand 59 = .ok (.goto 38, 3) := by decide +kernel
theorem dX9_stand_62 : decode cX9_stand 62 = .ok (.aload_n 0, 1) := by decide +kernel
theorem dX9_stand_63 : decode cX9_stand 63 = .ok (.getfield 79, 3) := by decide +kernel
theorem dX9_stand_66 : decode cX9_stand 66 = .ok (.iload_n 3, 1) := by decide +kernel
theorem dX9_stand_67 : decode cX9_stand 67 = .ok (.aload_n 0, 1) := by decide +kernel
theorem dX9_stand_68 : decode cX9_stand 68 = .ok (.getfield 76, 3) := by decide +kernel
theorem dX9_stand_71 : decode cX9_stand 71 = .ok (.aload_n 0, 1) := by decide +kernel
theorem dX9_stand_72 : decode cX9_stand 72 = .ok (.getfield 48, 3) := by decide +kernel
theorem dX9_stand_75 : decode cX9_stand 75 = .ok (.getfield 111, 3) := by decide +kernel
theorem dX9_stand_78 : decode cX9_stand 78 = .ok (.iload_n 3, 1) := by decide +kernel
theorem dX9_stand_79 : decode cX9_stand 79 = .ok (.iaload, 1) := by decide +kernel
theorem dX9_stand_80 : decode cX9_stand 80 = .ok (.iaload, 1) := by decide +kernel
theorem dX9_stand_81 : decode cX9_stand 81 = .ok (.iastore, 1) := by decide +kernel
theorem dX9_stand_82 : decode cX9_stand 82 = .ok (.aload_n 0, 1) := by decide +kernel
theorem dX9_stand_83 : decode cX9_stand 83 = .ok (.getfield 76, 3) := by decide +kernel
theorem dX9_stand_86 : decode cX9_stand 86 = .ok (.aload_n 0, 1) := by decide +kernel
theorem dX9_stand_87 : decode cX9_stand 87 = .ok (.getfield 48, 3) := by decide +kernel
theorem dX9_stand_90 : decode cX9_stand 90 = .ok (.getfield 111, 3) := by decide +kernel
theorem dX9_stand_93 : decode cX9_stand 93 = .ok (.iload_n 3, 1) := by decide +kernel
theorem dX9_stand_94 : decode cX9_stand 94 = .ok (.iaload, 1) := by decide +kernel
theorem dX9_stand_95 : decode cX9_stand 95 = .ok (.iload_n 3, 1) := by decide +kernel
theorem dX9_stand_96 : decode cX9_stand 96 = .ok (.iastore, 1) := by decide +kernel
theorem dX9_stand_97 : decode cX9_stand 97 = .ok (.iinc 3 (-1), 3) := by decide +kernel
theorem dX9_stand_100 : decode cX9_stand 100 = .ok (.goto (-56), 3) := by decide +kernel
theorem dX9_stand_103 : decode cX9_stand 103 = .ok (.iconst 0, 1) := by decide +kernel
theorem dX9_stand_104 : decode cX9_stand 104 = .ok (.istore_n 3, 1) := by decide +kernel
theorem dX9_stand_105 : decode cX9_stand 105 = .ok (.iconst 0, 1) := by decide +kernel
theorem dX9_stand_106 : decode cX9_stand 106 = .ok (.istore 4, 2) := by decide +kernel
theorem dX9_stand_108 : decode cX9_stand 108 = .ok (.iconst 0, 1) := by decide +kernel
theorem dX9_stand_109 : decode cX9_stand 109 = .ok (.istore 5, 2) := by decide +kernel
theorem dX9_stand_111 : decode cX9_stand 111 = .ok (.iload 5, 2) := by decide +kernel
theorem dX9_stand_113 : decode cX9_stand 113 = .ok (.aload_n 0, 1) := by decide +kernel
theorem dX9_stand_114 : decode cX9_stand 114 = .ok (.getfield 48, 3) := by decide +kernel
theorem dX9_stand_117 : decode cX9_stand 117 = .ok (.getfield 95, 3) := by decide +kernel
theorem dX9_stand_120 : decode cX9_stand 120 = .ok (.if_icmp .ge 34, 3) := by decide +kernel
theorem dX9_stand_123 : decode cX9_stand 123 = .ok (.aload_n 0, 1) := by decide +kernel
theorem dX9_stand_124 : decode cX9_stand 124 = .ok (.getfield 82, 3) := by decide +kernel
theorem dX9_stand_127 : decode cX9_stand 127 = .ok (.iload 5, 2) := by decide +kernel
theorem dX9_stand_129 : decode cX9_stand 129 = .ok (.aload_n 1, 1) := by decide +kernel
theorem dX9_stand_130 : decode cX9_stand 130 = .ok (.iload 5, 2) := by decide +kernel
theorem dX9_stand_132 : decode cX9_stand 132 = .ok (.iaload, 1) := by decide +kernel
theorem dX9_stand_133 : decode cX9_stand 133 = .ok (.ifCond .ne 13, 3) := by decide +kernel
theorem dX9_stand_136 : decode cX9_stand 136 = .ok (.aload_n 0, 1) := by decide +kernel
theorem dX9_stand_137 : decode cX9_stand 137 = .ok (.iload 5, 2) := by decide +kernel
theorem dX9_stand_139 : decode cX9_stand 139 = .ok (.aload_n 1, 1) := by decide +kernel
theorem dX9_stand_140 : decode cX9_stand 140 = .ok (.invokevirtual 114, 3) := by decide +kernel
theorem dX9_stand_143 : decode cX9_stand 143 = .ok (.goto 4, 3) := by decide +kernel
theorem dX9_stand_146 : decode cX9_stand 146 = .ok (.iconst 0, 1) := by decide +kernel
theorem dX9_stand_147 : decode cX9_stand 147 = .ok (.iastore, 1) := by decide +kernel
theorem dX9_stand_148 : decode cX9_stand 148 = .ok (.iinc 5 1, 3) := by decide +kernel
theorem dX9_stand_151 : decode cX9_stand 151 = .ok (.goto (-40), 3) := by decide +kernel
theorem dX9_stand_154 : decode cX9_stand 154 = .ok (.iconst 0, 1) := by decide +kernel
theorem dX9_stand_155 : decode cX9_stand 155 = .ok (.istore 5, 2) := by decide +kernel
theorem dX9_stand_157 : decode cX9_stand 157 = .ok (.iload 5, 2) := by decide +kernel
theorem dX9_stand_159 : decode cX9_stand 159 = .ok (.aload_n 0, 1) := by decide +kernel
theorem dX9_stand_160 : decode cX9_stand 160 = .ok (.getfield 48, 3) := by decide +kernel
theorem dX9_stand_163 : decode cX9_stand 163 = .ok (.getfield 95, 3) := by decide +kernel
theorem dX9_stand_166 : decode cX9_stand 166 = .ok (.if_icmp .ge 43, 3) := by decide +kernel
theorem dX9_stand_169 : decode cX9_stand 169 = .ok (.aload_n 0, 1) := by decide +kernel
theorem dX9_stand_170 : decode cX9_stand 170 = .ok (.getfield 82, 3) := by decide +kernel
theorem dX9_stand_173 : decode cX9_stand 173 = .ok (.iload 5, 2) := by decide +kernel
theorem dX9_stand_175 : decode cX9_stand 175 = .ok (.iaload, 1) := by decide +kernel
theorem dX9_stand_176 : decode cX9_stand 176 = .ok (.ifCond .ne 6, 3) := by decide +kernel
theorem dX9_stand_179 : decode cX9_stand 179 = .ok (.goto 24, 3) := by decide +kernel
theorem dX9_stand_182 : decode cX9_stand 182 = .ok (.aload_n 1, 1) := by decide +kernel
theorem dX9_stand_183 : decode cX9_stand 183 = .ok (.iload 5, 2) := by decide +kernel
theorem dX9_stand_185 : decode cX9_stand 185 = .ok (.aload_n 0, 1) := by decide +kernel
theorem dX9_stand_186 : decode cX9_stand 186 = .ok (.getfield 82, 3) := by decide +kernel
theorem dX9_stand_189 : decode cX9_stand 189 = .ok (.iload 5, 2) := by decide +kernel
theorem dX9_stand_191 : decode cX9_stand 191 = .ok (.iaload, 1) := by decide +kernel
theorem dX9_stand_192 : decode cX9_stand 192 = .ok (.iastore, 1) := by decide +kernel
theorem dX9_stand_193 : decode cX9_stand 193 = .ok (.aload_n 2, 1) := by decide +kernel
theorem dX9_stand_194 : decode cX9_stand 194 = .ok (.iload 5, 2) := by decide +kernel
theorem dX9_stand_196 : decode cX9_stand 196 = .ok (.iload_n 3, 1) := by decide +kernel
theorem dX9_stand_197 : decode cX9_stand 197 = .ok (.iconst 1, 1) := by decide +kernel
theorem dX9_stand_198 : decode cX9_stand 198 = .ok (.iadd, 1) := by decide +kernel
theorem dX9_stand_199 : decode cX9_stand 199 = .ok (.iastore, 1) := by decide +kernel
theorem dX9_stand_200 : decode cX9_stand 200 = .ok (.iconst 1, 1) := by decide +kernel
theorem dX9_stand_201 : decode cX9_stand 201 = .ok (.istore 4, 2) := by decide +kernel
theorem dX9_stand_203 : decode cX9_stand 203 = .ok (.iinc 5 1, 3) := by decide +kernel
theorem dX9_stand_206 : decode cX9_stand 206 = .ok (.goto (-49), 3) := by decide +kernel
theorem dX9_stand_209 : decode cX9_stand 209 = .ok (.iload 4, 2) := by decide +kernel
theorem dX9_stand_211 : decode cX9_stand 211 = .ok (.ifCond .ne 5, 3) := by decide +kernel
theorem dX9_stand_214 : decode cX9_stand 214 = .ok (.iload_n 3, 1) := by decide +kernel
theorem dX9_stand_215 : decode cX9_stand 215 = .ok (.ireturn, 1) := by decide +kernel
theorem dX9_stand_216 : decode cX9_stand 216 = .ok (.iinc 3 1, 3) := by decide +kernel
theorem dX9_stand_219 : decode cX9_stand 219 = .ok (.goto (-114), 3) := by decide +kernel
theorem dX9_take_0 : decode cX9_take 0 = .ok (.aload_n 0, 1) := by decide +kernel
theorem dX9_take_1 : decode cX9_take 1 = .ok (.getfield 48, 3) := by decide +kernel
theorem dX9_take_4 : decode cX9_take 4 = .ok (.getfield 118, 3) := by decide +kernel
theorem dX9_take_7 : decode cX9_take 7 = .ok (.iload_n 1, 1) := by decide +kernel
theorem dX9_take_8 : decode cX9_take 8 = .ok (.iaload, 1) := by decide +kernel
theorem dX9_take_9 : decode cX9_take 9 = .ok (.iload_n 2, 1) := by decide +kernel
theorem dX9_take_10 : decode cX9_take 10 = .ok (.if_icmp .ge 14, 3) := by decide +kernel
theorem dX9_take_13 : decode cX9_take 13 = .ok (.aload_n 0, 1) := by decide +kernel
theorem dX9_take_14 : decode cX9_take 14 = .ok (.bipush 7, 2) := by decide +kernel
theorem dX9_take_16 : decode cX9_take 16 = .ok (.aload_n 0, 1) := by decide +kernel
theorem dX9_take_17 : decode cX9_take 17 = .ok (.getfield 168, 3) := by decide +kernel
theorem dX9_take_20 : decode cX9_take 20 = .ok (.invokevirtual 255, 3) := by decide +kernel
theorem dX9_take_23 : decode cX9_take 23 = .ok (.ireturn, 1) := by decide +kernel
theorem dX9_take_24 : decode cX9_take 24 = .ok (.aload_n 0, 1) := by decide +kernel
theorem dX9_take_25 : decode cX9_take 25 = .ok (.getfield 48, 3) := by decide +kernel
theorem dX9_take_28 : decode cX9_take 28 = .ok (.getfield 118, 3) := by decide +kernel
theorem dX9_take_31 : decode cX9_take 31 = .ok (.iload_n 1, 1) := by decide +kernel
theorem dX9_take_32 : decode cX9_take 32 = .ok (.dup2, 1) := by decide +kernel
theorem dX9_take_33 : decode cX9_take 33 = .ok (.iaload, 1) := by decide +kernel
theorem dX9_take_34 : decode cX9_take 34 = .ok (.iload_n 2, 1) := by decide +kernel
theorem dX9_take_35 : decode cX9_take 35 = .ok (.isub, 1) := by decide +kernel
theorem dX9_take_36 : decode cX9_take 36 = .ok (.iastore, 1) := by decide +kernel
theorem dX9_take_37 : decode cX9_take 37 = .ok (.iconst 0, 1) := by decide +kernel
theorem dX9_take_38 : decode cX9_take 38 = .ok (.ireturn, 1) := by decide +kernel
theorem dX9_thrown_0 : decode cX9_thrown 0 = .ok (.aload_n 0, 1) := by decide +kernel
theorem dX9_thrown_1 : decode cX9_thrown 1 = .ok (.getfield 85, 3) := by decide +kernel
theorem dX9_thrown_4 : decode cX9_thrown 4 = .ok (.ireturn, 1) := by decide +kernel
theorem dX9_token_0 : decode cX9_token 0 = .ok (.aload_n 0, 1) := by decide +kernel
theorem dX9_token_1 : decode cX9_token 1 = .ok (.getfield 34, 3) := by decide +kernel
theorem dX9_token_4 : decode cX9_token 4 = .ok (.aload_n 0, 1) := by decide +kernel
theorem dX9_token_5 : decode cX9_token 5 = .ok (.getfield 142, 3) := by decide +kernel
theorem dX9_token_8 : decode cX9_token 8 = .ok (.aload_n 0, 1) := by decide +kernel
theorem dX9_token_9 : decode cX9_token 9 = .ok (.getfield 142, 3) := by decide +kernel
theorem dX9_token_12 : decode cX9_token 12 = .ok (.sipush 400, 3) := by decide +kernel
theorem dX9_token_15 : decode cX9_token 15 = .ok (.if_icmp .ne 11, 3) := by decide +kernel
theorem dX9_token_18 : decode cX9_token 18 = .ok (.iload_n 1, 1) := by decide +kernel
theorem dX9_token_19 : decode cX9_token 19 = .ok (.ifCond .eq 7, 3) := by decide +kernel
theorem dX9_token_22 : decode cX9_token 22 = .ok (.iconst 1, 1) := by decide +kernel
theorem dX9_token_23 : decode cX9_token 23 = .ok (.goto 4, 3) := by decide +kernel
theorem dX9_token_26 : decode cX9_token 26 = .ok (.iload_n 1, 1) := by decide +kernel
theorem dX9_token_27 : decode cX9_token 27 = .ok (.iastore, 1) := by decide +kernel
theorem dX9_token_28 : decode cX9_token 28 = .ok (.aload_n 0, 1) := by decide +kernel
theorem dX9_token_29 : decode cX9_token 29 = .ok (.getfield 37, 3) := by decide +kernel
theorem dX9_token_32 : decode cX9_token 32 = .ok (.aload_n 0, 1) := by decide +kernel
theorem dX9_token_33 : decode cX9_token 33 = .ok (.getfield 142, 3) := by decide +kernel
theorem dX9_token_36 : decode cX9_token 36 = .ok (.iload_n 2, 1) := by decide +kernel
theorem dX9_token_37 : decode cX9_token 37 = .ok (.iastore, 1) := by decide +kernel
theorem dX9_token_38 : decode cX9_token 38 = .ok (.aload_n 0, 1) := by decide +kernel
theorem dX9_token_39 : decode cX9_token 39 = .ok (.getfield 40, 3) := by decide +kernel
theorem dX9_token_42 : decode cX9_token 42 = .ok (.aload_n 0, 1) := by decide +kernel
theorem dX9_token_43 : decode cX9_token 43 = .ok (.getfield 142, 3) := by decide +kernel
theorem dX9_token_46 : decode cX9_token 46 = .ok (.lload_n 3, 1) := by decide +kernel
theorem dX9_token_47 : decode cX9_token 47 = .ok (.lastore, 1) := by decide +kernel
theorem dX9_token_48 : decode cX9_token 48 = .ok (.aload_n 0, 1) := by decide +kernel
theorem dX9_token_49 : decode cX9_token 49 = .ok (.dup, 1) := by decide +kernel
theorem dX9_token_50 : decode cX9_token 50 = .ok (.getfield 142, 3) := by decide +kernel
theorem dX9_token_53 : decode cX9_token 53 = .ok (.iconst 1, 1) := by decide +kernel
theorem dX9_token_54 : decode cX9_token 54 = .ok (.iadd, 1) := by decide +kernel
theorem dX9_token_55 : decode cX9_token 55 = .ok (.putfield 142, 3) := by decide +kernel
theorem dX9_token_58 : decode cX9_token 58 = .ok (.return_, 1) := by decide +kernel
theorem dX9_trim_0 : decode cX9_trim 0 = .ok (.aload_n 0, 1) := by decide +kernel
theorem dX9_trim_1 : decode cX9_trim 1 = .ok (.iconst 0, 1) := by decide +kernel
theorem dX9_trim_2 : decode cX9_trim 2 = .ok (.putfield 85, 3) := by decide +kernel
theorem dX9_trim_5 : decode cX9_trim 5 = .ok (.iload_n 1, 1) := by decide +kernel
theorem dX9_trim_6 : decode cX9_trim 6 = .ok (.iconst 0, 1) := by decide +kernel
theorem dX9_trim_7 : decode cX9_trim 7 = .ok (.aload_n 0, 1) := by decide +kernel
theorem dX9_trim_8 : decode cX9_trim 8 = .ok (.getfield 145, 3) := by decide +kernel
theorem dX9_trim_11 : decode cX9_trim 11 = .ok (.invokestatic 91, 3) := by decide +kernel
theorem dX9_trim_14 : decode cX9_trim 14 = .ok (.ifCond .ne 9, 3) := by decide +kernel
theorem dX9_trim_17 : decode cX9_trim 17 = .ok (.aload_n 0, 1) := by decide +kernel
theorem dX9_trim_18 : decode cX9_trim 18 = .ok (.iconst 1, 1) := by decide +kernel
theorem dX9_trim_19 : decode cX9_trim 19 = .ok (.invokevirtual 312, 3) := by decide +kernel
theorem dX9_trim_22 : decode cX9_trim 22 = .ok (.ireturn, 1) := by decide +kernel
theorem dX9_trim_23 : decode cX9_trim 23 = .ok (.aload_n 0, 1) := by decide +kernel
theorem dX9_trim_24 : decode cX9_trim 24 = .ok (.iload_n 1, 1) := by decide +kernel
theorem dX9_trim_25 : decode cX9_trim 25 = .ok (.putfield 145, 3) := by decide +kernel
theorem dX9_trim_28 : decode cX9_trim 28 = .ok (.iload_n 1, 1) := by decide +kernel
theorem dX9_trim_29 : decode cX9_trim 29 = .ok (.ireturn, 1) := by decide +kernel
theorem dX9_why_0 : decode cX9_why 0 = .ok (.aload_n 0, 1) := by decide +kernel
theorem dX9_why_1 : decode cX9_why 1 = .ok (.iconst 0, 1) := by decide +kernel
theorem dX9_why_2 : decode cX9_why 2 = .ok (.putfield 85, 3) := by decide +kernel
theorem dX9_why_5 : decode cX9_why 5 = .ok (.aload_n 0, 1) := by decide +kernel
theorem dX9_why_6 : decode cX9_why 6 = .ok (.iload_n 1, 1) := by decide +kernel
theorem dX9_why_7 : decode cX9_why 7 = .ok (.invokevirtual 348, 3) := by decide +kernel
theorem dX9_why_10 : decode cX9_why 10 = .ok (.ifCond .eq 11, 3) := by decide +kernel
theorem dX9_why_13 : decode cX9_why 13 = .ok (.aload_n 0, 1) := by decide +kernel
theorem dX9_why_14 : decode cX9_why 14 = .ok (.iload_n 1, 1) := by decide +kernel
theorem dX9_why_15 : decode cX9_why 15 = .ok (.invokevirtual 354, 3) := by decide +kernel
theorem dX9_why_18 : decode cX9_why 18 = .ok (.goto 8, 3) := by decide +kernel
theorem dX9_why_21 : decode cX9_why 21 = .ok (.aload_n 0, 1) := by decide +kernel
theorem dX9_why_22 : decode cX9_why 22 = .ok (.iconst 1, 1) := by decide +kernel
theorem dX9_why_23 : decode cX9_why 23 = .ok (.invokevirtual 312, 3) := by decide +kernel
theorem dX9_why_26 : decode cX9_why 26 = .ok (.ireturn, 1) := by decide +kernel
