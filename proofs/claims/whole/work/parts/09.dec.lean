theorem dL_advise_0 : decode cL_advise 0 = .ok (.aload_n 3, 1) := by decide +kernel
theorem dL_advise_1 : decode cL_advise 1 = .ok (.iconst 0, 1) := by decide +kernel
theorem dL_advise_2 : decode cL_advise 2 = .ok (.aload_n 0, 1) := by decide +kernel
theorem dL_advise_3 : decode cL_advise 3 = .ok (.iload_n 1, 1) := by decide +kernel
theorem dL_advise_4 : decode cL_advise 4 = .ok (.iload_n 2, 1) := by decide +kernel
theorem dL_advise_5 : decode cL_advise 5 = .ok (.invokevirtual 52, 3) := by decide +kernel
theorem dL_advise_8 : decode cL_advise 8 = .ok (.i2l, 1) := by decide +kernel
theorem dL_advise_9 : decode cL_advise 9 = .ok (.lastore, 1) := by decide +kernel
theorem dL_advise_10 : decode cL_advise 10 = .ok (.goto 11, 3) := by decide +kernel
theorem dL_advise_13 : decode cL_advise 13 = .ok (.astore 4, 2) := by decide +kernel
theorem dL_advise_15 : decode cL_advise 15 = .ok (.iconst 1, 1) := by decide +kernel
theorem dL_advise_16 : decode cL_advise 16 = .ok (.ireturn, 1) := by decide +kernel
theorem dL_advise_17 : decode cL_advise 17 = .ok (.astore 4, 2) := by decide +kernel
theorem dL_advise_19 : decode cL_advise 19 = .ok (.iconst 2, 1) := by decide +kernel
theorem dL_advise_20 : decode cL_advise 20 = .ok (.ireturn, 1) := by decide +kernel
theorem dL_advise_21 : decode cL_advise 21 = .ok (.iconst 0, 1) := by decide +kernel
theorem dL_advise_22 : decode cL_advise 22 = .ok (.ireturn, 1) := by decide +kernel
theorem dL_byteAt_0 : decode cL_byteAt 0 = .ok (.aload_n 2, 1) := by decide +kernel
theorem dL_byteAt_1 : decode cL_byteAt 1 = .ok (.iconst 0, 1) := by decide +kernel
theorem dL_byteAt_2 : decode cL_byteAt 2 = .ok (.aload_n 0, 1) := by decide +kernel
theorem dL_byteAt_3 : decode cL_byteAt 3 = .ok (.iload_n 1, 1) := by decide +kernel
theorem dL_byteAt_4 : decode cL_byteAt 4 = .ok (.invokevirtual 61, 3) := by decide +kernel
theorem dL_byteAt_7 : decode cL_byteAt 7 = .ok (.i2l, 1) := by decide +kernel
theorem dL_byteAt_8 : decode cL_byteAt 8 = .ok (.lastore, 1) := by decide +kernel
theorem dL_byteAt_9 : decode cL_byteAt 9 = .ok (.goto 6, 3) := by decide +kernel
theorem dL_byteAt_12 : decode cL_byteAt 12 = .ok (.astore_n 3, 1) := by decide +kernel
theorem dL_byteAt_13 : decode cL_byteAt 13 = .ok (.iconst 1, 1) := by decide +kernel
theorem dL_byteAt_14 : decode cL_byteAt 14 = .ok (.ireturn, 1) := by decide +kernel
theorem dL_byteAt_15 : decode cL_byteAt 15 = .ok (.iconst 0, 1) := by decide +kernel
theorem dL_byteAt_16 : decode cL_byteAt 16 = .ok (.ireturn, 1) := by decide +kernel
theorem dL_concede_0 : decode cL_concede 0 = .ok (.aload_n 2, 1) := by decide +kernel
theorem dL_concede_1 : decode cL_concede 1 = .ok (.iconst 0, 1) := by decide +kernel
theorem dL_concede_2 : decode cL_concede 2 = .ok (.aload_n 0, 1) := by decide +kernel
theorem dL_concede_3 : decode cL_concede 3 = .ok (.iload_n 1, 1) := by decide +kernel
theorem dL_concede_4 : decode cL_concede 4 = .ok (.invokevirtual 49, 3) := by decide +kernel
theorem dL_concede_7 : decode cL_concede 7 = .ok (.i2l, 1) := by decide +kernel
theorem dL_concede_8 : decode cL_concede 8 = .ok (.lastore, 1) := by decide +kernel
theorem dL_concede_9 : decode cL_concede 9 = .ok (.goto 6, 3) := by decide +kernel
theorem dL_concede_12 : decode cL_concede 12 = .ok (.astore_n 3, 1) := by decide +kernel
theorem dL_concede_13 : decode cL_concede 13 = .ok (.iconst 1, 1) := by decide +kernel
theorem dL_concede_14 : decode cL_concede 14 = .ok (.ireturn, 1) := by decide +kernel
theorem dL_concede_15 : decode cL_concede 15 = .ok (.iconst 0, 1) := by decide +kernel
theorem dL_concede_16 : decode cL_concede 16 = .ok (.ireturn, 1) := by decide +kernel
theorem dL_conceding_0 : decode cL_conceding 0 = .ok (.aload_n 3, 1) := by decide +kernel
theorem dL_conceding_1 : decode cL_conceding 1 = .ok (.iconst 0, 1) := by decide +kernel
theorem dL_conceding_2 : decode cL_conceding 2 = .ok (.aload_n 0, 1) := by decide +kernel
theorem dL_conceding_3 : decode cL_conceding 3 = .ok (.iload_n 1, 1) := by decide +kernel
theorem dL_conceding_4 : decode cL_conceding 4 = .ok (.iload_n 2, 1) := by decide +kernel
theorem dL_conceding_5 : decode cL_conceding 5 = .ok (.invokevirtual 46, 3) := by decide +kernel
theorem dL_conceding_8 : decode cL_conceding 8 = .ok (.i2l, 1) := by decide +kernel
theorem dL_conceding_9 : decode cL_conceding 9 = .ok (.lastore, 1) := by decide +kernel
theorem dL_conceding_10 : decode cL_conceding 10 = .ok (.goto 7, 3) := by decide +kernel
theorem dL_conceding_13 : decode cL_conceding 13 = .ok (.astore 4, 2) := by decide +kernel
theorem dL_conceding_15 : decode cL_conceding 15 = .ok (.iconst 1, 1) := by decide +kernel
theorem dL_conceding_16 : decode cL_conceding 16 = .ok (.ireturn, 1) := by decide +kernel
theorem dL_conceding_17 : decode cL_conceding 17 = .ok (.iconst 0, 1) := by decide +kernel
theorem dL_conceding_18 : decode cL_conceding 18 = .ok (.ireturn, 1) := by decide +kernel
theorem dL_count_0 : decode cL_count 0 = .ok (.aload_n 2, 1) := by decide +kernel
theorem dL_count_1 : decode cL_count 1 = .ok (.iconst 0, 1) := by decide +kernel
theorem dL_count_2 : decode cL_count 2 = .ok (.aload_n 0, 1) := by decide +kernel
theorem dL_count_3 : decode cL_count 3 = .ok (.iload_n 1, 1) := by decide +kernel
theorem dL_count_4 : decode cL_count 4 = .ok (.invokevirtual 21, 3) := by decide +kernel
theorem dL_count_7 : decode cL_count 7 = .ok (.i2l, 1) := by decide +kernel
theorem dL_count_8 : decode cL_count 8 = .ok (.lastore, 1) := by decide +kernel
theorem dL_count_9 : decode cL_count 9 = .ok (.goto 6, 3) := by decide +kernel
theorem dL_count_12 : decode cL_count 12 = .ok (.astore_n 3, 1) := by decide +kernel
theorem dL_count_13 : decode cL_count 13 = .ok (.iconst 1, 1) := by decide +kernel
theorem dL_count_14 : decode cL_count 14 = .ok (.ireturn, 1) := by decide +kernel
theorem dL_count_15 : decode cL_count 15 = .ok (.iconst 0, 1) := by decide +kernel
theorem dL_count_16 : decode cL_count 16 = .ok (.ireturn, 1) := by decide +kernel
theorem dL_defends_0 : decode cL_defends 0 = .ok (.aload_n 3, 1) := by decide +kernel
theorem dL_defends_1 : decode cL_defends 1 = .ok (.iconst 0, 1) := by decide +kernel
theorem dL_defends_2 : decode cL_defends 2 = .ok (.aload_n 0, 1) := by decide +kernel
theorem dL_defends_3 : decode cL_defends 3 = .ok (.iload_n 1, 1) := by decide +kernel
theorem dL_defends_4 : decode cL_defends 4 = .ok (.iload_n 2, 1) := by decide +kernel
theorem dL_defends_5 : decode cL_defends 5 = .ok (.invokevirtual 42, 3) := by decide +kernel
theorem dL_defends_8 : decode cL_defends 8 = .ok (.ifCond .eq 7, 3) := by decide +kernel
theorem dL_defends_11 : decode cL_defends 11 = .ok (.lconst 1, 1) := by decide +kernel
theorem dL_defends_12 : decode cL_defends 12 = .ok (.goto 4, 3) := by decide +kernel
theorem dL_defends_15 : decode cL_defends 15 = .ok (.lconst 0, 1) := by decide +kernel
theorem dL_defends_16 : decode cL_defends 16 = .ok (.lastore, 1) := by decide +kernel
theorem dL_defends_17 : decode cL_defends 17 = .ok (.goto 7, 3) := by decide +kernel
theorem dL_defends_20 : decode cL_defends 20 = .ok (.astore 4, 2) := by decide +kernel
theorem dL_defends_22 : decode cL_defends 22 = .ok (.iconst 1, 1) := by decide +kernel
theorem dL_defends_23 : decode cL_defends 23 = .ok (.ireturn, 1) := by decide +kernel
theorem dL_defends_24 : decode cL_defends 24 = .ok (.iconst 0, 1) := by decide +kernel
theorem dL_defends_25 : decode cL_defends 25 = .ok (.ireturn, 1) := by decide +kernel
theorem dL_far_0 : decode cL_far 0 = .ok (.aload_n 2, 1) := by decide +kernel
theorem dL_far_1 : decode cL_far 1 = .ok (.iconst 0, 1) := by decide +kernel
theorem dL_far_2 : decode cL_far 2 = .ok (.aload_n 0, 1) := by decide +kernel
theorem dL_far_3 : decode cL_far 3 = .ok (.iload_n 1, 1) := by decide +kernel
theorem dL_far_4 : decode cL_far 4 = .ok (.invokevirtual 39, 3) := by decide +kernel
theorem dL_far_7 : decode cL_far 7 = .ok (.i2l, 1) := by decide +kernel
theorem dL_far_8 : decode cL_far 8 = .ok (.lastore, 1) := by decide +kernel
theorem dL_far_9 : decode cL_far 9 = .ok (.goto 6, 3) := by decide +kernel
theorem dL_far_12 : decode cL_far 12 = .ok (.astore_n 3, 1) := by decide +kernel
theorem dL_far_13 : decode cL_far 13 = .ok (.iconst 1, 1) := by decide +kernel
theorem dL_far_14 : decode cL_far 14 = .ok (.ireturn, 1) := by decide +kernel
theorem dL_far_15 : decode cL_far 15 = .ok (.iconst 0, 1) := by decide +kernel
theorem dL_far_16 : decode cL_far 16 = .ok (.ireturn, 1) := by decide +kernel
theorem dL_feed_0 : decode cL_feed 0 = .ok (.aload 6, 2) := by decide +kernel
theorem dL_feed_2 : decode cL_feed 2 = .ok (.iconst 0, 1) := by decide +kernel
theorem dL_feed_3 : decode cL_feed 3 = .ok (.aload_n 0, 1) := by decide +kernel
theorem dL_feed_4 : decode cL_feed 4 = .ok (.iload_n 1, 1) := by decide +kernel
theorem dL_feed_5 : decode cL_feed 5 = .ok (.iload_n 2, 1) := by decide +kernel
theorem dL_feed_6 : decode cL_feed 6 = .ok (.iload_n 3, 1) := by decide +kernel
theorem dL_feed_7 : decode cL_feed 7 = .ok (.iload 4, 2) := by decide +kernel
theorem dL_feed_9 : decode cL_feed 9 = .ok (.iload 5, 2) := by decide +kernel
theorem dL_feed_11 : decode cL_feed 11 = .ok (.invokevirtual 7, 3) := by decide +kernel
theorem dL_feed_14 : decode cL_feed 14 = .ok (.i2l, 1) := by decide +kernel
theorem dL_feed_15 : decode cL_feed 15 = .ok (.lastore, 1) := by decide +kernel
theorem dL_feed_16 : decode cL_feed 16 = .ok (.goto 7, 3) := by decide +kernel
theorem dL_feed_19 : decode cL_feed 19 = .ok (.astore 7, 2) := by decide +kernel
theorem dL_feed_21 : decode cL_feed 21 = .ok (.iconst 1, 1) := by decide +kernel
theorem dL_feed_22 : decode cL_feed 22 = .ok (.ireturn, 1) := by decide +kernel
theorem dL_feed_23 : decode cL_feed 23 = .ok (.iconst 0, 1) := by decide +kernel
theorem dL_feed_24 : decode cL_feed 24 = .ok (.ireturn, 1) := by decide +kernel
theorem dL_frees_0 : decode cL_frees 0 = .ok (.aload_n 2, 1) := by decide +kernel
theorem dL_frees_1 : decode cL_frees 1 = .ok (.iconst 0, 1) := by decide +kernel
theorem dL_frees_2 : decode cL_frees 2 = .ok (.aload_n 0, 1) := by decide +kernel
theorem dL_frees_3 : decode cL_frees 3 = .ok (.iload_n 1, 1) := by decide +kernel
theorem dL_frees_4 : decode cL_frees 4 = .ok (.invokevirtual 58, 3) := by decide +kernel
theorem dL_frees_7 : decode cL_frees 7 = .ok (.i2l, 1) := by decide +kernel
theorem dL_frees_8 : decode cL_frees 8 = .ok (.lastore, 1) := by decide +kernel
theorem dL_frees_9 : decode cL_frees 9 = .ok (.goto 6, 3) := by decide +kernel
theorem dL_frees_12 : decode cL_frees 12 = .ok (.astore_n 3, 1) := by decide +kernel
theorem dL_frees_13 : decode cL_frees 13 = .ok (.iconst 1, 1) := by decide +kernel
theorem dL_frees_14 : decode cL_frees 14 = .ok (.ireturn, 1) := by decide +kernel
theorem dL_frees_15 : decode cL_frees 15 = .ok (.iconst 0, 1) := by decide +kernel
theorem dL_frees_16 : decode cL_frees 16 = .ok (.ireturn, 1) := by decide +kernel
theorem dL_give_0 : decode cL_give 0 = .ok (.aload_n 3, 1) := by decide +kernel
theorem dL_give_1 : decode cL_give 1 = .ok (.iconst 0, 1) := by decide +kernel
theorem dL_give_2 : decode cL_give 2 = .ok (.aload_n 0, 1) := by decide +kernel
theorem dL_give_3 : decode cL_give 3 = .ok (.iload_n 1, 1) := by decide +kernel
theorem dL_give_4 : decode cL_give 4 = .ok (.iload_n 2, 1) := by decide +kernel
theorem dL_give_5 : decode cL_give 5 = .ok (.invokevirtual 33, 3) := by decide +kernel
theorem dL_give_8 : decode cL_give 8 = .ok (.i2l, 1) := by decide +kernel
theorem dL_give_9 : decode cL_give 9 = .ok (.lastore, 1) := by decide +kernel
theorem dL_give_10 : decode cL_give 10 = .ok (.goto 11, 3) := by decide +kernel
theorem dL_give_13 : decode cL_give 13 = .ok (.astore 4, 2) := by decide +kernel
theorem dL_give_15 : decode cL_give 15 = .ok (.iconst 1, 1) := by decide +kernel
theorem dL_give_16 : decode cL_give 16 = .ok (.ireturn, 1) := by decide +kernel
theorem dL_give_17 : decode cL_give 17 = .ok (.astore 4, 2) := by decide +kernel
theorem dL_give_19 : decode cL_give 19 = .ok (.iconst 2, 1) := by decide +kernel
theorem dL_give_20 : decode cL_give 20 = .ok (.ireturn, 1) := by decide +kernel
theorem dL_give_21 : decode cL_give 21 = .ok (.iconst 0, 1) := by decide +kernel
theorem dL_give_22 : decode cL_give 22 = .ok (.ireturn, 1) := by decide +kernel
theorem dL_item_0 : decode cL_item 0 = .ok (.aload_n 3, 1) := by decide +kernel
theorem dL_item_1 : decode cL_item 1 = .ok (.iconst 0, 1) := by decide +kernel
theorem dL_item_2 : decode cL_item 2 = .ok (.aload_n 0, 1) := by decide +kernel
theorem dL_item_3 : decode cL_item 3 = .ok (.iload_n 1, 1) := by decide +kernel
theorem dL_item_4 : decode cL_item 4 = .ok (.iload_n 2, 1) := by decide +kernel
theorem dL_item_5 : decode cL_item 5 = .ok (.invokevirtual 30, 3) := by decide +kernel
theorem dL_item_8 : decode cL_item 8 = .ok (.i2l, 1) := by decide +kernel
theorem dL_item_9 : decode cL_item 9 = .ok (.lastore, 1) := by decide +kernel
theorem dL_item_10 : decode cL_item 10 = .ok (.goto 7, 3) := by decide +kernel
theorem dL_item_13 : decode cL_item 13 = .ok (.astore 4, 2) := by decide +kernel
theorem dL_item_15 : decode cL_item 15 = .ok (.iconst 1, 1) := by decide +kernel
theorem dL_item_16 : decode cL_item 16 = .ok (.ireturn, 1) := by decide +kernel
theorem dL_item_17 : decode cL_item 17 = .ok (.iconst 0, 1) := by decide +kernel
theorem dL_item_18 : decode cL_item 18 = .ok (.ireturn, 1) := by decide +kernel
theorem dL_law_0 : decode cL_law 0 = .ok (.new 8, 3) := by decide +kernel
theorem dL_law_3 : decode cL_law 3 = .ok (.dup, 1) := by decide +kernel
theorem dL_law_4 : decode cL_law 4 = .ok (.invokespecial 64, 3) := by decide +kernel
theorem dL_law_7 : decode cL_law 7 = .ok (.astore_n 1, 1) := by decide +kernel
theorem dL_law_8 : decode cL_law 8 = .ok (.new 65, 3) := by decide +kernel
theorem dL_law_11 : decode cL_law 11 = .ok (.dup, 1) := by decide +kernel
theorem dL_law_12 : decode cL_law 12 = .ok (.invokespecial 67, 3) := by decide +kernel
theorem dL_law_15 : decode cL_law 15 = .ok (.astore_n 2, 1) := by decide +kernel
theorem dL_law_16 : decode cL_law 16 = .ok (.iconst 1, 1) := by decide +kernel
theorem dL_law_17 : decode cL_law 17 = .ok (.newarray .long, 2) := by decide +kernel
theorem dL_law_19 : decode cL_law 19 = .ok (.astore_n 3, 1) := by decide +kernel
theorem dL_law_20 : decode cL_law 20 = .ok (.iconst 0, 1) := by decide +kernel
theorem dL_law_21 : decode cL_law 21 = .ok (.istore 4, 2) := by decide +kernel
theorem dL_law_23 : decode cL_law 23 = .ok (.iload 4, 2) := by decide +kernel
theorem dL_law_25 : decode cL_law 25 = .ok (.aload_n 0, 1) := by decide +kernel
theorem dL_law_26 : decode cL_law 26 = .ok (.arraylength, 1) := by decide +kernel
theorem dL_law_27 : decode cL_law 27 = .ok (.bipush 6, 2) := by decide +kernel
theorem dL_law_29 : decode cL_law 29 = .ok (.isub, 1) := by decide +kernel
theorem dL_law_30 : decode cL_law 30 = .ok (.if_icmp .gt 1190, 3) := by decide +kernel
theorem dL_law_33 : decode cL_law 33 = .ok (.aload_n 0, 1) := by decide +kernel
theorem dL_law_34 : decode cL_law 34 = .ok (.iload 4, 2) := by decide +kernel
theorem dL_law_36 : decode cL_law 36 = .ok (.iaload, 1) := by decide +kernel
theorem dL_law_37 : decode cL_law 37 = .ok (.bipush 31, 2) := by decide +kernel
theorem dL_law_39 : decode cL_law 39 = .ok (.iand, 1) := by decide +kernel
theorem dL_law_40 : decode cL_law 40 = .ok (.tableswitch 1174 0 20 #[100, 204, 260, 273, 286, 342, 410, 478, 546, 602, 658, 733, 746, 814, 870, 938, 994, 1050, 1063, 1119, 1160], 100) := by decide +kernel
theorem dL_law_140 : decode cL_law 140 = .ok (.aload_n 1, 1) := by decide +kernel
theorem dL_law_141 : decode cL_law 141 = .ok (.aload_n 0, 1) := by decide +kernel
theorem dL_law_142 : decode cL_law 142 = .ok (.iload 4, 2) := by decide +kernel
theorem dL_law_144 : decode cL_law 144 = .ok (.iconst 1, 1) := by decide +kernel
theorem dL_law_145 : decode cL_law 145 = .ok (.iadd, 1) := by decide +kernel
theorem dL_law_146 : decode cL_law 146 = .ok (.iaload, 1) := by decide +kernel
theorem dL_law_147 : decode cL_law 147 = .ok (.aload_n 0, 1) := by decide +kernel
theorem dL_law_148 : decode cL_law 148 = .ok (.iload 4, 2) := by decide +kernel
theorem dL_law_150 : decode cL_law 150 = .ok (.iconst 2, 1) := by decide +kernel
theorem dL_law_151 : decode cL_law 151 = .ok (.iadd, 1) := by decide +kernel
theorem dL_law_152 : decode cL_law 152 = .ok (.iaload, 1) := by decide +kernel
theorem dL_law_153 : decode cL_law 153 = .ok (.aload_n 0, 1) := by decide +kernel
theorem dL_law_154 : decode cL_law 154 = .ok (.iload 4, 2) := by decide +kernel
theorem dL_law_156 : decode cL_law 156 = .ok (.iconst 3, 1) := by decide +kernel
theorem dL_law_157 : decode cL_law 157 = .ok (.iadd, 1) := by decide +kernel
theorem dL_law_158 : decode cL_law 158 = .ok (.iaload, 1) := by decide +kernel
theorem dL_law_159 : decode cL_law 159 = .ok (.aload_n 0, 1) := by decide +kernel
theorem dL_law_160 : decode cL_law 160 = .ok (.iload 4, 2) := by decide +kernel
theorem dL_law_162 : decode cL_law 162 = .ok (.iconst 4, 1) := by decide +kernel
theorem dL_law_163 : decode cL_law 163 = .ok (.iadd, 1) := by decide +kernel
theorem dL_law_164 : decode cL_law 164 = .ok (.iaload, 1) := by decide +kernel
theorem dL_law_165 : decode cL_law 165 = .ok (.aload_n 0, 1) := by decide +kernel
theorem dL_law_166 : decode cL_law 166 = .ok (.iload 4, 2) := by decide +kernel
theorem dL_law_168 : decode cL_law 168 = .ok (.iconst 5, 1) := by decide +kernel
theorem dL_law_169 : decode cL_law 169 = .ok (.iadd, 1) := by decide +kernel
theorem dL_law_170 : decode cL_law 170 = .ok (.iaload, 1) := by decide +kernel
theorem dL_law_171 : decode cL_law 171 = .ok (.aload_n 3, 1) := by decide +kernel
theorem dL_law_172 : decode cL_law 172 = .ok (.invokestatic 68, 3) := by decide +kernel
theorem dL_law_175 : decode cL_law 175 = .ok (.istore 5, 2) := by decide +kernel
theorem dL_law_177 : decode cL_law 177 = .ok (.aload_n 2, 1) := by decide +kernel
theorem dL_law_178 : decode cL_law 178 = .ok (.aload_n 0, 1) := by decide +kernel
theorem dL_law_179 : decode cL_law 179 = .ok (.iload 4, 2) := by decide +kernel
theorem dL_law_181 : decode cL_law 181 = .ok (.iconst 1, 1) := by decide +kernel
theorem dL_law_182 : decode cL_law 182 = .ok (.iadd, 1) := by decide +kernel
theorem dL_law_183 : decode cL_law 183 = .ok (.iaload, 1) := by decide +kernel
theorem dL_law_184 : decode cL_law 184 = .ok (.aload_n 0, 1) := by decide +kernel
theorem dL_law_185 : decode cL_law 185 = .ok (.iload 4, 2) := by decide +kernel
theorem dL_law_187 : decode cL_law 187 = .ok (.iconst 2, 1) := by decide +kernel
theorem dL_law_188 : decode cL_law 188 = .ok (.iadd, 1) := by decide +kernel
theorem dL_law_189 : decode cL_law 189 = .ok (.iaload, 1) := by decide +kernel
theorem dL_law_190 : decode cL_law 190 = .ok (.aload_n 0, 1) := by decide +kernel
theorem dL_law_191 : decode cL_law 191 = .ok (.iload 4, 2) := by decide +kernel
theorem dL_law_193 : decode cL_law 193 = .ok (.iconst 3, 1) := by decide +kernel
theorem dL_law_194 : decode cL_law 194 = .ok (.iadd, 1) := by decide +kernel
theorem dL_law_195 : decode cL_law 195 = .ok (.iaload, 1) := by decide +kernel
theorem dL_law_196 : decode cL_law 196 = .ok (.aload_n 0, 1) := by decide +kernel
theorem dL_law_197 : decode cL_law 197 = .ok (.iload 4, 2) := by decide +kernel
theorem dL_law_199 : decode cL_law 199 = .ok (.iconst 4, 1) := by decide +kernel
theorem dL_law_200 : decode cL_law 200 = .ok (.iadd, 1) := by decide +kernel
theorem dL_law_201 : decode cL_law 201 = .ok (.iaload, 1) := by decide +kernel
theorem dL_law_202 : decode cL_law 202 = .ok (.aload_n 0, 1) := by decide +kernel
theorem dL_law_203 : decode cL_law 203 = .ok (.iload 4, 2) := by decide +kernel
theorem dL_law_205 : decode cL_law 205 = .ok (.iconst 5, 1) := by decide +kernel
theorem dL_law_206 : decode cL_law 206 = .ok (.iadd, 1) := by decide +kernel
theorem dL_law_207 : decode cL_law 207 = .ok (.iaload, 1) := by decide +kernel
theorem dL_law_208 : decode cL_law 208 = .ok (.invokevirtual 73, 3) := by decide +kernel
theorem dL_law_211 : decode cL_law 211 = .ok (.istore 6, 2) := by decide +kernel
theorem dL_law_213 : decode cL_law 213 = .ok (.aload_n 2, 1) := by decide +kernel
theorem dL_law_214 : decode cL_law 214 = .ok (.invokevirtual 74, 3) := by decide +kernel
theorem dL_law_217 : decode cL_law 217 = .ok (.iload 5, 2) := by decide +kernel
theorem dL_law_219 : decode cL_law 219 = .ok (.if_icmp .eq 5, 3) := by decide +kernel
theorem dL_law_222 : decode cL_law 222 = .ok (.iconst 0, 1) := by decide +kernel
theorem dL_law_223 : decode cL_law 223 = .ok (.ireturn, 1) := by decide +kernel
theorem dL_law_224 : decode cL_law 224 = .ok (.iload 5, 2) := by decide +kernel
theorem dL_law_226 : decode cL_law 226 = .ok (.ifCond .ne 15, 3) := by decide +kernel
theorem dL_law_229 : decode cL_law 229 = .ok (.aload_n 3, 1) := by decide +kernel
theorem dL_law_230 : decode cL_law 230 = .ok (.iconst 0, 1) := by decide +kernel
theorem dL_law_231 : decode cL_law 231 = .ok (.laload, 1) := by decide +kernel
theorem dL_law_232 : decode cL_law 232 = .ok (.iload 6, 2) := by decide +kernel
theorem dL_law_234 : decode cL_law 234 = .ok (.i2l, 1) := by decide +kernel
theorem dL_law_235 : decode cL_law 235 = .ok (.lcmp, 1) := by decide +kernel
theorem dL_law_236 : decode cL_law 236 = .ok (.ifCond .eq 5, 3) := by decide +kernel
theorem dL_law_239 : decode cL_law 239 = .ok (.iconst 0, 1) := by decide +kernel
theorem dL_law_240 : decode cL_law 240 = .ok (.ireturn, 1) := by decide +kernel
theorem dL_law_241 : decode cL_law 241 = .ok (.goto 973, 3) := by decide +kernel
theorem dL_law_244 : decode cL_law 244 = .ok (.aload_n 1, 1) := by decide +kernel
theorem dL_law_245 : decode cL_law 245 = .ok (.aload_n 0, 1) := by decide +kernel
theorem dL_law_246 : decode cL_law 246 = .ok (.iload 4, 2) := by decide +kernel
theorem dL_law_248 : decode cL_law 248 = .ok (.iconst 1, 1) := by decide +kernel
theorem dL_law_249 : decode cL_law 249 = .ok (.iadd, 1) := by decide +kernel
theorem dL_law_250 : decode cL_law 250 = .ok (.iaload, 1) := by decide +kernel
theorem dL_law_251 : decode cL_law 251 = .ok (.aload_n 3, 1) := by decide +kernel
theorem dL_law_252 : decode cL_law 252 = .ok (.invokestatic 78, 3) := by decide +kernel
theorem dL_law_255 : decode cL_law 255 = .ok (.istore 5, 2) := by decide +kernel
theorem dL_law_257 : decode cL_law 257 = .ok (.aload_n 2, 1) := by decide +kernel
theorem dL_law_258 : decode cL_law 258 = .ok (.aload_n 0, 1) := by decide +kernel
theorem dL_law_259 : decode cL_law 259 = .ok (.iload 4, 2) := by decide +kernel
theorem dL_law_261 : decode cL_law 261 = .ok (.iconst 1, 1) := by decide +kernel
theorem dL_law_262 : decode cL_law 262 = .ok (.iadd, 1) := by decide +kernel
theorem dL_law_263 : decode cL_law 263 = .ok (.iaload, 1) := by decide +kernel
theorem dL_law_264 : decode cL_law 264 = .ok (.invokevirtual 81, 3) := by decide +kernel
theorem dL_law_267 : decode cL_law 267 = .ok (.istore 6, 2) := by decide +kernel
theorem dL_law_269 : decode cL_law 269 = .ok (.aload_n 2, 1) := by decide +kernel
theorem dL_law_270 : decode cL_law 270 = .ok (.invokevirtual 74, 3) := by decide +kernel
theorem dL_law_273 : decode cL_law 273 = .ok (.iload 5, 2) := by decide +kernel
theorem dL_law_275 : decode cL_law 275 = .ok (.if_icmp .eq 5, 3) := by decide +kernel
theorem dL_law_278 : decode cL_law 278 = .ok (.iconst 0, 1) := by decide +kernel
theorem dL_law_279 : decode cL_law 279 = .ok (.ireturn, 1) := by decide +kernel
theorem dL_law_280 : decode cL_law 280 = .ok (.iload 5, 2) := by decide +kernel
theorem dL_law_282 : decode cL_law 282 = .ok (.ifCond .ne 15, 3) := by decide +kernel
theorem dL_law_285 : decode cL_law 285 = .ok (.aload_n 3, 1) := by decide +kernel
theorem dL_law_286 : decode cL_law 286 = .ok (.iconst 0, 1) := by decide +kernel
theorem dL_law_287 : decode cL_law 287 = .ok (.laload, 1) := by decide +kernel
theorem dL_law_288 : decode cL_law 288 = .ok (.iload 6, 2) := by decide +kernel
theorem dL_law_290 : decode cL_law 290 = .ok (.i2l, 1) := by decide +kernel
theorem dL_law_291 : decode cL_law 291 = .ok (.lcmp, 1) := by decide +kernel
theorem dL_law_292 : decode cL_law 292 = .ok (.ifCond .eq 5, 3) := by decide +kernel
theorem dL_law_295 : decode cL_law 295 = .ok (.iconst 0, 1) := by decide +kernel
theorem dL_law_296 : decode cL_law 296 = .ok (.ireturn, 1) := by decide +kernel
theorem dL_law_297 : decode cL_law 297 = .ok (.goto 917, 3) := by decide +kernel
theorem dL_law_300 : decode cL_law 300 = .ok (.aload_n 1, 1) := by decide +kernel
theorem dL_law_301 : decode cL_law 301 = .ok (.invokevirtual 82, 3) := by decide +kernel
theorem dL_law_304 : decode cL_law 304 = .ok (.aload_n 2, 1) := by decide +kernel
theorem dL_law_305 : decode cL_law 305 = .ok (.invokevirtual 85, 3) := by decide +kernel
theorem dL_law_308 : decode cL_law 308 = .ok (.if_icmp .eq 906, 3) := by decide +kernel
theorem dL_law_311 : decode cL_law 311 = .ok (.iconst 0, 1) := by decide +kernel
theorem dL_law_312 : decode cL_law 312 = .ok (.ireturn, 1) := by decide +kernel
theorem dL_law_313 : decode cL_law 313 = .ok (.aload_n 1, 1) := by decide +kernel
theorem dL_law_314 : decode cL_law 314 = .ok (.invokevirtual 86, 3) := by decide +kernel
theorem dL_law_317 : decode cL_law 317 = .ok (.aload_n 2, 1) := by decide +kernel
theorem dL_law_318 : decode cL_law 318 = .ok (.invokevirtual 89, 3) := by decide +kernel
theorem dL_law_321 : decode cL_law 321 = .ok (.if_icmp .eq 893, 3) := by decide +kernel
theorem dL_law_324 : decode cL_law 324 = .ok (.iconst 0, 1) := by decide +kernel
theorem dL_law_325 : decode cL_law 325 = .ok (.ireturn, 1) := by decide +kernel
theorem dL_law_326 : decode cL_law 326 = .ok (.aload_n 1, 1) := by decide +kernel
theorem dL_law_327 : decode cL_law 327 = .ok (.aload_n 0, 1) := by decide +kernel
theorem dL_law_328 : decode cL_law 328 = .ok (.iload 4, 2) := by decide +kernel
theorem dL_law_330 : decode cL_law 330 = .ok (.iconst 1, 1) := by decide +kernel
theorem dL_law_331 : decode cL_law 331 = .ok (.iadd, 1) := by decide +kernel
theorem dL_law_332 : decode cL_law 332 = .ok (.iaload, 1) := by decide +kernel
theorem dL_law_333 : decode cL_law 333 = .ok (.aload_n 3, 1) := by decide +kernel
theorem dL_law_334 : decode cL_law 334 = .ok (.invokestatic 90, 3) := by decide +kernel
theorem dL_law_337 : decode cL_law 337 = .ok (.istore 5, 2) := by decide +kernel
theorem dL_law_339 : decode cL_law 339 = .ok (.aload_n 2, 1) := by decide +kernel
theorem dL_law_340 : decode cL_law 340 = .ok (.aload_n 0, 1) := by decide +kernel
theorem dL_law_341 : decode cL_law 341 = .ok (.iload 4, 2) := by decide +kernel
theorem dL_law_343 : decode cL_law 343 = .ok (.iconst 1, 1) := by decide +kernel
theorem dL_law_344 : decode cL_law 344 = .ok (.iadd, 1) := by decide +kernel
theorem dL_law_345 : decode cL_law 345 = .ok (.iaload, 1) := by decide +kernel
theorem dL_law_346 : decode cL_law 346 = .ok (.invokevirtual 92, 3) := by decide +kernel
theorem dL_law_349 : decode cL_law 349 = .ok (.istore 6, 2) := by decide +kernel
theorem dL_law_351 : decode cL_law 351 = .ok (.aload_n 2, 1) := by decide +kernel
theorem dL_law_352 : decode cL_law 352 = .ok (.invokevirtual 74, 3) := by decide +kernel
theorem dL_law_355 : decode cL_law 355 = .ok (.iload 5, 2) := by decide +kernel
theorem dL_law_357 : decode cL_law 357 = .ok (.if_icmp .eq 5, 3) := by decide +kernel
theorem dL_law_360 : decode cL_law 360 = .ok (.iconst 0, 1) := by decide +kernel
theorem dL_law_361 : decode cL_law 361 = .ok (.ireturn, 1) := by decide +kernel
theorem dL_law_362 : decode cL_law 362 = .ok (.iload 5, 2) := by decide +kernel
theorem dL_law_364 : decode cL_law 364 = .ok (.ifCond .ne 15, 3) := by decide +kernel
theorem dL_law_367 : decode cL_law 367 = .ok (.aload_n 3, 1) := by decide +kernel
theorem dL_law_368 : decode cL_law 368 = .ok (.iconst 0, 1) := by decide +kernel
theorem dL_law_369 : decode cL_law 369 = .ok (.laload, 1) := by decide +kernel
theorem dL_law_370 : decode cL_law 370 = .ok (.iload 6, 2) := by decide +kernel
theorem dL_law_372 : decode cL_law 372 = .ok (.i2l, 1) := by decide +kernel
theorem dL_law_373 : decode cL_law 373 = .ok (.lcmp, 1) := by decide +kernel
theorem dL_law_374 : decode cL_law 374 = .ok (.ifCond .eq 5, 3) := by decide +kernel
theorem dL_law_377 : decode cL_law 377 = .ok (.iconst 0, 1) := by decide +kernel
theorem dL_law_378 : decode cL_law 378 = .ok (.ireturn, 1) := by decide +kernel
theorem dL_law_379 : decode cL_law 379 = .ok (.goto 835, 3) := by decide +kernel
theorem dL_law_382 : decode cL_law 382 = .ok (.aload_n 1, 1) := by decide +kernel
theorem dL_law_383 : decode cL_law 383 = .ok (.aload_n 0, 1) := by decide +kernel
theorem dL_law_384 : decode cL_law 384 = .ok (.iload 4, 2) := by decide +kernel
theorem dL_law_386 : decode cL_law 386 = .ok (.iconst 1, 1) := by decide +kernel
theorem dL_law_387 : decode cL_law 387 = .ok (.iadd, 1) := by decide +kernel
theorem dL_law_388 : decode cL_law 388 = .ok (.iaload, 1) := by decide +kernel
theorem dL_law_389 : decode cL_law 389 = .ok (.aload_n 0, 1) := by decide +kernel
theorem dL_law_390 : decode cL_law 390 = .ok (.iload 4, 2) := by decide +kernel
theorem dL_law_392 : decode cL_law 392 = .ok (.iconst 2, 1) := by decide +kernel
theorem dL_law_393 : decode cL_law 393 = .ok (.iadd, 1) := by decide +kernel
theorem dL_law_394 : decode cL_law 394 = .ok (.iaload, 1) := by decide +kernel
theorem dL_law_395 : decode cL_law 395 = .ok (.aload_n 3, 1) := by decide +kernel
theorem dL_law_396 : decode cL_law 396 = .ok (.invokestatic 93, 3) := by decide +kernel
theorem dL_law_399 : decode cL_law 399 = .ok (.istore 5, 2) := by decide +kernel
theorem dL_law_401 : decode cL_law 401 = .ok (.aload_n 2, 1) := by decide +kernel
theorem dL_law_402 : decode cL_law 402 = .ok (.aload_n 0, 1) := by decide +kernel
theorem dL_law_403 : decode cL_law 403 = .ok (.iload 4, 2) := by decide +kernel
theorem dL_law_405 : decode cL_law 405 = .ok (.iconst 1, 1) := by decide +kernel
theorem dL_law_406 : decode cL_law 406 = .ok (.iadd, 1) := by decide +kernel
theorem dL_law_407 : decode cL_law 407 = .ok (.iaload, 1) := by decide +kernel
theorem dL_law_408 : decode cL_law 408 = .ok (.aload_n 0, 1) := by decide +kernel
theorem dL_law_409 : decode cL_law 409 = .ok (.iload 4, 2) := by decide +kernel
theorem dL_law_411 : decode cL_law 411 = .ok (.iconst 2, 1) := by decide +kernel
theorem dL_law_412 : decode cL_law 412 = .ok (.iadd, 1) := by decide +kernel
theorem dL_law_413 : decode cL_law 413 = .ok (.iaload, 1) := by decide +kernel
theorem dL_law_414 : decode cL_law 414 = .ok (.invokevirtual 96, 3) := by decide +kernel
theorem dL_law_417 : decode cL_law 417 = .ok (.istore 6, 2) := by decide +kernel
theorem dL_law_419 : decode cL_law 419 = .ok (.aload_n 2, 1) := by decide +kernel
theorem dL_law_420 : decode cL_law 420 = .ok (.invokevirtual 74, 3) := by decide +kernel
theorem dL_law_423 : decode cL_law 423 = .ok (.iload 5, 2) := by decide +kernel
theorem dL_law_425 : decode cL_law 425 = .ok (.if_icmp .eq 5, 3) := by decide +kernel
theorem dL_law_428 : decode cL_law 428 = .ok (.iconst 0, 1) := by decide +kernel
theorem dL_law_429 : decode cL_law 429 = .ok (.ireturn, 1) := by decide +kernel
theorem dL_law_430 : decode cL_law 430 = .ok (.iload 5, 2) := by decide +kernel
theorem dL_law_432 : decode cL_law 432 = .ok (.ifCond .ne 15, 3) := by decide +kernel
theorem dL_law_435 : decode cL_law 435 = .ok (.aload_n 3, 1) := by decide +kernel
theorem dL_law_436 : decode cL_law 436 = .ok (.iconst 0, 1) := by decide +kernel
theorem dL_law_437 : decode cL_law 437 = .ok (.laload, 1) := by decide +kernel
theorem dL_law_438 : decode cL_law 438 = .ok (.iload 6, 2) := by decide +kernel
theorem dL_law_440 : decode cL_law 440 = .ok (.i2l, 1) := by decide +kernel
theorem dL_law_441 : decode cL_law 441 = .ok (.lcmp, 1) := by decide +kernel
theorem dL_law_442 : decode cL_law 442 = .ok (.ifCond .eq 5, 3) := by decide +kernel
theorem dL_law_445 : decode cL_law 445 = .ok (.iconst 0, 1) := by decide +kernel
theorem dL_law_446 : decode cL_law 446 = .ok (.ireturn, 1) := by decide +kernel
theorem dL_law_447 : decode cL_law 447 = .ok (.goto 767, 3) := by decide +kernel
theorem dL_law_450 : decode cL_law 450 = .ok (.aload_n 1, 1) := by decide +kernel
theorem dL_law_451 : decode cL_law 451 = .ok (.aload_n 0, 1) := by decide +kernel
theorem dL_law_452 : decode cL_law 452 = .ok (.iload 4, 2) := by decide +kernel
theorem dL_law_454 : decode cL_law 454 = .ok (.iconst 1, 1) := by decide +kernel
theorem dL_law_455 : decode cL_law 455 = .ok (.iadd, 1) := by decide +kernel
theorem dL_law_456 : decode cL_law 456 = .ok (.iaload, 1) := by decide +kernel
theorem dL_law_457 : decode cL_law 457 = .ok (.aload_n 0, 1) := by decide +kernel
theorem dL_law_458 : decode cL_law 458 = .ok (.iload 4, 2) := by decide +kernel
theorem dL_law_460 : decode cL_law 460 = .ok (.iconst 2, 1) := by decide +kernel
theorem dL_law_461 : decode cL_law 461 = .ok (.iadd, 1) := by decide +kernel
theorem dL_law_462 : decode cL_law 462 = .ok (.iaload, 1) := by decide +kernel
theorem dL_law_463 : decode cL_law 463 = .ok (.aload_n 3, 1) := by decide +kernel
theorem dL_law_464 : decode cL_law 464 = .ok (.invokestatic 97, 3) := by decide +kernel
theorem dL_law_467 : decode cL_law 467 = .ok (.istore 5, 2) := by decide +kernel
theorem dL_law_469 : decode cL_law 469 = .ok (.aload_n 2, 1) := by decide +kernel
theorem dL_law_470 : decode cL_law 470 = .ok (.aload_n 0, 1) := by decide +kernel
theorem dL_law_471 : decode cL_law 471 = .ok (.iload 4, 2) := by decide +kernel
theorem dL_law_473 : decode cL_law 473 = .ok (.iconst 1, 1) := by decide +kernel
theorem dL_law_474 : decode cL_law 474 = .ok (.iadd, 1) := by decide +kernel
theorem dL_law_475 : decode cL_law 475 = .ok (.iaload, 1) := by decide +kernel
theorem dL_law_476 : decode cL_law 476 = .ok (.aload_n 0, 1) := by decide +kernel
theorem dL_law_477 : decode cL_law 477 = .ok (.iload 4, 2) := by decide +kernel
theorem dL_law_479 : decode cL_law 479 = .ok (.iconst 2, 1) := by decide +kernel
theorem dL_law_480 : decode cL_law 480 = .ok (.iadd, 1) := by decide +kernel
theorem dL_law_481 : decode cL_law 481 = .ok (.iaload, 1) := by decide +kernel
theorem dL_law_482 : decode cL_law 482 = .ok (.invokevirtual 99, 3) := by decide +kernel
theorem dL_law_485 : decode cL_law 485 = .ok (.istore 6, 2) := by decide +kernel
theorem dL_law_487 : decode cL_law 487 = .ok (.aload_n 2, 1) := by decide +kernel
theorem dL_law_488 : decode cL_law 488 = .ok (.invokevirtual 74, 3) := by decide +kernel
theorem dL_law_491 : decode cL_law 491 = .ok (.iload 5, 2) := by decide +kernel
theorem dL_law_493 : decode cL_law 493 = .ok (.if_icmp .eq 5, 3) := by decide +kernel
theorem dL_law_496 : decode cL_law 496 = .ok (.iconst 0, 1) := by decide +kernel
theorem dL_law_497 : decode cL_law 497 = .ok (.ireturn, 1) := by decide +kernel
theorem dL_law_498 : decode cL_law 498 = .ok (.iload 5, 2) := by decide +kernel
theorem dL_law_500 : decode cL_law 500 = .ok (.ifCond .ne 15, 3) := by decide +kernel
theorem dL_law_503 : decode cL_law 503 = .ok (.aload_n 3, 1) := by decide +kernel
theorem dL_law_504 : decode cL_law 504 = .ok (.iconst 0, 1) := by decide +kernel
theorem dL_law_505 : decode cL_law 505 = .ok (.laload, 1) := by decide +kernel
theorem dL_law_506 : decode cL_law 506 = .ok (.iload 6, 2) := by decide +kernel
theorem dL_law_508 : decode cL_law 508 = .ok (.i2l, 1) := by decide +kernel
theorem dL_law_509 : decode cL_law 509 = .ok (.lcmp, 1) := by decide +kernel
theorem dL_law_510 : decode cL_law 510 = .ok (.ifCond .eq 5, 3) := by decide +kernel
theorem dL_law_513 : decode cL_law 513 = .ok (.iconst 0, 1) := by decide +kernel
theorem dL_law_514 : decode cL_law 514 = .ok (.ireturn, 1) := by decide +kernel
theorem dL_law_515 : decode cL_law 515 = .ok (.goto 699, 3) := by decide +kernel
theorem dL_law_518 : decode cL_law 518 = .ok (.aload_n 1, 1) := by decide +kernel
theorem dL_law_519 : decode cL_law 519 = .ok (.aload_n 0, 1) := by decide +kernel
theorem dL_law_520 : decode cL_law 520 = .ok (.iload 4, 2) := by decide +kernel
theorem dL_law_522 : decode cL_law 522 = .ok (.iconst 1, 1) := by decide +kernel
theorem dL_law_523 : decode cL_law 523 = .ok (.iadd, 1) := by decide +kernel
theorem dL_law_524 : decode cL_law 524 = .ok (.iaload, 1) := by decide +kernel
theorem dL_law_525 : decode cL_law 525 = .ok (.aload_n 0, 1) := by decide +kernel
theorem dL_law_526 : decode cL_law 526 = .ok (.iload 4, 2) := by decide +kernel
theorem dL_law_528 : decode cL_law 528 = .ok (.iconst 2, 1) := by decide +kernel
theorem dL_law_529 : decode cL_law 529 = .ok (.iadd, 1) := by decide +kernel
theorem dL_law_530 : decode cL_law 530 = .ok (.iaload, 1) := by decide +kernel
theorem dL_law_531 : decode cL_law 531 = .ok (.aload_n 3, 1) := by decide +kernel
theorem dL_law_532 : decode cL_law 532 = .ok (.invokestatic 100, 3) := by decide +kernel
theorem dL_law_535 : decode cL_law 535 = .ok (.istore 5, 2) := by decide +kernel
theorem dL_law_537 : decode cL_law 537 = .ok (.aload_n 2, 1) := by decide +kernel
theorem dL_law_538 : decode cL_law 538 = .ok (.aload_n 0, 1) := by decide +kernel
theorem dL_law_539 : decode cL_law 539 = .ok (.iload 4, 2) := by decide +kernel
theorem dL_law_541 : decode cL_law 541 = .ok (.iconst 1, 1) := by decide +kernel
theorem dL_law_542 : decode cL_law 542 = .ok (.iadd, 1) := by decide +kernel
theorem dL_law_543 : decode cL_law 543 = .ok (.iaload, 1) := by decide +kernel
theorem dL_law_544 : decode cL_law 544 = .ok (.aload_n 0, 1) := by decide +kernel
theorem dL_law_545 : decode cL_law 545 = .ok (.iload 4, 2) := by decide +kernel
theorem dL_law_547 : decode cL_law 547 = .ok (.iconst 2, 1) := by decide +kernel
theorem dL_law_548 : decode cL_law 548 = .ok (.iadd, 1) := by decide +kernel
theorem dL_law_549 : decode cL_law 549 = .ok (.iaload, 1) := by decide +kernel
theorem dL_law_550 : decode cL_law 550 = .ok (.invokevirtual 102, 3) := by decide +kernel
theorem dL_law_553 : decode cL_law 553 = .ok (.istore 6, 2) := by decide +kernel
theorem dL_law_555 : decode cL_law 555 = .ok (.aload_n 2, 1) := by decide +kernel
theorem dL_law_556 : decode cL_law 556 = .ok (.invokevirtual 74, 3) := by decide +kernel
theorem dL_law_559 : decode cL_law 559 = .ok (.iload 5, 2) := by decide +kernel
theorem dL_law_561 : decode cL_law 561 = .ok (.if_icmp .eq 5, 3) := by decide +kernel
theorem dL_law_564 : decode cL_law 564 = .ok (.iconst 0, 1) := by decide +kernel
theorem dL_law_565 : decode cL_law 565 = .ok (.ireturn, 1) := by decide +kernel
theorem dL_law_566 : decode cL_law 566 = .ok (.iload 5, 2) := by decide +kernel
theorem dL_law_568 : decode cL_law 568 = .ok (.ifCond .ne 15, 3) := by decide +kernel
theorem dL_law_571 : decode cL_law 571 = .ok (.aload_n 3, 1) := by decide +kernel
theorem dL_law_572 : decode cL_law 572 = .ok (.iconst 0, 1) := by decide +kernel
theorem dL_law_573 : decode cL_law 573 = .ok (.laload, 1) := by decide +kernel
theorem dL_law_574 : decode cL_law 574 = .ok (.iload 6, 2) := by decide +kernel
theorem dL_law_576 : decode cL_law 576 = .ok (.i2l, 1) := by decide +kernel
theorem dL_law_577 : decode cL_law 577 = .ok (.lcmp, 1) := by decide +kernel
theorem dL_law_578 : decode cL_law 578 = .ok (.ifCond .eq 5, 3) := by decide +kernel
theorem dL_law_581 : decode cL_law 581 = .ok (.iconst 0, 1) := by decide +kernel
theorem dL_law_582 : decode cL_law 582 = .ok (.ireturn, 1) := by decide +kernel
theorem dL_law_583 : decode cL_law 583 = .ok (.goto 631, 3) := by decide +kernel
theorem dL_law_586 : decode cL_law 586 = .ok (.aload_n 1, 1) := by decide +kernel
theorem dL_law_587 : decode cL_law 587 = .ok (.aload_n 0, 1) := by decide +kernel
theorem dL_law_588 : decode cL_law 588 = .ok (.iload 4, 2) := by decide +kernel
theorem dL_law_590 : decode cL_law 590 = .ok (.iconst 1, 1) := by decide +kernel
theorem dL_law_591 : decode cL_law 591 = .ok (.iadd, 1) := by decide +kernel
theorem dL_law_592 : decode cL_law 592 = .ok (.iaload, 1) := by decide +kernel
theorem dL_law_593 : decode cL_law 593 = .ok (.aload_n 3, 1) := by decide +kernel
theorem dL_law_594 : decode cL_law 594 = .ok (.invokestatic 103, 3) := by decide +kernel
theorem dL_law_597 : decode cL_law 597 = .ok (.istore 5, 2) := by decide +kernel
theorem dL_law_599 : decode cL_law 599 = .ok (.aload_n 2, 1) := by decide +kernel
theorem dL_law_600 : decode cL_law 600 = .ok (.aload_n 0, 1) := by decide +kernel
theorem dL_law_601 : decode cL_law 601 = .ok (.iload 4, 2) := by decide +kernel
theorem dL_law_603 : decode cL_law 603 = .ok (.iconst 1, 1) := by decide +kernel
theorem dL_law_604 : decode cL_law 604 = .ok (.iadd, 1) := by decide +kernel
theorem dL_law_605 : decode cL_law 605 = .ok (.iaload, 1) := by decide +kernel
theorem dL_law_606 : decode cL_law 606 = .ok (.invokevirtual 105, 3) := by decide +kernel
theorem dL_law_609 : decode cL_law 609 = .ok (.istore 6, 2) := by decide +kernel
theorem dL_law_611 : decode cL_law 611 = .ok (.aload_n 2, 1) := by decide +kernel
theorem dL_law_612 : decode cL_law 612 = .ok (.invokevirtual 74, 3) := by decide +kernel
theorem dL_law_615 : decode cL_law 615 = .ok (.iload 5, 2) := by decide +kernel
theorem dL_law_617 : decode cL_law 617 = .ok (.if_icmp .eq 5, 3) := by decide +kernel
theorem dL_law_620 : decode cL_law 620 = .ok (.iconst 0, 1) := by decide +kernel
theorem dL_law_621 : decode cL_law 621 = .ok (.ireturn, 1) := by decide +kernel
theorem dL_law_622 : decode cL_law 622 = .ok (.iload 5, 2) := by decide +kernel
theorem dL_law_624 : decode cL_law 624 = .ok (.ifCond .ne 15, 3) := by decide +kernel
theorem dL_law_627 : decode cL_law 627 = .ok (.aload_n 3, 1) := by decide +kernel
theorem dL_law_628 : decode cL_law 628 = .ok (.iconst 0, 1) := by decide +kernel
theorem dL_law_629 : decode cL_law 629 = .ok (.laload, 1) := by decide +kernel
theorem dL_law_630 : decode cL_law 630 = .ok (.iload 6, 2) := by decide +kernel
theorem dL_law_632 : decode cL_law 632 = .ok (.i2l, 1) := by decide +kernel
theorem dL_law_633 : decode cL_law 633 = .ok (.lcmp, 1) := by decide +kernel
theorem dL_law_634 : decode cL_law 634 = .ok (.ifCond .eq 5, 3) := by decide +kernel
theorem dL_law_637 : decode cL_law 637 = .ok (.iconst 0, 1) := by decide +kernel
theorem dL_law_638 : decode cL_law 638 = .ok (.ireturn, 1) := by decide +kernel
theorem dL_law_639 : decode cL_law 639 = .ok (.goto 575, 3) := by decide +kernel
theorem dL_law_642 : decode cL_law 642 = .ok (.aload_n 1, 1) := by decide +kernel
theorem dL_law_643 : decode cL_law 643 = .ok (.aload_n 0, 1) := by decide +kernel
theorem dL_law_644 : decode cL_law 644 = .ok (.iload 4, 2) := by decide +kernel
theorem dL_law_646 : decode cL_law 646 = .ok (.iconst 1, 1) := by decide +kernel
theorem dL_law_647 : decode cL_law 647 = .ok (.iadd, 1) := by decide +kernel
theorem dL_law_648 : decode cL_law 648 = .ok (.iaload, 1) := by decide +kernel
theorem dL_law_649 : decode cL_law 649 = .ok (.aload_n 3, 1) := by decide +kernel
theorem dL_law_650 : decode cL_law 650 = .ok (.invokestatic 106, 3) := by decide +kernel
theorem dL_law_653 : decode cL_law 653 = .ok (.istore 5, 2) := by decide +kernel
theorem dL_law_655 : decode cL_law 655 = .ok (.aload_n 2, 1) := by decide +kernel
theorem dL_law_656 : decode cL_law 656 = .ok (.aload_n 0, 1) := by decide +kernel
theorem dL_law_657 : decode cL_law 657 = .ok (.iload 4, 2) := by decide +kernel
theorem dL_law_659 : decode cL_law 659 = .ok (.iconst 1, 1) := by decide +kernel
theorem dL_law_660 : decode cL_law 660 = .ok (.iadd, 1) := by decide +kernel
theorem dL_law_661 : decode cL_law 661 = .ok (.iaload, 1) := by decide +kernel
theorem dL_law_662 : decode cL_law 662 = .ok (.invokevirtual 108, 3) := by decide +kernel
theorem dL_law_665 : decode cL_law 665 = .ok (.istore 6, 2) := by decide +kernel
theorem dL_law_667 : decode cL_law 667 = .ok (.aload_n 2, 1) := by decide +kernel
theorem dL_law_668 : decode cL_law 668 = .ok (.invokevirtual 74, 3) := by decide +kernel
theorem dL_law_671 : decode cL_law 671 = .ok (.iload 5, 2) := by decide +kernel
theorem dL_law_673 : decode cL_law 673 = .ok (.if_icmp .eq 5, 3) := by decide +kernel
theorem dL_law_676 : decode cL_law 676 = .ok (.iconst 0, 1) := by decide +kernel
theorem dL_law_677 : decode cL_law 677 = .ok (.ireturn, 1) := by decide +kernel
theorem dL_law_678 : decode cL_law 678 = .ok (.iload 5, 2) := by decide +kernel
theorem dL_law_680 : decode cL_law 680 = .ok (.ifCond .ne 15, 3) := by decide +kernel
theorem dL_law_683 : decode cL_law 683 = .ok (.aload_n 3, 1) := by decide +kernel
theorem dL_law_684 : decode cL_law 684 = .ok (.iconst 0, 1) := by decide +kernel
theorem dL_law_685 : decode cL_law 685 = .ok (.laload, 1) := by decide +kernel
theorem dL_law_686 : decode cL_law 686 = .ok (.iload 6, 2) := by decide +kernel
theorem dL_law_688 : decode cL_law 688 = .ok (.i2l, 1) := by decide +kernel
theorem dL_law_689 : decode cL_law 689 = .ok (.lcmp, 1) := by decide +kernel
theorem dL_law_690 : decode cL_law 690 = .ok (.ifCond .eq 5, 3) := by decide +kernel
theorem dL_law_693 : decode cL_law 693 = .ok (.iconst 0, 1) := by decide +kernel
theorem dL_law_694 : decode cL_law 694 = .ok (.ireturn, 1) := by decide +kernel
theorem dL_law_695 : decode cL_law 695 = .ok (.goto 519, 3) := by decide +kernel
theorem dL_law_698 : decode cL_law 698 = .ok (.aload_n 1, 1) := by decide +kernel
theorem dL_law_699 : decode cL_law 699 = .ok (.aload_n 0, 1) := by decide +kernel
theorem dL_law_700 : decode cL_law 700 = .ok (.iload 4, 2) := by decide +kernel
theorem dL_law_702 : decode cL_law 702 = .ok (.iconst 1, 1) := by decide +kernel
theorem dL_law_703 : decode cL_law 703 = .ok (.iadd, 1) := by decide +kernel
theorem dL_law_704 : decode cL_law 704 = .ok (.iaload, 1) := by decide +kernel
theorem dL_law_705 : decode cL_law 705 = .ok (.aload_n 0, 1) := by decide +kernel
theorem dL_law_706 : decode cL_law 706 = .ok (.iload 4, 2) := by decide +kernel
theorem dL_law_708 : decode cL_law 708 = .ok (.iconst 2, 1) := by decide +kernel
theorem dL_law_709 : decode cL_law 709 = .ok (.iadd, 1) := by decide +kernel
theorem dL_law_710 : decode cL_law 710 = .ok (.iaload, 1) := by decide +kernel
theorem dL_law_711 : decode cL_law 711 = .ok (.aload_n 3, 1) := by decide +kernel
theorem dL_law_712 : decode cL_law 712 = .ok (.invokestatic 109, 3) := by decide +kernel
theorem dL_law_715 : decode cL_law 715 = .ok (.istore 5, 2) := by decide +kernel
theorem dL_law_717 : decode cL_law 717 = .ok (.aload_n 2, 1) := by decide +kernel
theorem dL_law_718 : decode cL_law 718 = .ok (.aload_n 0, 1) := by decide +kernel
theorem dL_law_719 : decode cL_law 719 = .ok (.iload 4, 2) := by decide +kernel
theorem dL_law_721 : decode cL_law 721 = .ok (.iconst 1, 1) := by decide +kernel
theorem dL_law_722 : decode cL_law 722 = .ok (.iadd, 1) := by decide +kernel
theorem dL_law_723 : decode cL_law 723 = .ok (.iaload, 1) := by decide +kernel
theorem dL_law_724 : decode cL_law 724 = .ok (.aload_n 0, 1) := by decide +kernel
theorem dL_law_725 : decode cL_law 725 = .ok (.iload 4, 2) := by decide +kernel
theorem dL_law_727 : decode cL_law 727 = .ok (.iconst 2, 1) := by decide +kernel
theorem dL_law_728 : decode cL_law 728 = .ok (.iadd, 1) := by decide +kernel
theorem dL_law_729 : decode cL_law 729 = .ok (.iaload, 1) := by decide +kernel
theorem dL_law_730 : decode cL_law 730 = .ok (.invokevirtual 111, 3) := by decide +kernel
theorem dL_law_733 : decode cL_law 733 = .ok (.istore 6, 2) := by decide +kernel
theorem dL_law_735 : decode cL_law 735 = .ok (.aload_n 2, 1) := by decide +kernel
theorem dL_law_736 : decode cL_law 736 = .ok (.invokevirtual 74, 3) := by decide +kernel
theorem dL_law_739 : decode cL_law 739 = .ok (.iload 5, 2) := by decide +kernel
theorem dL_law_741 : decode cL_law 741 = .ok (.if_icmp .eq 5, 3) := by decide +kernel
theorem dL_law_744 : decode cL_law 744 = .ok (.iconst 0, 1) := by decide +kernel
theorem dL_law_745 : decode cL_law 745 = .ok (.ireturn, 1) := by decide +kernel
theorem dL_law_746 : decode cL_law 746 = .ok (.iload 5, 2) := by decide +kernel
theorem dL_law_748 : decode cL_law 748 = .ok (.ifCond .ne 22, 3) := by decide +kernel
theorem dL_law_751 : decode cL_law 751 = .ok (.aload_n 3, 1) := by decide +kernel
theorem dL_law_752 : decode cL_law 752 = .ok (.iconst 0, 1) := by decide +kernel
theorem dL_law_753 : decode cL_law 753 = .ok (.laload, 1) := by decide +kernel
theorem dL_law_754 : decode cL_law 754 = .ok (.iload 6, 2) := by decide +kernel
theorem dL_law_756 : decode cL_law 756 = .ok (.ifCond .eq 7, 3) := by decide +kernel
theorem dL_law_759 : decode cL_law 759 = .ok (.lconst 1, 1) := by decide +kernel
theorem dL_law_760 : decode cL_law 760 = .ok (.goto 4, 3) := by decide +kernel
theorem dL_law_763 : decode cL_law 763 = .ok (.lconst 0, 1) := by decide +kernel
theorem dL_law_764 : decode cL_law 764 = .ok (.lcmp, 1) := by decide +kernel
theorem dL_law_765 : decode cL_law 765 = .ok (.ifCond .eq 5, 3) := by decide +kernel
theorem dL_law_768 : decode cL_law 768 = .ok (.iconst 0, 1) := by decide +kernel
theorem dL_law_769 : decode cL_law 769 = .ok (.ireturn, 1) := by decide +kernel
theorem dL_law_770 : decode cL_law 770 = .ok (.goto 444, 3) := by decide +kernel
theorem dL_law_773 : decode cL_law 773 = .ok (.aload_n 1, 1) := by decide +kernel
theorem dL_law_774 : decode cL_law 774 = .ok (.invokevirtual 112, 3) := by decide +kernel
theorem dL_law_777 : decode cL_law 777 = .ok (.aload_n 2, 1) := by decide +kernel
theorem dL_law_778 : decode cL_law 778 = .ok (.invokevirtual 115, 3) := by decide +kernel
theorem dL_law_781 : decode cL_law 781 = .ok (.if_icmp .eq 433, 3) := by decide +kernel
theorem dL_law_784 : decode cL_law 784 = .ok (.iconst 0, 1) := by decide +kernel
theorem dL_law_785 : decode cL_law 785 = .ok (.ireturn, 1) := by decide +kernel
theorem dL_law_786 : decode cL_law 786 = .ok (.aload_n 1, 1) := by decide +kernel
theorem dL_law_787 : decode cL_law 787 = .ok (.aload_n 0, 1) := by decide +kernel
theorem dL_law_788 : decode cL_law 788 = .ok (.iload 4, 2) := by decide +kernel
theorem dL_law_790 : decode cL_law 790 = .ok (.iconst 1, 1) := by decide +kernel
theorem dL_law_791 : decode cL_law 791 = .ok (.iadd, 1) := by decide +kernel
theorem dL_law_792 : decode cL_law 792 = .ok (.iaload, 1) := by decide +kernel
theorem dL_law_793 : decode cL_law 793 = .ok (.aload_n 0, 1) := by decide +kernel
theorem dL_law_794 : decode cL_law 794 = .ok (.iload 4, 2) := by decide +kernel
theorem dL_law_796 : decode cL_law 796 = .ok (.iconst 2, 1) := by decide +kernel
theorem dL_law_797 : decode cL_law 797 = .ok (.iadd, 1) := by decide +kernel
theorem dL_law_798 : decode cL_law 798 = .ok (.iaload, 1) := by decide +kernel
theorem dL_law_799 : decode cL_law 799 = .ok (.aload_n 3, 1) := by decide +kernel
theorem dL_law_800 : decode cL_law 800 = .ok (.invokestatic 116, 3) := by decide +kernel
theorem dL_law_803 : decode cL_law 803 = .ok (.istore 5, 2) := by decide +kernel
theorem dL_law_805 : decode cL_law 805 = .ok (.aload_n 2, 1) := by decide +kernel
theorem dL_law_806 : decode cL_law 806 = .ok (.aload_n 0, 1) := by decide +kernel
theorem dL_law_807 : decode cL_law 807 = .ok (.iload 4, 2) := by decide +kernel
theorem dL_law_809 : decode cL_law 809 = .ok (.iconst 1, 1) := by decide +kernel
theorem dL_law_810 : decode cL_law 810 = .ok (.iadd, 1) := by decide +kernel
theorem dL_law_811 : decode cL_law 811 = .ok (.iaload, 1) := by decide +kernel
theorem dL_law_812 : decode cL_law 812 = .ok (.aload_n 0, 1) := by decide +kernel
theorem dL_law_813 : decode cL_law 813 = .ok (.iload 4, 2) := by decide +kernel
theorem dL_law_815 : decode cL_law 815 = .ok (.iconst 2, 1) := by decide +kernel
theorem dL_law_816 : decode cL_law 816 = .ok (.iadd, 1) := by decide +kernel
theorem dL_law_817 : decode cL_law 817 = .ok (.iaload, 1) := by decide +kernel
theorem dL_law_818 : decode cL_law 818 = .ok (.invokevirtual 118, 3) := by decide +kernel
theorem dL_law_821 : decode cL_law 821 = .ok (.istore 6, 2) := by decide +kernel
theorem dL_law_823 : decode cL_law 823 = .ok (.aload_n 2, 1) := by decide +kernel
theorem dL_law_824 : decode cL_law 824 = .ok (.invokevirtual 74, 3) := by decide +kernel
theorem dL_law_827 : decode cL_law 827 = .ok (.iload 5, 2) := by decide +kernel
theorem dL_law_829 : decode cL_law 829 = .ok (.if_icmp .eq 5, 3) := by decide +kernel
theorem dL_law_832 : decode cL_law 832 = .ok (.iconst 0, 1) := by decide +kernel
theorem dL_law_833 : decode cL_law 833 = .ok (.ireturn, 1) := by decide +kernel
theorem dL_law_834 : decode cL_law 834 = .ok (.iload 5, 2) := by decide +kernel
theorem dL_law_836 : decode cL_law 836 = .ok (.ifCond .ne 15, 3) := by decide +kernel
theorem dL_law_839 : decode cL_law 839 = .ok (.aload_n 3, 1) := by decide +kernel
theorem dL_law_840 : decode cL_law 840 = .ok (.iconst 0, 1) := by decide +kernel
theorem dL_law_841 : decode cL_law 841 = .ok (.laload, 1) := by decide +kernel
theorem dL_law_842 : decode cL_law 842 = .ok (.iload 6, 2) := by decide +kernel
theorem dL_law_844 : decode cL_law 844 = .ok (.i2l, 1) := by decide +kernel
theorem dL_law_845 : decode cL_law 845 = .ok (.lcmp, 1) := by decide +kernel
theorem dL_law_846 : decode cL_law 846 = .ok (.ifCond .eq 5, 3) := by decide +kernel
theorem dL_law_849 : decode cL_law 849 = .ok (.iconst 0, 1) := by decide +kernel
theorem dL_law_850 : decode cL_law 850 = .ok (.ireturn, 1) := by decide +kernel
theorem dL_law_851 : decode cL_law 851 = .ok (.goto 363, 3) := by decide +kernel
theorem dL_law_854 : decode cL_law 854 = .ok (.aload_n 1, 1) := by decide +kernel
theorem dL_law_855 : decode cL_law 855 = .ok (.aload_n 0, 1) := by decide +kernel
theorem dL_law_856 : decode cL_law 856 = .ok (.iload 4, 2) := by decide +kernel
theorem dL_law_858 : decode cL_law 858 = .ok (.iconst 1, 1) := by decide +kernel
theorem dL_law_859 : decode cL_law 859 = .ok (.iadd, 1) := by decide +kernel
theorem dL_law_860 : decode cL_law 860 = .ok (.iaload, 1) := by decide +kernel
theorem dL_law_861 : decode cL_law 861 = .ok (.aload_n 3, 1) := by decide +kernel
theorem dL_law_862 : decode cL_law 862 = .ok (.invokestatic 119, 3) := by decide +kernel
theorem dL_law_865 : decode cL_law 865 = .ok (.istore 5, 2) := by decide +kernel
theorem dL_law_867 : decode cL_law 867 = .ok (.aload_n 2, 1) := by decide +kernel
theorem dL_law_868 : decode cL_law 868 = .ok (.aload_n 0, 1) := by decide +kernel
theorem dL_law_869 : decode cL_law 869 = .ok (.iload 4, 2) := by decide +kernel
theorem dL_law_871 : decode cL_law 871 = .ok (.iconst 1, 1) := by decide +kernel
theorem dL_law_872 : decode cL_law 872 = .ok (.iadd, 1) := by decide +kernel
theorem dL_law_873 : decode cL_law 873 = .ok (.iaload, 1) := by decide +kernel
theorem dL_law_874 : decode cL_law 874 = .ok (.invokevirtual 121, 3) := by decide +kernel
theorem dL_law_877 : decode cL_law 877 = .ok (.istore 6, 2) := by decide +kernel
theorem dL_law_879 : decode cL_law 879 = .ok (.aload_n 2, 1) := by decide +kernel
theorem dL_law_880 : decode cL_law 880 = .ok (.invokevirtual 74, 3) := by decide +kernel
theorem dL_law_883 : decode cL_law 883 = .ok (.iload 5, 2) := by decide +kernel
theorem dL_law_885 : decode cL_law 885 = .ok (.if_icmp .eq 5, 3) := by decide +kernel
theorem dL_law_888 : decode cL_law 888 = .ok (.iconst 0, 1) := by decide +kernel
theorem dL_law_889 : decode cL_law 889 = .ok (.ireturn, 1) := by decide +kernel
theorem dL_law_890 : decode cL_law 890 = .ok (.iload 5, 2) := by decide +kernel
theorem dL_law_892 : decode cL_law 892 = .ok (.ifCond .ne 15, 3) := by decide +kernel
theorem dL_law_895 : decode cL_law 895 = .ok (.aload_n 3, 1) := by decide +kernel
theorem dL_law_896 : decode cL_law 896 = .ok (.iconst 0, 1) := by decide +kernel
theorem dL_law_897 : decode cL_law 897 = .ok (.laload, 1) := by decide +kernel
theorem dL_law_898 : decode cL_law 898 = .ok (.iload 6, 2) := by decide +kernel
theorem dL_law_900 : decode cL_law 900 = .ok (.i2l, 1) := by decide +kernel
theorem dL_law_901 : decode cL_law 901 = .ok (.lcmp, 1) := by decide +kernel
theorem dL_law_902 : decode cL_law 902 = .ok (.ifCond .eq 5, 3) := by decide +kernel
theorem dL_law_905 : decode cL_law 905 = .ok (.iconst 0, 1) := by decide +kernel
theorem dL_law_906 : decode cL_law 906 = .ok (.ireturn, 1) := by decide +kernel
theorem dL_law_907 : decode cL_law 907 = .ok (.goto 307, 3) := by decide +kernel
theorem dL_law_910 : decode cL_law 910 = .ok (.aload_n 1, 1) := by decide +kernel
theorem dL_law_911 : decode cL_law 911 = .ok (.aload_n 0, 1) := by decide +kernel
theorem dL_law_912 : decode cL_law 912 = .ok (.iload 4, 2) := by decide +kernel
theorem dL_law_914 : decode cL_law 914 = .ok (.iconst 1, 1) := by decide +kernel
theorem dL_law_915 : decode cL_law 915 = .ok (.iadd, 1) := by decide +kernel
theorem dL_law_916 : decode cL_law 916 = .ok (.iaload, 1) := by decide +kernel
theorem dL_law_917 : decode cL_law 917 = .ok (.aload_n 0, 1) := by decide +kernel
theorem dL_law_918 : decode cL_law 918 = .ok (.iload 4, 2) := by decide +kernel
theorem dL_law_920 : decode cL_law 920 = .ok (.iconst 2, 1) := by decide +kernel
theorem dL_law_921 : decode cL_law 921 = .ok (.iadd, 1) := by decide +kernel
theorem dL_law_922 : decode cL_law 922 = .ok (.iaload, 1) := by decide +kernel
theorem dL_law_923 : decode cL_law 923 = .ok (.aload_n 3, 1) := by decide +kernel
theorem dL_law_924 : decode cL_law 924 = .ok (.invokestatic 122, 3) := by decide +kernel
theorem dL_law_927 : decode cL_law 927 = .ok (.istore 5, 2) := by decide +kernel
theorem dL_law_929 : decode cL_law 929 = .ok (.aload_n 2, 1) := by decide +kernel
theorem dL_law_930 : decode cL_law 930 = .ok (.aload_n 0, 1) := by decide +kernel
theorem dL_law_931 : decode cL_law 931 = .ok (.iload 4, 2) := by decide +kernel
theorem dL_law_933 : decode cL_law 933 = .ok (.iconst 1, 1) := by decide +kernel
theorem dL_law_934 : decode cL_law 934 = .ok (.iadd, 1) := by decide +kernel
theorem dL_law_935 : decode cL_law 935 = .ok (.iaload, 1) := by decide +kernel
theorem dL_law_936 : decode cL_law 936 = .ok (.aload_n 0, 1) := by decide +kernel
theorem dL_law_937 : decode cL_law 937 = .ok (.iload 4, 2) := by decide +kernel
theorem dL_law_939 : decode cL_law 939 = .ok (.iconst 2, 1) := by decide +kernel
theorem dL_law_940 : decode cL_law 940 = .ok (.iadd, 1) := by decide +kernel
theorem dL_law_941 : decode cL_law 941 = .ok (.iaload, 1) := by decide +kernel
theorem dL_law_942 : decode cL_law 942 = .ok (.invokevirtual 124, 3) := by decide +kernel
theorem dL_law_945 : decode cL_law 945 = .ok (.istore 6, 2) := by decide +kernel
theorem dL_law_947 : decode cL_law 947 = .ok (.aload_n 2, 1) := by decide +kernel
theorem dL_law_948 : decode cL_law 948 = .ok (.invokevirtual 74, 3) := by decide +kernel
theorem dL_law_951 : decode cL_law 951 = .ok (.iload 5, 2) := by decide +kernel
theorem dL_law_953 : decode cL_law 953 = .ok (.if_icmp .eq 5, 3) := by decide +kernel
theorem dL_law_956 : decode cL_law 956 = .ok (.iconst 0, 1) := by decide +kernel
theorem dL_law_957 : decode cL_law 957 = .ok (.ireturn, 1) := by decide +kernel
theorem dL_law_958 : decode cL_law 958 = .ok (.iload 5, 2) := by decide +kernel
theorem dL_law_960 : decode cL_law 960 = .ok (.ifCond .ne 15, 3) := by decide +kernel
theorem dL_law_963 : decode cL_law 963 = .ok (.aload_n 3, 1) := by decide +kernel
theorem dL_law_964 : decode cL_law 964 = .ok (.iconst 0, 1) := by decide +kernel
theorem dL_law_965 : decode cL_law 965 = .ok (.laload, 1) := by decide +kernel
theorem dL_law_966 : decode cL_law 966 = .ok (.iload 6, 2) := by decide +kernel
theorem dL_law_968 : decode cL_law 968 = .ok (.i2l, 1) := by decide +kernel
theorem dL_law_969 : decode cL_law 969 = .ok (.lcmp, 1) := by decide +kernel
theorem dL_law_970 : decode cL_law 970 = .ok (.ifCond .eq 5, 3) := by decide +kernel
theorem dL_law_973 : decode cL_law 973 = .ok (.iconst 0, 1) := by decide +kernel
theorem dL_law_974 : decode cL_law 974 = .ok (.ireturn, 1) := by decide +kernel
theorem dL_law_975 : decode cL_law 975 = .ok (.goto 239, 3) := by decide +kernel
theorem dL_law_978 : decode cL_law 978 = .ok (.aload_n 1, 1) := by decide +kernel
theorem dL_law_979 : decode cL_law 979 = .ok (.aload_n 0, 1) := by decide +kernel
theorem dL_law_980 : decode cL_law 980 = .ok (.iload 4, 2) := by decide +kernel
theorem dL_law_982 : decode cL_law 982 = .ok (.iconst 1, 1) := by decide +kernel
theorem dL_law_983 : decode cL_law 983 = .ok (.iadd, 1) := by decide +kernel
theorem dL_law_984 : decode cL_law 984 = .ok (.iaload, 1) := by decide +kernel
theorem dL_law_985 : decode cL_law 985 = .ok (.aload_n 3, 1) := by decide +kernel
theorem dL_law_986 : decode cL_law 986 = .ok (.invokestatic 125, 3) := by decide +kernel
theorem dL_law_989 : decode cL_law 989 = .ok (.istore 5, 2) := by decide +kernel
theorem dL_law_991 : decode cL_law 991 = .ok (.aload_n 2, 1) := by decide +kernel
theorem dL_law_992 : decode cL_law 992 = .ok (.aload_n 0, 1) := by decide +kernel
theorem dL_law_993 : decode cL_law 993 = .ok (.iload 4, 2) := by decide +kernel
theorem dL_law_995 : decode cL_law 995 = .ok (.iconst 1, 1) := by decide +kernel
theorem dL_law_996 : decode cL_law 996 = .ok (.iadd, 1) := by decide +kernel
theorem dL_law_997 : decode cL_law 997 = .ok (.iaload, 1) := by decide +kernel
theorem dL_law_998 : decode cL_law 998 = .ok (.invokevirtual 127, 3) := by decide +kernel
theorem dL_law_1001 : decode cL_law 1001 = .ok (.istore 6, 2) := by decide +kernel
theorem dL_law_1003 : decode cL_law 1003 = .ok (.aload_n 2, 1) := by decide +kernel
theorem dL_law_1004 : decode cL_law 1004 = .ok (.invokevirtual 74, 3) := by decide +kernel
theorem dL_law_1007 : decode cL_law 1007 = .ok (.iload 5, 2) := by decide +kernel
theorem dL_law_1009 : decode cL_law 1009 = .ok (.if_icmp .eq 5, 3) := by decide +kernel
theorem dL_law_1012 : decode cL_law 1012 = .ok (.iconst 0, 1) := by decide +kernel
theorem dL_law_1013 : decode cL_law 1013 = .ok (.ireturn, 1) := by decide +kernel
theorem dL_law_1014 : decode cL_law 1014 = .ok (.iload 5, 2) := by decide +kernel
theorem dL_law_1016 : decode cL_law 1016 = .ok (.ifCond .ne 15, 3) := by decide +kernel
theorem dL_law_1019 : decode cL_law 1019 = .ok (.aload_n 3, 1) := by decide +kernel
theorem dL_law_1020 : decode cL_law 1020 = .ok (.iconst 0, 1) := by decide +kernel
theorem dL_law_1021 : decode cL_law 1021 = .ok (.laload, 1) := by decide +kernel
theorem dL_law_1022 : decode cL_law 1022 = .ok (.iload 6, 2) := by decide +kernel
theorem dL_law_1024 : decode cL_law 1024 = .ok (.i2l, 1) := by decide +kernel
theorem dL_law_1025 : decode cL_law 1025 = .ok (.lcmp, 1) := by decide +kernel
theorem dL_law_1026 : decode cL_law 1026 = .ok (.ifCond .eq 5, 3) := by decide +kernel
theorem dL_law_1029 : decode cL_law 1029 = .ok (.iconst 0, 1) := by decide +kernel
theorem dL_law_1030 : decode cL_law 1030 = .ok (.ireturn, 1) := by decide +kernel
theorem dL_law_1031 : decode cL_law 1031 = .ok (.goto 183, 3) := by decide +kernel
theorem dL_law_1034 : decode cL_law 1034 = .ok (.aload_n 1, 1) := by decide +kernel
theorem dL_law_1035 : decode cL_law 1035 = .ok (.aload_n 0, 1) := by decide +kernel
theorem dL_law_1036 : decode cL_law 1036 = .ok (.iload 4, 2) := by decide +kernel
theorem dL_law_1038 : decode cL_law 1038 = .ok (.iconst 1, 1) := by decide +kernel
theorem dL_law_1039 : decode cL_law 1039 = .ok (.iadd, 1) := by decide +kernel
theorem dL_law_1040 : decode cL_law 1040 = .ok (.iaload, 1) := by decide +kernel
theorem dL_law_1041 : decode cL_law 1041 = .ok (.aload_n 3, 1) := by decide +kernel
theorem dL_law_1042 : decode cL_law 1042 = .ok (.invokestatic 128, 3) := by decide +kernel
theorem dL_law_1045 : decode cL_law 1045 = .ok (.istore 5, 2) := by decide +kernel
theorem dL_law_1047 : decode cL_law 1047 = .ok (.aload_n 2, 1) := by decide +kernel
theorem dL_law_1048 : decode cL_law 1048 = .ok (.aload_n 0, 1) := by decide +kernel
theorem dL_law_1049 : decode cL_law 1049 = .ok (.iload 4, 2) := by decide +kernel
theorem dL_law_1051 : decode cL_law 1051 = .ok (.iconst 1, 1) := by decide +kernel
theorem dL_law_1052 : decode cL_law 1052 = .ok (.iadd, 1) := by decide +kernel
theorem dL_law_1053 : decode cL_law 1053 = .ok (.iaload, 1) := by decide +kernel
theorem dL_law_1054 : decode cL_law 1054 = .ok (.invokevirtual 130, 3) := by decide +kernel
theorem dL_law_1057 : decode cL_law 1057 = .ok (.istore 6, 2) := by decide +kernel
theorem dL_law_1059 : decode cL_law 1059 = .ok (.aload_n 2, 1) := by decide +kernel
theorem dL_law_1060 : decode cL_law 1060 = .ok (.invokevirtual 74, 3) := by decide +kernel
theorem dL_law_1063 : decode cL_law 1063 = .ok (.iload 5, 2) := by decide +kernel
theorem dL_law_1065 : decode cL_law 1065 = .ok (.if_icmp .eq 5, 3) := by decide +kernel
theorem dL_law_1068 : decode cL_law 1068 = .ok (.iconst 0, 1) := by decide +kernel
theorem dL_law_1069 : decode cL_law 1069 = .ok (.ireturn, 1) := by decide +kernel
theorem dL_law_1070 : decode cL_law 1070 = .ok (.iload 5, 2) := by decide +kernel
theorem dL_law_1072 : decode cL_law 1072 = .ok (.ifCond .ne 15, 3) := by decide +kernel
theorem dL_law_1075 : decode cL_law 1075 = .ok (.aload_n 3, 1) := by decide +kernel
theorem dL_law_1076 : decode cL_law 1076 = .ok (.iconst 0, 1) := by decide +kernel
theorem dL_law_1077 : decode cL_law 1077 = .ok (.laload, 1) := by decide +kernel
theorem dL_law_1078 : decode cL_law 1078 = .ok (.iload 6, 2) := by decide +kernel
theorem dL_law_1080 : decode cL_law 1080 = .ok (.i2l, 1) := by decide +kernel
theorem dL_law_1081 : decode cL_law 1081 = .ok (.lcmp, 1) := by decide +kernel
theorem dL_law_1082 : decode cL_law 1082 = .ok (.ifCond .eq 5, 3) := by decide +kernel
theorem dL_law_1085 : decode cL_law 1085 = .ok (.iconst 0, 1) := by decide +kernel
theorem dL_law_1086 : decode cL_law 1086 = .ok (.ireturn, 1) := by decide +kernel
theorem dL_law_1087 : decode cL_law 1087 = .ok (.goto 127, 3) := by decide +kernel
theorem dL_law_1090 : decode cL_law 1090 = .ok (.aload_n 1, 1) := by decide +kernel
theorem dL_law_1091 : decode cL_law 1091 = .ok (.invokevirtual 131, 3) := by decide +kernel
theorem dL_law_1094 : decode cL_law 1094 = .ok (.aload_n 2, 1) := by decide +kernel
theorem dL_law_1095 : decode cL_law 1095 = .ok (.invokevirtual 134, 3) := by decide +kernel
theorem dL_law_1098 : decode cL_law 1098 = .ok (.if_icmp .eq 116, 3) := by decide +kernel
theorem dL_law_1101 : decode cL_law 1101 = .ok (.iconst 0, 1) := by decide +kernel
theorem dL_law_1102 : decode cL_law 1102 = .ok (.ireturn, 1) := by decide +kernel
theorem dL_law_1103 : decode cL_law 1103 = .ok (.aload_n 1, 1) := by decide +kernel
theorem dL_law_1104 : decode cL_law 1104 = .ok (.aload_n 0, 1) := by decide +kernel
theorem dL_law_1105 : decode cL_law 1105 = .ok (.iload 4, 2) := by decide +kernel
theorem dL_law_1107 : decode cL_law 1107 = .ok (.iconst 1, 1) := by decide +kernel
theorem dL_law_1108 : decode cL_law 1108 = .ok (.iadd, 1) := by decide +kernel
theorem dL_law_1109 : decode cL_law 1109 = .ok (.iaload, 1) := by decide +kernel
theorem dL_law_1110 : decode cL_law 1110 = .ok (.aload_n 3, 1) := by decide +kernel
theorem dL_law_1111 : decode cL_law 1111 = .ok (.invokestatic 135, 3) := by decide +kernel
theorem dL_law_1114 : decode cL_law 1114 = .ok (.istore 5, 2) := by decide +kernel
theorem dL_law_1116 : decode cL_law 1116 = .ok (.aload_n 2, 1) := by decide +kernel
theorem dL_law_1117 : decode cL_law 1117 = .ok (.aload_n 0, 1) := by decide +kernel
theorem dL_law_1118 : decode cL_law 1118 = .ok (.iload 4, 2) := by decide +kernel
theorem dL_law_1120 : decode cL_law 1120 = .ok (.iconst 1, 1) := by decide +kernel
theorem dL_law_1121 : decode cL_law 1121 = .ok (.iadd, 1) := by decide +kernel
theorem dL_law_1122 : decode cL_law 1122 = .ok (.iaload, 1) := by decide +kernel
theorem dL_law_1123 : decode cL_law 1123 = .ok (.invokevirtual 137, 3) := by decide +kernel
theorem dL_law_1126 : decode cL_law 1126 = .ok (.istore 6, 2) := by decide +kernel
theorem dL_law_1128 : decode cL_law 1128 = .ok (.aload_n 2, 1) := by decide +kernel
theorem dL_law_1129 : decode cL_law 1129 = .ok (.invokevirtual 74, 3) := by decide +kernel
theorem dL_law_1132 : decode cL_law 1132 = .ok (.iload 5, 2) := by decide +kernel
theorem dL_law_1134 : decode cL_law 1134 = .ok (.if_icmp .eq 5, 3) := by decide +kernel
theorem dL_law_1137 : decode cL_law 1137 = .ok (.iconst 0, 1) := by decide +kernel
theorem dL_law_1138 : decode cL_law 1138 = .ok (.ireturn, 1) := by decide +kernel
theorem dL_law_1139 : decode cL_law 1139 = .ok (.iload 5, 2) := by decide +kernel
theorem dL_law_1141 : decode cL_law 1141 = .ok (.ifCond .ne 15, 3) := by decide +kernel
theorem dL_law_1144 : decode cL_law 1144 = .ok (.aload_n 3, 1) := by decide +kernel
theorem dL_law_1145 : decode cL_law 1145 = .ok (.iconst 0, 1) := by decide +kernel
theorem dL_law_1146 : decode cL_law 1146 = .ok (.laload, 1) := by decide +kernel
theorem dL_law_1147 : decode cL_law 1147 = .ok (.iload 6, 2) := by decide +kernel
theorem dL_law_1149 : decode cL_law 1149 = .ok (.i2l, 1) := by decide +kernel
theorem dL_law_1150 : decode cL_law 1150 = .ok (.lcmp, 1) := by decide +kernel
theorem dL_law_1151 : decode cL_law 1151 = .ok (.ifCond .eq 5, 3) := by decide +kernel
theorem dL_law_1154 : decode cL_law 1154 = .ok (.iconst 0, 1) := by decide +kernel
theorem dL_law_1155 : decode cL_law 1155 = .ok (.ireturn, 1) := by decide +kernel
theorem dL_law_1156 : decode cL_law 1156 = .ok (.goto 58, 3) := by decide +kernel
theorem dL_law_1159 : decode cL_law 1159 = .ok (.aload_n 1, 1) := by decide +kernel
theorem dL_law_1160 : decode cL_law 1160 = .ok (.invokevirtual 138, 3) := by decide +kernel
theorem dL_law_1163 : decode cL_law 1163 = .ok (.dstore 5, 2) := by decide +kernel
theorem dL_law_1165 : decode cL_law 1165 = .ok (.aload_n 2, 1) := by decide +kernel
theorem dL_law_1166 : decode cL_law 1166 = .ok (.invokevirtual 142, 3) := by decide +kernel
theorem dL_law_1169 : decode cL_law 1169 = .ok (.dstore 7, 2) := by decide +kernel
theorem dL_law_1171 : decode cL_law 1171 = .ok (.dload 5, 2) := by decide +kernel
theorem dL_law_1173 : decode cL_law 1173 = .ok (.dload 7, 2) := by decide +kernel
theorem dL_law_1175 : decode cL_law 1175 = .ok (.dcmp .l, 1) := by decide +kernel
theorem dL_law_1176 : decode cL_law 1176 = .ok (.ifCond .eq 21, 3) := by decide +kernel
theorem dL_law_1179 : decode cL_law 1179 = .ok (.dload 5, 2) := by decide +kernel
theorem dL_law_1181 : decode cL_law 1181 = .ok (.dload 5, 2) := by decide +kernel
theorem dL_law_1183 : decode cL_law 1183 = .ok (.dcmp .l, 1) := by decide +kernel
theorem dL_law_1184 : decode cL_law 1184 = .ok (.ifCond .eq 11, 3) := by decide +kernel
theorem dL_law_1187 : decode cL_law 1187 = .ok (.dload 7, 2) := by decide +kernel
theorem dL_law_1189 : decode cL_law 1189 = .ok (.dload 7, 2) := by decide +kernel
theorem dL_law_1191 : decode cL_law 1191 = .ok (.dcmp .l, 1) := by decide +kernel
theorem dL_law_1192 : decode cL_law 1192 = .ok (.ifCond .ne 5, 3) := by decide +kernel
theorem dL_law_1195 : decode cL_law 1195 = .ok (.iconst 0, 1) := by decide +kernel
theorem dL_law_1196 : decode cL_law 1196 = .ok (.ireturn, 1) := by decide +kernel
theorem dL_law_1197 : decode cL_law 1197 = .ok (.goto 17, 3) := by decide +kernel
theorem dL_law_1200 : decode cL_law 1200 = .ok (.aload_n 1, 1) := by decide +kernel
theorem dL_law_1201 : decode cL_law 1201 = .ok (.invokevirtual 143, 3) := by decide +kernel
theorem dL_law_1204 : decode cL_law 1204 = .ok (.aload_n 2, 1) := by decide +kernel
theorem dL_law_1205 : decode cL_law 1205 = .ok (.invokevirtual 147, 3) := by decide +kernel
theorem dL_law_1208 : decode cL_law 1208 = .ok (.lcmp, 1) := by decide +kernel
theorem dL_law_1209 : decode cL_law 1209 = .ok (.ifCond .eq 5, 3) := by decide +kernel
theorem dL_law_1212 : decode cL_law 1212 = .ok (.iconst 0, 1) := by decide +kernel
theorem dL_law_1213 : decode cL_law 1213 = .ok (.ireturn, 1) := by decide +kernel
theorem dL_law_1214 : decode cL_law 1214 = .ok (.iinc 4 6, 3) := by decide +kernel
theorem dL_law_1217 : decode cL_law 1217 = .ok (.goto (-1194), 3) := by decide +kernel
theorem dL_law_1220 : decode cL_law 1220 = .ok (.iconst 1, 1) := by decide +kernel
theorem dL_law_1221 : decode cL_law 1221 = .ok (.ireturn, 1) := by decide +kernel
theorem dL_least_0 : decode cL_least 0 = .ok (.aload_n 2, 1) := by decide +kernel
theorem dL_least_1 : decode cL_least 1 = .ok (.iconst 0, 1) := by decide +kernel
theorem dL_least_2 : decode cL_least 2 = .ok (.aload_n 0, 1) := by decide +kernel
theorem dL_least_3 : decode cL_least 3 = .ok (.iload_n 1, 1) := by decide +kernel
theorem dL_least_4 : decode cL_least 4 = .ok (.invokevirtual 55, 3) := by decide +kernel
theorem dL_least_7 : decode cL_least 7 = .ok (.i2l, 1) := by decide +kernel
theorem dL_least_8 : decode cL_least 8 = .ok (.lastore, 1) := by decide +kernel
theorem dL_least_9 : decode cL_least 9 = .ok (.goto 6, 3) := by decide +kernel
theorem dL_least_12 : decode cL_least 12 = .ok (.astore_n 3, 1) := by decide +kernel
theorem dL_least_13 : decode cL_least 13 = .ok (.iconst 1, 1) := by decide +kernel
theorem dL_least_14 : decode cL_least 14 = .ok (.ireturn, 1) := by decide +kernel
theorem dL_least_15 : decode cL_least 15 = .ok (.iconst 0, 1) := by decide +kernel
theorem dL_least_16 : decode cL_least 16 = .ok (.ireturn, 1) := by decide +kernel
theorem dL_speaker_0 : decode cL_speaker 0 = .ok (.aload_n 3, 1) := by decide +kernel
theorem dL_speaker_1 : decode cL_speaker 1 = .ok (.iconst 0, 1) := by decide +kernel
theorem dL_speaker_2 : decode cL_speaker 2 = .ok (.aload_n 0, 1) := by decide +kernel
theorem dL_speaker_3 : decode cL_speaker 3 = .ok (.iload_n 1, 1) := by decide +kernel
theorem dL_speaker_4 : decode cL_speaker 4 = .ok (.iload_n 2, 1) := by decide +kernel
theorem dL_speaker_5 : decode cL_speaker 5 = .ok (.invokevirtual 26, 3) := by decide +kernel
theorem dL_speaker_8 : decode cL_speaker 8 = .ok (.i2l, 1) := by decide +kernel
theorem dL_speaker_9 : decode cL_speaker 9 = .ok (.lastore, 1) := by decide +kernel
theorem dL_speaker_10 : decode cL_speaker 10 = .ok (.goto 7, 3) := by decide +kernel
theorem dL_speaker_13 : decode cL_speaker 13 = .ok (.astore 4, 2) := by decide +kernel
theorem dL_speaker_15 : decode cL_speaker 15 = .ok (.iconst 1, 1) := by decide +kernel
theorem dL_speaker_16 : decode cL_speaker 16 = .ok (.ireturn, 1) := by decide +kernel
theorem dL_speaker_17 : decode cL_speaker 17 = .ok (.iconst 0, 1) := by decide +kernel
theorem dL_speaker_18 : decode cL_speaker 18 = .ok (.ireturn, 1) := by decide +kernel
theorem dL_trim_0 : decode cL_trim 0 = .ok (.aload_n 2, 1) := by decide +kernel
theorem dL_trim_1 : decode cL_trim 1 = .ok (.iconst 0, 1) := by decide +kernel
theorem dL_trim_2 : decode cL_trim 2 = .ok (.aload_n 0, 1) := by decide +kernel
theorem dL_trim_3 : decode cL_trim 3 = .ok (.iload_n 1, 1) := by decide +kernel
theorem dL_trim_4 : decode cL_trim 4 = .ok (.invokevirtual 15, 3) := by decide +kernel
theorem dL_trim_7 : decode cL_trim 7 = .ok (.i2l, 1) := by decide +kernel
theorem dL_trim_8 : decode cL_trim 8 = .ok (.lastore, 1) := by decide +kernel
theorem dL_trim_9 : decode cL_trim 9 = .ok (.goto 6, 3) := by decide +kernel
theorem dL_trim_12 : decode cL_trim 12 = .ok (.astore_n 3, 1) := by decide +kernel
theorem dL_trim_13 : decode cL_trim 13 = .ok (.iconst 1, 1) := by decide +kernel
theorem dL_trim_14 : decode cL_trim 14 = .ok (.ireturn, 1) := by decide +kernel
theorem dL_trim_15 : decode cL_trim 15 = .ok (.iconst 0, 1) := by decide +kernel
theorem dL_trim_16 : decode cL_trim 16 = .ok (.ireturn, 1) := by decide +kernel
theorem dL_why_0 : decode cL_why 0 = .ok (.aload_n 2, 1) := by decide +kernel
theorem dL_why_1 : decode cL_why 1 = .ok (.iconst 0, 1) := by decide +kernel
theorem dL_why_2 : decode cL_why 2 = .ok (.aload_n 0, 1) := by decide +kernel
theorem dL_why_3 : decode cL_why 3 = .ok (.iload_n 1, 1) := by decide +kernel
theorem dL_why_4 : decode cL_why 4 = .ok (.invokevirtual 36, 3) := by decide +kernel
theorem dL_why_7 : decode cL_why 7 = .ok (.i2l, 1) := by decide +kernel
theorem dL_why_8 : decode cL_why 8 = .ok (.lastore, 1) := by decide +kernel
theorem dL_why_9 : decode cL_why 9 = .ok (.goto 6, 3) := by decide +kernel
theorem dL_why_12 : decode cL_why 12 = .ok (.astore_n 3, 1) := by decide +kernel
theorem dL_why_13 : decode cL_why 13 = .ok (.iconst 1, 1) := by decide +kernel
theorem dL_why_14 : decode cL_why 14 = .ok (.ireturn, 1) := by decide +kernel
theorem dL_why_15 : decode cL_why 15 = .ok (.iconst 0, 1) := by decide +kernel
theorem dL_why_16 : decode cL_why 16 = .ok (.ireturn, 1) := by decide +kernel
theorem dX0_addClaim_0 : decode cX0_addClaim 0 = .ok (.aload_n 0, 1) := by decide +kernel
theorem dX0_addClaim_1 : decode cX0_addClaim 1 = .ok (.lload_n 1, 1) := by decide +kernel
theorem dX0_addClaim_2 : decode cX0_addClaim 2 = .ok (.iconst 0, 1) := by decide +kernel
theorem dX0_addClaim_3 : decode cX0_addClaim 3 = .ok (.iload_n 3, 1) := by decide +kernel
theorem dX0_addClaim_4 : decode cX0_addClaim 4 = .ok (.iload 4, 2) := by decide +kernel
theorem dX0_addClaim_6 : decode cX0_addClaim 6 = .ok (.iconst (-1), 1) := by decide +kernel
theorem dX0_addClaim_7 : decode cX0_addClaim 7 = .ok (.iconst (-1), 1) := by decide +kernel
theorem dX0_addClaim_8 : decode cX0_addClaim 8 = .ok (.invokevirtual 77, 3) := by decide +kernel
theorem dX0_addClaim_11 : decode cX0_addClaim 11 = .ok (.return_, 1) := by decide +kernel
theorem dX0_addItem_0 : decode cX0_addItem 0 = .ok (.aload_n 0, 1) := by decide +kernel
theorem dX0_addItem_1 : decode cX0_addItem 1 = .ok (.getfield 57, 3) := by decide +kernel
theorem dX0_addItem_4 : decode cX0_addItem 4 = .ok (.ifCond .lt 116, 3) := by decide +kernel
theorem dX0_addItem_7 : decode cX0_addItem 7 = .ok (.aload_n 0, 1) := by decide +kernel
theorem dX0_addItem_8 : decode cX0_addItem 8 = .ok (.getfield 57, 3) := by decide +kernel
theorem dX0_addItem_11 : decode cX0_addItem 11 = .ok (.bipush 40, 2) := by decide +kernel
theorem dX0_addItem_13 : decode cX0_addItem 13 = .ok (.if_icmp .ge 107, 3) := by decide +kernel
theorem dX0_addItem_16 : decode cX0_addItem 16 = .ok (.aload_n 0, 1) := by decide +kernel
theorem dX0_addItem_17 : decode cX0_addItem 17 = .ok (.getfield 19, 3) := by decide +kernel
theorem dX0_addItem_20 : decode cX0_addItem 20 = .ok (.aload_n 0, 1) := by decide +kernel
theorem dX0_addItem_21 : decode cX0_addItem 21 = .ok (.getfield 57, 3) := by decide +kernel
theorem dX0_addItem_24 : decode cX0_addItem 24 = .ok (.lload_n 1, 1) := by decide +kernel
theorem dX0_addItem_25 : decode cX0_addItem 25 = .ok (.lastore, 1) := by decide +kernel
theorem dX0_addItem_26 : decode cX0_addItem 26 = .ok (.aload_n 0, 1) := by decide +kernel
theorem dX0_addItem_27 : decode cX0_addItem 27 = .ok (.getfield 22, 3) := by decide +kernel
theorem dX0_addItem_30 : decode cX0_addItem 30 = .ok (.aload_n 0, 1) := by decide +kernel
theorem dX0_addItem_31 : decode cX0_addItem 31 = .ok (.getfield 57, 3) := by decide +kernel
theorem dX0_addItem_34 : decode cX0_addItem 34 = .ok (.iload_n 3, 1) := by decide +kernel
theorem dX0_addItem_35 : decode cX0_addItem 35 = .ok (.iastore, 1) := by decide +kernel
theorem dX0_addItem_36 : decode cX0_addItem 36 = .ok (.aload_n 0, 1) := by decide +kernel
theorem dX0_addItem_37 : decode cX0_addItem 37 = .ok (.getfield 25, 3) := by decide +kernel
theorem dX0_addItem_40 : decode cX0_addItem 40 = .ok (.aload_n 0, 1) := by decide +kernel
theorem dX0_addItem_41 : decode cX0_addItem 41 = .ok (.getfield 57, 3) := by decide +kernel
theorem dX0_addItem_44 : decode cX0_addItem 44 = .ok (.iload 4, 2) := by decide +kernel
theorem dX0_addItem_46 : decode cX0_addItem 46 = .ok (.iastore, 1) := by decide +kernel
theorem dX0_addItem_47 : decode cX0_addItem 47 = .ok (.aload_n 0, 1) := by decide +kernel
theorem dX0_addItem_48 : decode cX0_addItem 48 = .ok (.getfield 28, 3) := by decide +kernel
theorem dX0_addItem_51 : decode cX0_addItem 51 = .ok (.aload_n 0, 1) := by decide +kernel
theorem dX0_addItem_52 : decode cX0_addItem 52 = .ok (.getfield 57, 3) := by decide +kernel
theorem dX0_addItem_55 : decode cX0_addItem 55 = .ok (.iload 5, 2) := by decide +kernel
theorem dX0_addItem_57 : decode cX0_addItem 57 = .ok (.iastore, 1) := by decide +kernel
theorem dX0_addItem_58 : decode cX0_addItem 58 = .ok (.aload_n 0, 1) := by decide +kernel
theorem dX0_addItem_59 : decode cX0_addItem 59 = .ok (.getfield 31, 3) := by decide +kernel
theorem dX0_addItem_62 : decode cX0_addItem 62 = .ok (.aload_n 0, 1) := by decide +kernel
theorem dX0_addItem_63 : decode cX0_addItem 63 = .ok (.getfield 57, 3) := by decide +kernel
theorem dX0_addItem_66 : decode cX0_addItem 66 = .ok (.iload 6, 2) := by decide +kernel
theorem dX0_addItem_68 : decode cX0_addItem 68 = .ok (.iastore, 1) := by decide +kernel
theorem dX0_addItem_69 : decode cX0_addItem 69 = .ok (.aload_n 0, 1) := by decide +kernel
theorem dX0_addItem_70 : decode cX0_addItem 70 = .ok (.getfield 34, 3) := by decide +kernel
theorem dX0_addItem_73 : decode cX0_addItem 73 = .ok (.aload_n 0, 1) := by decide +kernel
theorem dX0_addItem_74 : decode cX0_addItem 74 = .ok (.getfield 57, 3) := by decide +kernel
theorem dX0_addItem_77 : decode cX0_addItem 77 = .ok (.iload 7, 2) := by decide +kernel
theorem dX0_addItem_79 : decode cX0_addItem 79 = .ok (.iastore, 1) := by decide +kernel
theorem dX0_addItem_80 : decode cX0_addItem 80 = .ok (.aload_n 0, 1) := by decide +kernel
theorem dX0_addItem_81 : decode cX0_addItem 81 = .ok (.getfield 37, 3) := by decide +kernel
theorem dX0_addItem_84 : decode cX0_addItem 84 = .ok (.aload_n 0, 1) := by decide +kernel
theorem dX0_addItem_85 : decode cX0_addItem 85 = .ok (.getfield 57, 3) := by decide +kernel
theorem dX0_addItem_88 : decode cX0_addItem 88 = .ok (.iload_n 3, 1) := by decide +kernel
theorem dX0_addItem_89 : decode cX0_addItem 89 = .ok (.iconst 1, 1) := by decide +kernel
theorem dX0_addItem_90 : decode cX0_addItem 90 = .ok (.if_icmp .ne 18, 3) := by decide +kernel
theorem dX0_addItem_93 : decode cX0_addItem 93 = .ok (.iload 5, 2) := by decide +kernel
theorem dX0_addItem_95 : decode cX0_addItem 95 = .ok (.aload_n 0, 1) := by decide +kernel
theorem dX0_addItem_96 : decode cX0_addItem 96 = .ok (.iload 7, 2) := by decide +kernel
theorem dX0_addItem_98 : decode cX0_addItem 98 = .ok (.invokevirtual 85, 3) := by decide +kernel
theorem dX0_addItem_101 : decode cX0_addItem 101 = .ok (.if_icmp .lt 7, 3) := by decide +kernel
theorem dX0_addItem_104 : decode cX0_addItem 104 = .ok (.iconst 1, 1) := by decide +kernel
theorem dX0_addItem_105 : decode cX0_addItem 105 = .ok (.goto 4, 3) := by decide +kernel
theorem dX0_addItem_108 : decode cX0_addItem 108 = .ok (.iconst 0, 1) := by decide +kernel
theorem dX0_addItem_109 : decode cX0_addItem 109 = .ok (.bastore, 1) := by decide +kernel
theorem dX0_addItem_110 : decode cX0_addItem 110 = .ok (.aload_n 0, 1) := by decide +kernel
theorem dX0_addItem_111 : decode cX0_addItem 111 = .ok (.dup, 1) := by decide +kernel
theorem dX0_addItem_112 : decode cX0_addItem 112 = .ok (.getfield 57, 3) := by decide +kernel
theorem dX0_addItem_115 : decode cX0_addItem 115 = .ok (.iconst 1, 1) := by decide +kernel
theorem dX0_addItem_116 : decode cX0_addItem 116 = .ok (.iadd, 1) := by decide +kernel
theorem dX0_addItem_117 : decode cX0_addItem 117 = .ok (.putfield 57, 3) := by decide +kernel
theorem dX0_addItem_120 : decode cX0_addItem 120 = .ok (.return_, 1) := by decide +kernel
theorem dX0_addMove_0 : decode cX0_addMove 0 = .ok (.aload_n 0, 1) := by decide +kernel
theorem dX0_addMove_1 : decode cX0_addMove 1 = .ok (.lload_n 1, 1) := by decide +kernel
theorem dX0_addMove_2 : decode cX0_addMove 2 = .ok (.iload_n 3, 1) := by decide +kernel
theorem dX0_addMove_3 : decode cX0_addMove 3 = .ok (.aload_n 0, 1) := by decide +kernel
theorem dX0_addMove_4 : decode cX0_addMove 4 = .ok (.iload 4, 2) := by decide +kernel
theorem dX0_addMove_6 : decode cX0_addMove 6 = .ok (.invokevirtual 81, 3) := by decide +kernel
theorem dX0_addMove_9 : decode cX0_addMove 9 = .ok (.iload 6, 2) := by decide +kernel
theorem dX0_addMove_11 : decode cX0_addMove 11 = .ok (.iload 4, 2) := by decide +kernel
theorem dX0_addMove_13 : decode cX0_addMove 13 = .ok (.iload 5, 2) := by decide +kernel
theorem dX0_addMove_15 : decode cX0_addMove 15 = .ok (.invokevirtual 77, 3) := by decide +kernel
theorem dX0_addMove_18 : decode cX0_addMove 18 = .ok (.return_, 1) := by decide +kernel
theorem dX0_addSpeaker_0 : decode cX0_addSpeaker 0 = .ok (.aload_n 0, 1) := by decide +kernel
theorem dX0_addSpeaker_1 : decode cX0_addSpeaker 1 = .ok (.getfield 50, 3) := by decide +kernel
theorem dX0_addSpeaker_4 : decode cX0_addSpeaker 4 = .ok (.ifCond .lt 42, 3) := by decide +kernel
theorem dX0_addSpeaker_7 : decode cX0_addSpeaker 7 = .ok (.aload_n 0, 1) := by decide +kernel
theorem dX0_addSpeaker_8 : decode cX0_addSpeaker 8 = .ok (.getfield 50, 3) := by decide +kernel
theorem dX0_addSpeaker_11 : decode cX0_addSpeaker 11 = .ok (.bipush 6, 2) := by decide +kernel
theorem dX0_addSpeaker_13 : decode cX0_addSpeaker 13 = .ok (.if_icmp .ge 33, 3) := by decide +kernel
theorem dX0_addSpeaker_16 : decode cX0_addSpeaker 16 = .ok (.aload_n 0, 1) := by decide +kernel
theorem dX0_addSpeaker_17 : decode cX0_addSpeaker 17 = .ok (.getfield 9, 3) := by decide +kernel
theorem dX0_addSpeaker_20 : decode cX0_addSpeaker 20 = .ok (.aload_n 0, 1) := by decide +kernel
theorem dX0_addSpeaker_21 : decode cX0_addSpeaker 21 = .ok (.getfield 50, 3) := by decide +kernel
theorem dX0_addSpeaker_24 : decode cX0_addSpeaker 24 = .ok (.lload_n 1, 1) := by decide +kernel
theorem dX0_addSpeaker_25 : decode cX0_addSpeaker 25 = .ok (.lastore, 1) := by decide +kernel
theorem dX0_addSpeaker_26 : decode cX0_addSpeaker 26 = .ok (.aload_n 0, 1) := by decide +kernel
theorem dX0_addSpeaker_27 : decode cX0_addSpeaker 27 = .ok (.getfield 15, 3) := by decide +kernel
theorem dX0_addSpeaker_30 : decode cX0_addSpeaker 30 = .ok (.aload_n 0, 1) := by decide +kernel
theorem dX0_addSpeaker_31 : decode cX0_addSpeaker 31 = .ok (.getfield 50, 3) := by decide +kernel
theorem dX0_addSpeaker_34 : decode cX0_addSpeaker 34 = .ok (.iload_n 3, 1) := by decide +kernel
theorem dX0_addSpeaker_35 : decode cX0_addSpeaker 35 = .ok (.iastore, 1) := by decide +kernel
theorem dX0_addSpeaker_36 : decode cX0_addSpeaker 36 = .ok (.aload_n 0, 1) := by decide +kernel
theorem dX0_addSpeaker_37 : decode cX0_addSpeaker 37 = .ok (.dup, 1) := by decide +kernel
theorem dX0_addSpeaker_38 : decode cX0_addSpeaker 38 = .ok (.getfield 50, 3) := by decide +kernel
theorem dX0_addSpeaker_41 : decode cX0_addSpeaker 41 = .ok (.iconst 1, 1) := by decide +kernel
theorem dX0_addSpeaker_42 : decode cX0_addSpeaker 42 = .ok (.iadd, 1) := by decide +kernel
theorem dX0_addSpeaker_43 : decode cX0_addSpeaker 43 = .ok (.putfield 50, 3) := by decide +kernel
theorem dX0_addSpeaker_46 : decode cX0_addSpeaker 46 = .ok (.return_, 1) := by decide +kernel
theorem dX0_addTime_0 : decode cX0_addTime 0 = .ok (.aload_n 0, 1) := by decide +kernel
theorem dX0_addTime_1 : decode cX0_addTime 1 = .ok (.iload_n 1, 1) := by decide +kernel
theorem dX0_addTime_2 : decode cX0_addTime 2 = .ok (.invokevirtual 70, 3) := by decide +kernel
theorem dX0_addTime_5 : decode cX0_addTime 5 = .ok (.ifCond .eq 13, 3) := by decide +kernel
theorem dX0_addTime_8 : decode cX0_addTime 8 = .ok (.aload_n 0, 1) := by decide +kernel
theorem dX0_addTime_9 : decode cX0_addTime 9 = .ok (.getfield 15, 3) := by decide +kernel
theorem dX0_addTime_12 : decode cX0_addTime 12 = .ok (.iload_n 1, 1) := by decide +kernel
theorem dX0_addTime_13 : decode cX0_addTime 13 = .ok (.dup2, 1) := by decide +kernel
theorem dX0_addTime_14 : decode cX0_addTime 14 = .ok (.iaload, 1) := by decide +kernel
theorem dX0_addTime_15 : decode cX0_addTime 15 = .ok (.iload_n 2, 1) := by decide +kernel
theorem dX0_addTime_16 : decode cX0_addTime 16 = .ok (.iadd, 1) := by decide +kernel
theorem dX0_addTime_17 : decode cX0_addTime 17 = .ok (.iastore, 1) := by decide +kernel
theorem dX0_addTime_18 : decode cX0_addTime 18 = .ok (.return_, 1) := by decide +kernel
theorem dX0_allItems_0 : decode cX0_allItems 0 = .ok (.aload_n 0, 1) := by decide +kernel
theorem dX0_allItems_1 : decode cX0_allItems 1 = .ok (.getfield 57, 3) := by decide +kernel
theorem dX0_allItems_4 : decode cX0_allItems 4 = .ok (.invokestatic 88, 3) := by decide +kernel
theorem dX0_allItems_7 : decode cX0_allItems 7 = .ok (.lconst 1, 1) := by decide +kernel
theorem dX0_allItems_8 : decode cX0_allItems 8 = .ok (.lsub, 1) := by decide +kernel
theorem dX0_allItems_9 : decode cX0_allItems 9 = .ok (.lreturn, 1) := by decide +kernel
theorem dX0_concededItems_0 : decode cX0_concededItems 0 = .ok (.aload_n 0, 1) := by decide +kernel
theorem dX0_concededItems_1 : decode cX0_concededItems 1 = .ok (.getfield 63, 3) := by decide +kernel
theorem dX0_concededItems_4 : decode cX0_concededItems 4 = .ok (.lreturn, 1) := by decide +kernel
theorem dX0_findItem_0 : decode cX0_findItem 0 = .ok (.iconst 0, 1) := by decide +kernel
theorem dX0_findItem_1 : decode cX0_findItem 1 = .ok (.istore_n 3, 1) := by decide +kernel
theorem dX0_findItem_2 : decode cX0_findItem 2 = .ok (.iload_n 3, 1) := by decide +kernel
theorem dX0_findItem_3 : decode cX0_findItem 3 = .ok (.aload_n 0, 1) := by decide +kernel
theorem dX0_findItem_4 : decode cX0_findItem 4 = .ok (.getfield 57, 3) := by decide +kernel
theorem dX0_findItem_7 : decode cX0_findItem 7 = .ok (.if_icmp .ge 28, 3) := by decide +kernel
theorem dX0_findItem_10 : decode cX0_findItem 10 = .ok (.iload_n 3, 1) := by decide +kernel
theorem dX0_findItem_11 : decode cX0_findItem 11 = .ok (.bipush 40, 2) := by decide +kernel
theorem dX0_findItem_13 : decode cX0_findItem 13 = .ok (.if_icmp .ge 22, 3) := by decide +kernel
theorem dX0_findItem_16 : decode cX0_findItem 16 = .ok (.aload_n 0, 1) := by decide +kernel
theorem dX0_findItem_17 : decode cX0_findItem 17 = .ok (.getfield 19, 3) := by decide +kernel
theorem dX0_findItem_20 : decode cX0_findItem 20 = .ok (.iload_n 3, 1) := by decide +kernel
theorem dX0_findItem_21 : decode cX0_findItem 21 = .ok (.laload, 1) := by decide +kernel
theorem dX0_findItem_22 : decode cX0_findItem 22 = .ok (.lload_n 1, 1) := by decide +kernel
theorem dX0_findItem_23 : decode cX0_findItem 23 = .ok (.lcmp, 1) := by decide +kernel
theorem dX0_findItem_24 : decode cX0_findItem 24 = .ok (.ifCond .ne 5, 3) := by decide +kernel
theorem dX0_findItem_27 : decode cX0_findItem 27 = .ok (.iload_n 3, 1) := by decide +kernel
theorem dX0_findItem_28 : decode cX0_findItem 28 = .ok (.ireturn, 1) := by decide +kernel
theorem dX0_findItem_29 : decode cX0_findItem 29 = .ok (.iinc 3 1, 3) := by decide +kernel
theorem dX0_findItem_32 : decode cX0_findItem 32 = .ok (.goto (-30), 3) := by decide +kernel
theorem dX0_findItem_35 : decode cX0_findItem 35 = .ok (.iconst (-1), 1) := by decide +kernel
theorem dX0_findItem_36 : decode cX0_findItem 36 = .ok (.ireturn, 1) := by decide +kernel
theorem dX0_findSpeaker_0 : decode cX0_findSpeaker 0 = .ok (.iconst 0, 1) := by decide +kernel
theorem dX0_findSpeaker_1 : decode cX0_findSpeaker 1 = .ok (.istore_n 3, 1) := by decide +kernel
theorem dX0_findSpeaker_2 : decode cX0_findSpeaker 2 = .ok (.iload_n 3, 1) := by decide +kernel
theorem dX0_findSpeaker_3 : decode cX0_findSpeaker 3 = .ok (.aload_n 0, 1) := by decide +kernel
theorem dX0_findSpeaker_4 : decode cX0_findSpeaker 4 = .ok (.getfield 50, 3) := by decide +kernel
theorem dX0_findSpeaker_7 : decode cX0_findSpeaker 7 = .ok (.if_icmp .ge 28, 3) := by decide +kernel
theorem dX0_findSpeaker_10 : decode cX0_findSpeaker 10 = .ok (.iload_n 3, 1) := by decide +kernel
theorem dX0_findSpeaker_11 : decode cX0_findSpeaker 11 = .ok (.bipush 6, 2) := by decide +kernel
theorem dX0_findSpeaker_13 : decode cX0_findSpeaker 13 = .ok (.if_icmp .ge 22, 3) := by decide +kernel
theorem dX0_findSpeaker_16 : decode cX0_findSpeaker 16 = .ok (.aload_n 0, 1) := by decide +kernel
theorem dX0_findSpeaker_17 : decode cX0_findSpeaker 17 = .ok (.getfield 9, 3) := by decide +kernel
theorem dX0_findSpeaker_20 : decode cX0_findSpeaker 20 = .ok (.iload_n 3, 1) := by decide +kernel
theorem dX0_findSpeaker_21 : decode cX0_findSpeaker 21 = .ok (.laload, 1) := by decide +kernel
theorem dX0_findSpeaker_22 : decode cX0_findSpeaker 22 = .ok (.lload_n 1, 1) := by decide +kernel
theorem dX0_findSpeaker_23 : decode cX0_findSpeaker 23 = .ok (.lcmp, 1) := by decide +kernel
theorem dX0_findSpeaker_24 : decode cX0_findSpeaker 24 = .ok (.ifCond .ne 5, 3) := by decide +kernel
theorem dX0_findSpeaker_27 : decode cX0_findSpeaker 27 = .ok (.iload_n 3, 1) := by decide +kernel
theorem dX0_findSpeaker_28 : decode cX0_findSpeaker 28 = .ok (.ireturn, 1) := by decide +kernel
theorem dX0_findSpeaker_29 : decode cX0_findSpeaker 29 = .ok (.iinc 3 1, 3) := by decide +kernel
theorem dX0_findSpeaker_32 : decode cX0_findSpeaker 32 = .ok (.goto (-30), 3) := by decide +kernel
theorem dX0_findSpeaker_35 : decode cX0_findSpeaker 35 = .ok (.iconst (-1), 1) := by decide +kernel
theorem dX0_findSpeaker_36 : decode cX0_findSpeaker 36 = .ok (.ireturn, 1) := by decide +kernel
theorem dX0_goBack_0 : decode cX0_goBack 0 = .ok (.aload_n 0, 1) := by decide +kernel
theorem dX0_goBack_1 : decode cX0_goBack 1 = .ok (.getfield 41, 3) := by decide +kernel
theorem dX0_goBack_4 : decode cX0_goBack 4 = .ok (.iconst 0, 1) := by decide +kernel
theorem dX0_goBack_5 : decode cX0_goBack 5 = .ok (.aload_n 0, 1) := by decide +kernel
theorem dX0_goBack_6 : decode cX0_goBack 6 = .ok (.getfield 15, 3) := by decide +kernel
theorem dX0_goBack_9 : decode cX0_goBack 9 = .ok (.iconst 0, 1) := by decide +kernel
theorem dX0_goBack_10 : decode cX0_goBack 10 = .ok (.bipush 6, 2) := by decide +kernel
theorem dX0_goBack_12 : decode cX0_goBack 12 = .ok (.invokestatic 44, 3) := by decide +kernel
theorem dX0_goBack_15 : decode cX0_goBack 15 = .ok (.aload_n 0, 1) := by decide +kernel
theorem dX0_goBack_16 : decode cX0_goBack 16 = .ok (.aload_n 0, 1) := by decide +kernel
theorem dX0_goBack_17 : decode cX0_goBack 17 = .ok (.getfield 54, 3) := by decide +kernel
theorem dX0_goBack_20 : decode cX0_goBack 20 = .ok (.putfield 50, 3) := by decide +kernel
theorem dX0_goBack_23 : decode cX0_goBack 23 = .ok (.aload_n 0, 1) := by decide +kernel
theorem dX0_goBack_24 : decode cX0_goBack 24 = .ok (.aload_n 0, 1) := by decide +kernel
theorem dX0_goBack_25 : decode cX0_goBack 25 = .ok (.getfield 60, 3) := by decide +kernel
theorem dX0_goBack_28 : decode cX0_goBack 28 = .ok (.putfield 57, 3) := by decide +kernel
theorem dX0_goBack_31 : decode cX0_goBack 31 = .ok (.aload_n 0, 1) := by decide +kernel
theorem dX0_goBack_32 : decode cX0_goBack 32 = .ok (.aload_n 0, 1) := by decide +kernel
theorem dX0_goBack_33 : decode cX0_goBack 33 = .ok (.getfield 67, 3) := by decide +kernel
theorem dX0_goBack_36 : decode cX0_goBack 36 = .ok (.putfield 63, 3) := by decide +kernel
theorem dX0_goBack_39 : decode cX0_goBack 39 = .ok (.return_, 1) := by decide +kernel
theorem dX0_hasItem_0 : decode cX0_hasItem 0 = .ok (.iload_n 1, 1) := by decide +kernel
theorem dX0_hasItem_1 : decode cX0_hasItem 1 = .ok (.ifCond .lt 21, 3) := by decide +kernel
theorem dX0_hasItem_4 : decode cX0_hasItem 4 = .ok (.iload_n 1, 1) := by decide +kernel
theorem dX0_hasItem_5 : decode cX0_hasItem 5 = .ok (.aload_n 0, 1) := by decide +kernel
theorem dX0_hasItem_6 : decode cX0_hasItem 6 = .ok (.getfield 57, 3) := by decide +kernel
theorem dX0_hasItem_9 : decode cX0_hasItem 9 = .ok (.if_icmp .ge 13, 3) := by decide +kernel
theorem dX0_hasItem_12 : decode cX0_hasItem 12 = .ok (.iload_n 1, 1) := by decide +kernel
theorem dX0_hasItem_13 : decode cX0_hasItem 13 = .ok (.bipush 40, 2) := by decide +kernel
theorem dX0_hasItem_15 : decode cX0_hasItem 15 = .ok (.if_icmp .ge 7, 3) := by decide +kernel
theorem dX0_hasItem_18 : decode cX0_hasItem 18 = .ok (.iconst 1, 1) := by decide +kernel
theorem dX0_hasItem_19 : decode cX0_hasItem 19 = .ok (.goto 4, 3) := by decide +kernel
theorem dX0_hasItem_22 : decode cX0_hasItem 22 = .ok (.iconst 0, 1) := by decide +kernel
theorem dX0_hasItem_23 : decode cX0_hasItem 23 = .ok (.ireturn, 1) := by decide +kernel
theorem dX0_hasSpeaker_0 : decode cX0_hasSpeaker 0 = .ok (.iload_n 1, 1) := by decide +kernel
theorem dX0_hasSpeaker_1 : decode cX0_hasSpeaker 1 = .ok (.ifCond .lt 21, 3) := by decide +kernel
theorem dX0_hasSpeaker_4 : decode cX0_hasSpeaker 4 = .ok (.iload_n 1, 1) := by decide +kernel
theorem dX0_hasSpeaker_5 : decode cX0_hasSpeaker 5 = .ok (.aload_n 0, 1) := by decide +kernel
theorem dX0_hasSpeaker_6 : decode cX0_hasSpeaker 6 = .ok (.getfield 50, 3) := by decide +kernel
theorem dX0_hasSpeaker_9 : decode cX0_hasSpeaker 9 = .ok (.if_icmp .ge 13, 3) := by decide +kernel
theorem dX0_hasSpeaker_12 : decode cX0_hasSpeaker 12 = .ok (.iload_n 1, 1) := by decide +kernel
theorem dX0_hasSpeaker_13 : decode cX0_hasSpeaker 13 = .ok (.bipush 6, 2) := by decide +kernel
theorem dX0_hasSpeaker_15 : decode cX0_hasSpeaker 15 = .ok (.if_icmp .ge 7, 3) := by decide +kernel
theorem dX0_hasSpeaker_18 : decode cX0_hasSpeaker 18 = .ok (.iconst 1, 1) := by decide +kernel
theorem dX0_hasSpeaker_19 : decode cX0_hasSpeaker 19 = .ok (.goto 4, 3) := by decide +kernel
theorem dX0_hasSpeaker_22 : decode cX0_hasSpeaker 22 = .ok (.iconst 0, 1) := by decide +kernel
theorem dX0_hasSpeaker_23 : decode cX0_hasSpeaker 23 = .ok (.ireturn, 1) := by decide +kernel
theorem dX0_init_0 : decode cX0_init 0 = .ok (.aload_n 0, 1) := by decide +kernel
theorem dX0_init_1 : decode cX0_init 1 = .ok (.invokespecial 3, 3) := by decide +kernel
theorem dX0_init_4 : decode cX0_init 4 = .ok (.aload_n 0, 1) := by decide +kernel
theorem dX0_init_5 : decode cX0_init 5 = .ok (.bipush 6, 2) := by decide +kernel
theorem dX0_init_7 : decode cX0_init 7 = .ok (.newarray .long, 2) := by decide +kernel
theorem dX0_init_9 : decode cX0_init 9 = .ok (.putfield 9, 3) := by decide +kernel
theorem dX0_init_12 : decode cX0_init 12 = .ok (.aload_n 0, 1) := by decide +kernel
theorem dX0_init_13 : decode cX0_init 13 = .ok (.bipush 6, 2) := by decide +kernel
theorem dX0_init_15 : decode cX0_init 15 = .ok (.newarray .int, 2) := by decide +kernel
theorem dX0_init_17 : decode cX0_init 17 = .ok (.putfield 15, 3) := by decide +kernel
theorem dX0_init_20 : decode cX0_init 20 = .ok (.aload_n 0, 1) := by decide +kernel
theorem dX0_init_21 : decode cX0_init 21 = .ok (.bipush 40, 2) := by decide +kernel
theorem dX0_init_23 : decode cX0_init 23 = .ok (.newarray .long, 2) := by decide +kernel
theorem dX0_init_25 : decode cX0_init 25 = .ok (.putfield 19, 3) := by decide +kernel
theorem dX0_init_28 : decode cX0_init 28 = .ok (.aload_n 0, 1) := by decide +kernel
theorem dX0_init_29 : decode cX0_init 29 = .ok (.bipush 40, 2) := by decide +kernel
theorem dX0_init_31 : decode cX0_init 31 = .ok (.newarray .int, 2) := by decide +kernel
theorem dX0_init_33 : decode cX0_init 33 = .ok (.putfield 22, 3) := by decide +kernel
theorem dX0_init_36 : decode cX0_init 36 = .ok (.aload_n 0, 1) := by decide +kernel
theorem dX0_init_37 : decode cX0_init 37 = .ok (.bipush 40, 2) := by decide +kernel
theorem dX0_init_39 : decode cX0_init 39 = .ok (.newarray .int, 2) := by decide +kernel
theorem dX0_init_41 : decode cX0_init 41 = .ok (.putfield 25, 3) := by decide +kernel
theorem dX0_init_44 : decode cX0_init 44 = .ok (.aload_n 0, 1) := by decide +kernel
theorem dX0_init_45 : decode cX0_init 45 = .ok (.bipush 40, 2) := by decide +kernel
theorem dX0_init_47 : decode cX0_init 47 = .ok (.newarray .int, 2) := by decide +kernel
theorem dX0_init_49 : decode cX0_init 49 = .ok (.putfield 28, 3) := by decide +kernel
theorem dX0_init_52 : decode cX0_init 52 = .ok (.aload_n 0, 1) := by decide +kernel
theorem dX0_init_53 : decode cX0_init 53 = .ok (.bipush 40, 2) := by decide +kernel
theorem dX0_init_55 : decode cX0_init 55 = .ok (.newarray .int, 2) := by decide +kernel
theorem dX0_init_57 : decode cX0_init 57 = .ok (.putfield 31, 3) := by decide +kernel
theorem dX0_init_60 : decode cX0_init 60 = .ok (.aload_n 0, 1) := by decide +kernel
theorem dX0_init_61 : decode cX0_init 61 = .ok (.bipush 40, 2) := by decide +kernel
theorem dX0_init_63 : decode cX0_init 63 = .ok (.newarray .int, 2) := by decide +kernel
theorem dX0_init_65 : decode cX0_init 65 = .ok (.putfield 34, 3) := by decide +kernel
theorem dX0_init_68 : decode cX0_init 68 = .ok (.aload_n 0, 1) := by decide +kernel
theorem dX0_init_69 : decode cX0_init 69 = .ok (.bipush 40, 2) := by decide +kernel
theorem dX0_init_71 : decode cX0_init 71 = .ok (.newarray .boolean, 2) := by decide +kernel
theorem dX0_init_73 : decode cX0_init 73 = .ok (.putfield 37, 3) := by decide +kernel
theorem dX0_init_76 : decode cX0_init 76 = .ok (.aload_n 0, 1) := by decide +kernel
theorem dX0_init_77 : decode cX0_init 77 = .ok (.bipush 6, 2) := by decide +kernel
theorem dX0_init_79 : decode cX0_init 79 = .ok (.newarray .int, 2) := by decide +kernel
theorem dX0_init_81 : decode cX0_init 81 = .ok (.putfield 41, 3) := by decide +kernel
theorem dX0_init_84 : decode cX0_init 84 = .ok (.return_, 1) := by decide +kernel
theorem dX0_isConceded_0 : decode cX0_isConceded 0 = .ok (.aload_n 0, 1) := by decide +kernel
theorem dX0_isConceded_1 : decode cX0_isConceded 1 = .ok (.getfield 63, 3) := by decide +kernel
theorem dX0_isConceded_4 : decode cX0_isConceded 4 = .ok (.iload_n 1, 1) := by decide +kernel
theorem dX0_isConceded_5 : decode cX0_isConceded 5 = .ok (.invokestatic 88, 3) := by decide +kernel
theorem dX0_isConceded_8 : decode cX0_isConceded 8 = .ok (.land, 1) := by decide +kernel
theorem dX0_isConceded_9 : decode cX0_isConceded 9 = .ok (.lconst 0, 1) := by decide +kernel
theorem dX0_isConceded_10 : decode cX0_isConceded 10 = .ok (.lcmp, 1) := by decide +kernel
theorem dX0_isConceded_11 : decode cX0_isConceded 11 = .ok (.ifCond .eq 7, 3) := by decide +kernel
theorem dX0_isConceded_14 : decode cX0_isConceded 14 = .ok (.iconst 1, 1) := by decide +kernel
theorem dX0_isConceded_15 : decode cX0_isConceded 15 = .ok (.goto 4, 3) := by decide +kernel
theorem dX0_isConceded_18 : decode cX0_isConceded 18 = .ok (.iconst 0, 1) := by decide +kernel
theorem dX0_isConceded_19 : decode cX0_isConceded 19 = .ok (.ireturn, 1) := by decide +kernel
theorem dX0_isStrongAttack_0 : decode cX0_isStrongAttack 0 = .ok (.aload_n 0, 1) := by decide +kernel
theorem dX0_isStrongAttack_1 : decode cX0_isStrongAttack 1 = .ok (.iload_n 1, 1) := by decide +kernel
theorem dX0_isStrongAttack_2 : decode cX0_isStrongAttack 2 = .ok (.invokevirtual 74, 3) := by decide +kernel
theorem dX0_isStrongAttack_5 : decode cX0_isStrongAttack 5 = .ok (.ifCond .eq 16, 3) := by decide +kernel
theorem dX0_isStrongAttack_8 : decode cX0_isStrongAttack 8 = .ok (.aload_n 0, 1) := by decide +kernel
theorem dX0_isStrongAttack_9 : decode cX0_isStrongAttack 9 = .ok (.getfield 37, 3) := by decide +kernel
theorem dX0_isStrongAttack_12 : decode cX0_isStrongAttack 12 = .ok (.iload_n 1, 1) := by decide +kernel
theorem dX0_isStrongAttack_13 : decode cX0_isStrongAttack 13 = .ok (.baload, 1) := by decide +kernel
theorem dX0_isStrongAttack_14 : decode cX0_isStrongAttack 14 = .ok (.ifCond .eq 7, 3) := by decide +kernel
theorem dX0_isStrongAttack_17 : decode cX0_isStrongAttack 17 = .ok (.iconst 1, 1) := by decide +kernel
theorem dX0_isStrongAttack_18 : decode cX0_isStrongAttack 18 = .ok (.goto 4, 3) := by decide +kernel
theorem dX0_isStrongAttack_21 : decode cX0_isStrongAttack 21 = .ok (.iconst 0, 1) := by decide +kernel
theorem dX0_isStrongAttack_22 : decode cX0_isStrongAttack 22 = .ok (.ireturn, 1) := by decide +kernel
theorem dX0_items_0 : decode cX0_items 0 = .ok (.aload_n 0, 1) := by decide +kernel
theorem dX0_items_1 : decode cX0_items 1 = .ok (.getfield 57, 3) := by decide +kernel
theorem dX0_items_4 : decode cX0_items 4 = .ok (.ireturn, 1) := by decide +kernel
theorem dX0_itemsOfKind_0 : decode cX0_itemsOfKind 0 = .ok (.aload_n 0, 1) := by decide +kernel
theorem dX0_itemsOfKind_1 : decode cX0_itemsOfKind 1 = .ok (.aload_n 0, 1) := by decide +kernel
theorem dX0_itemsOfKind_2 : decode cX0_itemsOfKind 2 = .ok (.getfield 22, 3) := by decide +kernel
theorem dX0_itemsOfKind_5 : decode cX0_itemsOfKind 5 = .ok (.iload_n 1, 1) := by decide +kernel
theorem dX0_itemsOfKind_6 : decode cX0_itemsOfKind 6 = .ok (.invokevirtual 100, 3) := by decide +kernel
theorem dX0_itemsOfKind_9 : decode cX0_itemsOfKind 9 = .ok (.lreturn, 1) := by decide +kernel
theorem dX0_itemsOfSpeaker_0 : decode cX0_itemsOfSpeaker 0 = .ok (.aload_n 0, 1) := by decide +kernel
theorem dX0_itemsOfSpeaker_1 : decode cX0_itemsOfSpeaker 1 = .ok (.aload_n 0, 1) := by decide +kernel
theorem dX0_itemsOfSpeaker_2 : decode cX0_itemsOfSpeaker 2 = .ok (.getfield 25, 3) := by decide +kernel
theorem dX0_itemsOfSpeaker_5 : decode cX0_itemsOfSpeaker 5 = .ok (.iload_n 1, 1) := by decide +kernel
theorem dX0_itemsOfSpeaker_6 : decode cX0_itemsOfSpeaker 6 = .ok (.invokevirtual 100, 3) := by decide +kernel
theorem dX0_itemsOfSpeaker_9 : decode cX0_itemsOfSpeaker 9 = .ok (.lreturn, 1) := by decide +kernel
theorem dX0_itemsWith_0 : decode cX0_itemsWith 0 = .ok (.lconst 0, 1) := by decide +kernel
theorem dX0_itemsWith_1 : decode cX0_itemsWith 1 = .ok (.lstore_n 3, 1) := by decide +kernel
theorem dX0_itemsWith_2 : decode cX0_itemsWith 2 = .ok (.iconst 0, 1) := by decide +kernel
theorem dX0_itemsWith_3 : decode cX0_itemsWith 3 = .ok (.istore 5, 2) := by decide +kernel
theorem dX0_itemsWith_5 : decode cX0_itemsWith 5 = .ok (.iload 5, 2) := by decide +kernel
theorem dX0_itemsWith_7 : decode cX0_itemsWith 7 = .ok (.aload_n 0, 1) := by decide +kernel
theorem dX0_itemsWith_8 : decode cX0_itemsWith 8 = .ok (.getfield 57, 3) := by decide +kernel
theorem dX0_itemsWith_11 : decode cX0_itemsWith 11 = .ok (.if_icmp .ge 36, 3) := by decide +kernel
theorem dX0_itemsWith_14 : decode cX0_itemsWith 14 = .ok (.iload 5, 2) := by decide +kernel
theorem dX0_itemsWith_16 : decode cX0_itemsWith 16 = .ok (.aload_n 1, 1) := by decide +kernel
theorem dX0_itemsWith_17 : decode cX0_itemsWith 17 = .ok (.arraylength, 1) := by decide +kernel
theorem dX0_itemsWith_18 : decode cX0_itemsWith 18 = .ok (.if_icmp .ge 29, 3) := by decide +kernel
theorem dX0_itemsWith_21 : decode cX0_itemsWith 21 = .ok (.lload_n 3, 1) := by decide +kernel
theorem dX0_itemsWith_22 : decode cX0_itemsWith 22 = .ok (.aload_n 1, 1) := by decide +kernel
theorem dX0_itemsWith_23 : decode cX0_itemsWith 23 = .ok (.iload 5, 2) := by decide +kernel
theorem dX0_itemsWith_25 : decode cX0_itemsWith 25 = .ok (.iaload, 1) := by decide +kernel
theorem dX0_itemsWith_26 : decode cX0_itemsWith 26 = .ok (.iload_n 2, 1) := by decide +kernel
theorem dX0_itemsWith_27 : decode cX0_itemsWith 27 = .ok (.if_icmp .ne 11, 3) := by decide +kernel
theorem dX0_itemsWith_30 : decode cX0_itemsWith 30 = .ok (.iload 5, 2) := by decide +kernel
theorem dX0_itemsWith_32 : decode cX0_itemsWith 32 = .ok (.invokestatic 88, 3) := by decide +kernel
theorem dX0_itemsWith_35 : decode cX0_itemsWith 35 = .ok (.goto 4, 3) := by decide +kernel
theorem dX0_itemsWith_38 : decode cX0_itemsWith 38 = .ok (.lconst 0, 1) := by decide +kernel
theorem dX0_itemsWith_39 : decode cX0_itemsWith 39 = .ok (.lor, 1) := by decide +kernel
theorem dX0_itemsWith_40 : decode cX0_itemsWith 40 = .ok (.lstore_n 3, 1) := by decide +kernel
theorem dX0_itemsWith_41 : decode cX0_itemsWith 41 = .ok (.iinc 5 1, 3) := by decide +kernel
theorem dX0_itemsWith_44 : decode cX0_itemsWith 44 = .ok (.goto (-39), 3) := by decide +kernel
theorem dX0_itemsWith_47 : decode cX0_itemsWith 47 = .ok (.lload_n 3, 1) := by decide +kernel
theorem dX0_itemsWith_48 : decode cX0_itemsWith 48 = .ok (.lreturn, 1) := by decide +kernel
theorem dX0_itemsWithTarget_0 : decode cX0_itemsWithTarget 0 = .ok (.aload_n 0, 1) := by decide +kernel
theorem dX0_itemsWithTarget_1 : decode cX0_itemsWithTarget 1 = .ok (.aload_n 0, 1) := by decide +kernel
theorem dX0_itemsWithTarget_2 : decode cX0_itemsWithTarget 2 = .ok (.getfield 34, 3) := by decide +kernel
theorem dX0_itemsWithTarget_5 : decode cX0_itemsWithTarget 5 = .ok (.iload_n 1, 1) := by decide +kernel
theorem dX0_itemsWithTarget_6 : decode cX0_itemsWithTarget 6 = .ok (.invokevirtual 100, 3) := by decide +kernel
theorem dX0_itemsWithTarget_9 : decode cX0_itemsWithTarget 9 = .ok (.lreturn, 1) := by decide +kernel
theorem dX0_itemsWithin_0 : decode cX0_itemsWithin 0 = .ok (.lconst 0, 1) := by decide +kernel
theorem dX0_itemsWithin_1 : decode cX0_itemsWithin 1 = .ok (.lstore_n 2, 1) := by decide +kernel
theorem dX0_itemsWithin_2 : decode cX0_itemsWithin 2 = .ok (.iconst 0, 1) := by decide +kernel
theorem dX0_itemsWithin_3 : decode cX0_itemsWithin 3 = .ok (.istore 4, 2) := by decide +kernel
theorem dX0_itemsWithin_5 : decode cX0_itemsWithin 5 = .ok (.iload 4, 2) := by decide +kernel
theorem dX0_itemsWithin_7 : decode cX0_itemsWithin 7 = .ok (.aload_n 0, 1) := by decide +kernel
theorem dX0_itemsWithin_8 : decode cX0_itemsWithin 8 = .ok (.getfield 57, 3) := by decide +kernel
theorem dX0_itemsWithin_11 : decode cX0_itemsWithin 11 = .ok (.if_icmp .ge 31, 3) := by decide +kernel
theorem dX0_itemsWithin_14 : decode cX0_itemsWithin 14 = .ok (.lload_n 2, 1) := by decide +kernel
theorem dX0_itemsWithin_15 : decode cX0_itemsWithin 15 = .ok (.aload_n 0, 1) := by decide +kernel
theorem dX0_itemsWithin_16 : decode cX0_itemsWithin 16 = .ok (.iload 4, 2) := by decide +kernel
theorem dX0_itemsWithin_18 : decode cX0_itemsWithin 18 = .ok (.invokevirtual 85, 3) := by decide +kernel
theorem dX0_itemsWithin_21 : decode cX0_itemsWithin 21 = .ok (.iload_n 1, 1) := by decide +kernel
theorem dX0_itemsWithin_22 : decode cX0_itemsWithin 22 = .ok (.if_icmp .gt 11, 3) := by decide +kernel
theorem dX0_itemsWithin_25 : decode cX0_itemsWithin 25 = .ok (.iload 4, 2) := by decide +kernel
theorem dX0_itemsWithin_27 : decode cX0_itemsWithin 27 = .ok (.invokestatic 88, 3) := by decide +kernel
theorem dX0_itemsWithin_30 : decode cX0_itemsWithin 30 = .ok (.goto 4, 3) := by decide +kernel
theorem dX0_itemsWithin_33 : decode cX0_itemsWithin 33 = .ok (.lconst 0, 1) := by decide +kernel
theorem dX0_itemsWithin_34 : decode cX0_itemsWithin 34 = .ok (.lor, 1) := by decide +kernel
theorem dX0_itemsWithin_35 : decode cX0_itemsWithin 35 = .ok (.lstore_n 2, 1) := by decide +kernel
theorem dX0_itemsWithin_36 : decode cX0_itemsWithin 36 = .ok (.iinc 4 1, 3) := by decide +kernel
theorem dX0_itemsWithin_39 : decode cX0_itemsWithin 39 = .ok (.goto (-34), 3) := by decide +kernel
theorem dX0_itemsWithin_42 : decode cX0_itemsWithin 42 = .ok (.lload_n 2, 1) := by decide +kernel
theorem dX0_itemsWithin_43 : decode cX0_itemsWithin 43 = .ok (.lreturn, 1) := by decide +kernel
theorem dX0_keep_0 : decode cX0_keep 0 = .ok (.aload_n 0, 1) := by decide +kernel
theorem dX0_keep_1 : decode cX0_keep 1 = .ok (.getfield 15, 3) := by decide +kernel
theorem dX0_keep_4 : decode cX0_keep 4 = .ok (.iconst 0, 1) := by decide +kernel
theorem dX0_keep_5 : decode cX0_keep 5 = .ok (.aload_n 0, 1) := by decide +kernel
theorem dX0_keep_6 : decode cX0_keep 6 = .ok (.getfield 41, 3) := by decide +kernel
theorem dX0_keep_9 : decode cX0_keep 9 = .ok (.iconst 0, 1) := by decide +kernel
theorem dX0_keep_10 : decode cX0_keep 10 = .ok (.bipush 6, 2) := by decide +kernel
theorem dX0_keep_12 : decode cX0_keep 12 = .ok (.invokestatic 44, 3) := by decide +kernel
theorem dX0_keep_15 : decode cX0_keep 15 = .ok (.aload_n 0, 1) := by decide +kernel
theorem dX0_keep_16 : decode cX0_keep 16 = .ok (.aload_n 0, 1) := by decide +kernel
theorem dX0_keep_17 : decode cX0_keep 17 = .ok (.getfield 50, 3) := by decide +kernel
theorem dX0_keep_20 : decode cX0_keep 20 = .ok (.putfield 54, 3) := by decide +kernel
theorem dX0_keep_23 : decode cX0_keep 23 = .ok (.aload_n 0, 1) := by decide +kernel
theorem dX0_keep_24 : decode cX0_keep 24 = .ok (.aload_n 0, 1) := by decide +kernel
theorem dX0_keep_25 : decode cX0_keep 25 = .ok (.getfield 57, 3) := by decide +kernel
theorem dX0_keep_28 : decode cX0_keep 28 = .ok (.putfield 60, 3) := by decide +kernel
theorem dX0_keep_31 : decode cX0_keep 31 = .ok (.aload_n 0, 1) := by decide +kernel
theorem dX0_keep_32 : decode cX0_keep 32 = .ok (.aload_n 0, 1) := by decide +kernel
theorem dX0_keep_33 : decode cX0_keep 33 = .ok (.getfield 63, 3) := by decide +kernel
theorem dX0_keep_36 : decode cX0_keep 36 = .ok (.putfield 67, 3) := by decide +kernel
theorem dX0_keep_39 : decode cX0_keep 39 = .ok (.return_, 1) := by decide +kernel
theorem dX0_kindOf_0 : decode cX0_kindOf 0 = .ok (.aload_n 0, 1) := by decide +kernel
theorem dX0_kindOf_1 : decode cX0_kindOf 1 = .ok (.iload_n 1, 1) := by decide +kernel
theorem dX0_kindOf_2 : decode cX0_kindOf 2 = .ok (.invokevirtual 74, 3) := by decide +kernel
theorem dX0_kindOf_5 : decode cX0_kindOf 5 = .ok (.ifCond .eq 12, 3) := by decide +kernel
theorem dX0_kindOf_8 : decode cX0_kindOf 8 = .ok (.aload_n 0, 1) := by decide +kernel
theorem dX0_kindOf_9 : decode cX0_kindOf 9 = .ok (.getfield 22, 3) := by decide +kernel
theorem dX0_kindOf_12 : decode cX0_kindOf 12 = .ok (.iload_n 1, 1) := by decide +kernel
theorem dX0_kindOf_13 : decode cX0_kindOf 13 = .ok (.iaload, 1) := by decide +kernel
theorem dX0_kindOf_14 : decode cX0_kindOf 14 = .ok (.goto 4, 3) := by decide +kernel
theorem dX0_kindOf_17 : decode cX0_kindOf 17 = .ok (.iconst (-1), 1) := by decide +kernel
theorem dX0_kindOf_18 : decode cX0_kindOf 18 = .ok (.ireturn, 1) := by decide +kernel
theorem dX0_leastForceOn_0 : decode cX0_leastForceOn 0 = .ok (.aload_n 0, 1) := by decide +kernel
theorem dX0_leastForceOn_1 : decode cX0_leastForceOn 1 = .ok (.iload_n 1, 1) := by decide +kernel
theorem dX0_leastForceOn_2 : decode cX0_leastForceOn 2 = .ok (.invokevirtual 94, 3) := by decide +kernel
theorem dX0_leastForceOn_5 : decode cX0_leastForceOn 5 = .ok (.istore_n 2, 1) := by decide +kernel
theorem dX0_leastForceOn_6 : decode cX0_leastForceOn 6 = .ok (.aload_n 0, 1) := by decide +kernel
theorem dX0_leastForceOn_7 : decode cX0_leastForceOn 7 = .ok (.iload_n 1, 1) := by decide +kernel
theorem dX0_leastForceOn_8 : decode cX0_leastForceOn 8 = .ok (.invokevirtual 97, 3) := by decide +kernel
theorem dX0_leastForceOn_11 : decode cX0_leastForceOn 11 = .ok (.ifCond .ne 11, 3) := by decide +kernel
theorem dX0_leastForceOn_14 : decode cX0_leastForceOn 14 = .ok (.iload_n 2, 1) := by decide +kernel
theorem dX0_leastForceOn_15 : decode cX0_leastForceOn 15 = .ok (.iconst 1, 1) := by decide +kernel
theorem dX0_leastForceOn_16 : decode cX0_leastForceOn 16 = .ok (.iadd, 1) := by decide +kernel
theorem dX0_leastForceOn_17 : decode cX0_leastForceOn 17 = .ok (.iconst 2, 1) := by decide +kernel
theorem dX0_leastForceOn_18 : decode cX0_leastForceOn 18 = .ok (.idiv, 1) := by decide +kernel
theorem dX0_leastForceOn_19 : decode cX0_leastForceOn 19 = .ok (.goto 4, 3) := by decide +kernel
theorem dX0_leastForceOn_22 : decode cX0_leastForceOn 22 = .ok (.iload_n 2, 1) := by decide +kernel
theorem dX0_leastForceOn_23 : decode cX0_leastForceOn 23 = .ok (.ireturn, 1) := by decide +kernel
theorem dX0_nameOfItem_0 : decode cX0_nameOfItem 0 = .ok (.aload_n 0, 1) := by decide +kernel
theorem dX0_nameOfItem_1 : decode cX0_nameOfItem 1 = .ok (.iload_n 1, 1) := by decide +kernel
theorem dX0_nameOfItem_2 : decode cX0_nameOfItem 2 = .ok (.invokevirtual 74, 3) := by decide +kernel
theorem dX0_nameOfItem_5 : decode cX0_nameOfItem 5 = .ok (.ifCond .eq 12, 3) := by decide +kernel
theorem dX0_nameOfItem_8 : decode cX0_nameOfItem 8 = .ok (.aload_n 0, 1) := by decide +kernel
theorem dX0_nameOfItem_9 : decode cX0_nameOfItem 9 = .ok (.getfield 19, 3) := by decide +kernel
theorem dX0_nameOfItem_12 : decode cX0_nameOfItem 12 = .ok (.iload_n 1, 1) := by decide +kernel
theorem dX0_nameOfItem_13 : decode cX0_nameOfItem 13 = .ok (.laload, 1) := by decide +kernel
theorem dX0_nameOfItem_14 : decode cX0_nameOfItem 14 = .ok (.goto 4, 3) := by decide +kernel
theorem dX0_nameOfItem_17 : decode cX0_nameOfItem 17 = .ok (.lconst 0, 1) := by decide +kernel
theorem dX0_nameOfItem_18 : decode cX0_nameOfItem 18 = .ok (.lreturn, 1) := by decide +kernel
theorem dX0_nameOfSpeaker_0 : decode cX0_nameOfSpeaker 0 = .ok (.aload_n 0, 1) := by decide +kernel
theorem dX0_nameOfSpeaker_1 : decode cX0_nameOfSpeaker 1 = .ok (.iload_n 1, 1) := by decide +kernel
theorem dX0_nameOfSpeaker_2 : decode cX0_nameOfSpeaker 2 = .ok (.invokevirtual 70, 3) := by decide +kernel
theorem dX0_nameOfSpeaker_5 : decode cX0_nameOfSpeaker 5 = .ok (.ifCond .eq 12, 3) := by decide +kernel
theorem dX0_nameOfSpeaker_8 : decode cX0_nameOfSpeaker 8 = .ok (.aload_n 0, 1) := by decide +kernel
theorem dX0_nameOfSpeaker_9 : decode cX0_nameOfSpeaker 9 = .ok (.getfield 9, 3) := by decide +kernel
theorem dX0_nameOfSpeaker_12 : decode cX0_nameOfSpeaker 12 = .ok (.iload_n 1, 1) := by decide +kernel
theorem dX0_nameOfSpeaker_13 : decode cX0_nameOfSpeaker 13 = .ok (.laload, 1) := by decide +kernel
theorem dX0_nameOfSpeaker_14 : decode cX0_nameOfSpeaker 14 = .ok (.goto 4, 3) := by decide +kernel
theorem dX0_nameOfSpeaker_17 : decode cX0_nameOfSpeaker 17 = .ok (.lconst 0, 1) := by decide +kernel
theorem dX0_nameOfSpeaker_18 : decode cX0_nameOfSpeaker 18 = .ok (.lreturn, 1) := by decide +kernel
theorem dX0_setConceded_0 : decode cX0_setConceded 0 = .ok (.aload_n 0, 1) := by decide +kernel
theorem dX0_setConceded_1 : decode cX0_setConceded 1 = .ok (.iload_n 1, 1) := by decide +kernel
theorem dX0_setConceded_2 : decode cX0_setConceded 2 = .ok (.invokevirtual 74, 3) := by decide +kernel
theorem dX0_setConceded_5 : decode cX0_setConceded 5 = .ok (.ifCond .eq 36, 3) := by decide +kernel
theorem dX0_setConceded_8 : decode cX0_setConceded 8 = .ok (.aload_n 0, 1) := by decide +kernel
theorem dX0_setConceded_9 : decode cX0_setConceded 9 = .ok (.iload_n 2, 1) := by decide +kernel
theorem dX0_setConceded_10 : decode cX0_setConceded 10 = .ok (.ifCond .eq 15, 3) := by decide +kernel
theorem dX0_setConceded_13 : decode cX0_setConceded 13 = .ok (.aload_n 0, 1) := by decide +kernel
theorem dX0_setConceded_14 : decode cX0_setConceded 14 = .ok (.getfield 63, 3) := by decide +kernel
theorem dX0_setConceded_17 : decode cX0_setConceded 17 = .ok (.iload_n 1, 1) := by decide +kernel
theorem dX0_setConceded_18 : decode cX0_setConceded 18 = .ok (.invokestatic 88, 3) := by decide +kernel
theorem dX0_setConceded_21 : decode cX0_setConceded 21 = .ok (.lor, 1) := by decide +kernel
theorem dX0_setConceded_22 : decode cX0_setConceded 22 = .ok (.goto 16, 3) := by decide +kernel
theorem dX0_setConceded_25 : decode cX0_setConceded 25 = .ok (.aload_n 0, 1) := by decide +kernel
theorem dX0_setConceded_26 : decode cX0_setConceded 26 = .ok (.getfield 63, 3) := by decide +kernel
theorem dX0_setConceded_29 : decode cX0_setConceded 29 = .ok (.iload_n 1, 1) := by decide +kernel
theorem dX0_setConceded_30 : decode cX0_setConceded 30 = .ok (.invokestatic 88, 3) := by decide +kernel
theorem dX0_setConceded_33 : decode cX0_setConceded 33 = .ok (.ldc2_w 92, 3) := by decide +kernel
theorem dX0_setConceded_36 : decode cX0_setConceded 36 = .ok (.lxor, 1) := by decide +kernel
theorem dX0_setConceded_37 : decode cX0_setConceded 37 = .ok (.land, 1) := by decide +kernel
theorem dX0_setConceded_38 : decode cX0_setConceded 38 = .ok (.putfield 63, 3) := by decide +kernel
theorem dX0_setConceded_41 : decode cX0_setConceded 41 = .ok (.return_, 1) := by decide +kernel
theorem dX0_sourceOf_0 : decode cX0_sourceOf 0 = .ok (.aload_n 0, 1) := by decide +kernel
theorem dX0_sourceOf_1 : decode cX0_sourceOf 1 = .ok (.iload_n 1, 1) := by decide +kernel
theorem dX0_sourceOf_2 : decode cX0_sourceOf 2 = .ok (.invokevirtual 74, 3) := by decide +kernel
theorem dX0_sourceOf_5 : decode cX0_sourceOf 5 = .ok (.ifCond .eq 12, 3) := by decide +kernel
theorem dX0_sourceOf_8 : decode cX0_sourceOf 8 = .ok (.aload_n 0, 1) := by decide +kernel
theorem dX0_sourceOf_9 : decode cX0_sourceOf 9 = .ok (.getfield 31, 3) := by decide +kernel
theorem dX0_sourceOf_12 : decode cX0_sourceOf 12 = .ok (.iload_n 1, 1) := by decide +kernel
theorem dX0_sourceOf_13 : decode cX0_sourceOf 13 = .ok (.iaload, 1) := by decide +kernel
theorem dX0_sourceOf_14 : decode cX0_sourceOf 14 = .ok (.goto 4, 3) := by decide +kernel
theorem dX0_sourceOf_17 : decode cX0_sourceOf 17 = .ok (.iconst (-1), 1) := by decide +kernel
theorem dX0_sourceOf_18 : decode cX0_sourceOf 18 = .ok (.ireturn, 1) := by decide +kernel
theorem dX0_speakerOf_0 : decode cX0_speakerOf 0 = .ok (.aload_n 0, 1) := by decide +kernel
theorem dX0_speakerOf_1 : decode cX0_speakerOf 1 = .ok (.iload_n 1, 1) := by decide +kernel
theorem dX0_speakerOf_2 : decode cX0_speakerOf 2 = .ok (.invokevirtual 74, 3) := by decide +kernel
theorem dX0_speakerOf_5 : decode cX0_speakerOf 5 = .ok (.ifCond .eq 12, 3) := by decide +kernel
theorem dX0_speakerOf_8 : decode cX0_speakerOf 8 = .ok (.aload_n 0, 1) := by decide +kernel
theorem dX0_speakerOf_9 : decode cX0_speakerOf 9 = .ok (.getfield 25, 3) := by decide +kernel
theorem dX0_speakerOf_12 : decode cX0_speakerOf 12 = .ok (.iload_n 1, 1) := by decide +kernel
theorem dX0_speakerOf_13 : decode cX0_speakerOf 13 = .ok (.iaload, 1) := by decide +kernel
theorem dX0_speakerOf_14 : decode cX0_speakerOf 14 = .ok (.goto 4, 3) := by decide +kernel
theorem dX0_speakerOf_17 : decode cX0_speakerOf 17 = .ok (.iconst (-1), 1) := by decide +kernel
theorem dX0_speakerOf_18 : decode cX0_speakerOf 18 = .ok (.ireturn, 1) := by decide +kernel
theorem dX0_speakers_0 : decode cX0_speakers 0 = .ok (.aload_n 0, 1) := by decide +kernel
theorem dX0_speakers_1 : decode cX0_speakers 1 = .ok (.getfield 50, 3) := by decide +kernel
theorem dX0_speakers_4 : decode cX0_speakers 4 = .ok (.ireturn, 1) := by decide +kernel
theorem dX0_strengthOf_0 : decode cX0_strengthOf 0 = .ok (.aload_n 0, 1) := by decide +kernel
theorem dX0_strengthOf_1 : decode cX0_strengthOf 1 = .ok (.iload_n 1, 1) := by decide +kernel
theorem dX0_strengthOf_2 : decode cX0_strengthOf 2 = .ok (.invokevirtual 74, 3) := by decide +kernel
theorem dX0_strengthOf_5 : decode cX0_strengthOf 5 = .ok (.ifCond .eq 12, 3) := by decide +kernel
theorem dX0_strengthOf_8 : decode cX0_strengthOf 8 = .ok (.aload_n 0, 1) := by decide +kernel
theorem dX0_strengthOf_9 : decode cX0_strengthOf 9 = .ok (.getfield 28, 3) := by decide +kernel
theorem dX0_strengthOf_12 : decode cX0_strengthOf 12 = .ok (.iload_n 1, 1) := by decide +kernel
theorem dX0_strengthOf_13 : decode cX0_strengthOf 13 = .ok (.iaload, 1) := by decide +kernel
theorem dX0_strengthOf_14 : decode cX0_strengthOf 14 = .ok (.goto 4, 3) := by decide +kernel
theorem dX0_strengthOf_17 : decode cX0_strengthOf 17 = .ok (.iconst 0, 1) := by decide +kernel
theorem dX0_strengthOf_18 : decode cX0_strengthOf 18 = .ok (.ireturn, 1) := by decide +kernel
theorem dX0_targetOf_0 : decode cX0_targetOf 0 = .ok (.aload_n 0, 1) := by decide +kernel
theorem dX0_targetOf_1 : decode cX0_targetOf 1 = .ok (.iload_n 1, 1) := by decide +kernel
theorem dX0_targetOf_2 : decode cX0_targetOf 2 = .ok (.invokevirtual 74, 3) := by decide +kernel
theorem dX0_targetOf_5 : decode cX0_targetOf 5 = .ok (.ifCond .eq 12, 3) := by decide +kernel
theorem dX0_targetOf_8 : decode cX0_targetOf 8 = .ok (.aload_n 0, 1) := by decide +kernel
theorem dX0_targetOf_9 : decode cX0_targetOf 9 = .ok (.getfield 34, 3) := by decide +kernel
theorem dX0_targetOf_12 : decode cX0_targetOf 12 = .ok (.iload_n 1, 1) := by decide +kernel
theorem dX0_targetOf_13 : decode cX0_targetOf 13 = .ok (.iaload, 1) := by decide +kernel
theorem dX0_targetOf_14 : decode cX0_targetOf 14 = .ok (.goto 4, 3) := by decide +kernel
theorem dX0_targetOf_17 : decode cX0_targetOf 17 = .ok (.iconst (-1), 1) := by decide +kernel
theorem dX0_targetOf_18 : decode cX0_targetOf 18 = .ok (.ireturn, 1) := by decide +kernel
theorem dX0_timeOf_0 : decode cX0_timeOf 0 = .ok (.aload_n 0, 1) := by decide +kernel
theorem dX0_timeOf_1 : decode cX0_timeOf 1 = .ok (.iload_n 1, 1) := by decide +kernel
theorem dX0_timeOf_2 : decode cX0_timeOf 2 = .ok (.invokevirtual 70, 3) := by decide +kernel
theorem dX0_timeOf_5 : decode cX0_timeOf 5 = .ok (.ifCond .eq 12, 3) := by decide +kernel
theorem dX0_timeOf_8 : decode cX0_timeOf 8 = .ok (.aload_n 0, 1) := by decide +kernel
theorem dX0_timeOf_9 : decode cX0_timeOf 9 = .ok (.getfield 15, 3) := by decide +kernel
theorem dX0_timeOf_12 : decode cX0_timeOf 12 = .ok (.iload_n 1, 1) := by decide +kernel
theorem dX0_timeOf_13 : decode cX0_timeOf 13 = .ok (.iaload, 1) := by decide +kernel
theorem dX0_timeOf_14 : decode cX0_timeOf 14 = .ok (.goto 4, 3) := by decide +kernel
theorem dX0_timeOf_17 : decode cX0_timeOf 17 = .ok (.iconst 0, 1) := by decide +kernel
theorem dX0_timeOf_18 : decode cX0_timeOf 18 = .ok (.ireturn, 1) := by decide +kernel
theorem dX1_firstWrongPlace_0 : decode cX1_firstWrongPlace 0 = .ok (.aload_n 0, 1) := by decide +kernel
theorem dX1_firstWrongPlace_1 : decode cX1_firstWrongPlace 1 = .ok (.iconst 0, 1) := by decide +kernel
theorem dX1_firstWrongPlace_2 : decode cX1_firstWrongPlace 2 = .ok (.putfield 15, 3) := by decide +kernel
theorem dX1_firstWrongPlace_5 : decode cX1_firstWrongPlace 5 = .ok (.aload_n 0, 1) := by decide +kernel
theorem dX1_firstWrongPlace_6 : decode cX1_firstWrongPlace 6 = .ok (.iconst 1, 1) := by decide +kernel
theorem dX1_firstWrongPlace_7 : decode cX1_firstWrongPlace 7 = .ok (.putfield 19, 3) := by decide +kernel
theorem dX1_firstWrongPlace_10 : decode cX1_firstWrongPlace 10 = .ok (.iconst 0, 1) := by decide +kernel
theorem dX1_firstWrongPlace_11 : decode cX1_firstWrongPlace 11 = .ok (.istore_n 1, 1) := by decide +kernel
theorem dX1_firstWrongPlace_12 : decode cX1_firstWrongPlace 12 = .ok (.iload_n 1, 1) := by decide +kernel
theorem dX1_firstWrongPlace_13 : decode cX1_firstWrongPlace 13 = .ok (.sipush 400, 3) := by decide +kernel
theorem dX1_firstWrongPlace_16 : decode cX1_firstWrongPlace 16 = .ok (.if_icmp .ge 30, 3) := by decide +kernel
theorem dX1_firstWrongPlace_19 : decode cX1_firstWrongPlace 19 = .ok (.aload_n 0, 1) := by decide +kernel
theorem dX1_firstWrongPlace_20 : decode cX1_firstWrongPlace 20 = .ok (.getfield 19, 3) := by decide +kernel
theorem dX1_firstWrongPlace_23 : decode cX1_firstWrongPlace 23 = .ok (.ifCond .eq 23, 3) := by decide +kernel
theorem dX1_firstWrongPlace_26 : decode cX1_firstWrongPlace 26 = .ok (.aload_n 0, 1) := by decide +kernel
theorem dX1_firstWrongPlace_27 : decode cX1_firstWrongPlace 27 = .ok (.getstatic 25, 3) := by decide +kernel
theorem dX1_firstWrongPlace_30 : decode cX1_firstWrongPlace 30 = .ok (.invokevirtual 31, 3) := by decide +kernel
theorem dX1_firstWrongPlace_33 : decode cX1_firstWrongPlace 33 = .ok (.ifCond .ne 13, 3) := by decide +kernel
theorem dX1_firstWrongPlace_36 : decode cX1_firstWrongPlace 36 = .ok (.aload_n 0, 1) := by decide +kernel
theorem dX1_firstWrongPlace_37 : decode cX1_firstWrongPlace 37 = .ok (.invokevirtual 35, 3) := by decide +kernel
theorem dX1_firstWrongPlace_40 : decode cX1_firstWrongPlace 40 = .ok (.iinc 1 1, 3) := by decide +kernel
theorem dX1_firstWrongPlace_43 : decode cX1_firstWrongPlace 43 = .ok (.goto (-31), 3) := by decide +kernel
theorem dX1_firstWrongPlace_46 : decode cX1_firstWrongPlace 46 = .ok (.aload_n 0, 1) := by decide +kernel
theorem dX1_firstWrongPlace_47 : decode cX1_firstWrongPlace 47 = .ok (.getfield 19, 3) := by decide +kernel
theorem dX1_firstWrongPlace_50 : decode cX1_firstWrongPlace 50 = .ok (.ifCond .eq 7, 3) := by decide +kernel
theorem dX1_firstWrongPlace_53 : decode cX1_firstWrongPlace 53 = .ok (.iconst (-1), 1) := by decide +kernel
theorem dX1_firstWrongPlace_54 : decode cX1_firstWrongPlace 54 = .ok (.goto 14, 3) := by decide +kernel
theorem dX1_firstWrongPlace_57 : decode cX1_firstWrongPlace 57 = .ok (.aload_n 0, 1) := by decide +kernel
theorem dX1_firstWrongPlace_58 : decode cX1_firstWrongPlace 58 = .ok (.getfield 9, 3) := by decide +kernel
theorem dX1_firstWrongPlace_61 : decode cX1_firstWrongPlace 61 = .ok (.aload_n 0, 1) := by decide +kernel
theorem dX1_firstWrongPlace_62 : decode cX1_firstWrongPlace 62 = .ok (.getfield 15, 3) := by decide +kernel
theorem dX1_firstWrongPlace_65 : decode cX1_firstWrongPlace 65 = .ok (.invokevirtual 38, 3) := by decide +kernel
theorem dX1_firstWrongPlace_68 : decode cX1_firstWrongPlace 68 = .ok (.ireturn, 1) := by decide +kernel
theorem dX1_init_0 : decode cX1_init 0 = .ok (.aload_n 0, 1) := by decide +kernel
theorem dX1_init_1 : decode cX1_init 1 = .ok (.invokespecial 3, 3) := by decide +kernel
theorem dX1_init_4 : decode cX1_init 4 = .ok (.aload_n 0, 1) := by decide +kernel
theorem dX1_init_5 : decode cX1_init 5 = .ok (.aload_n 1, 1) := by decide +kernel
theorem dX1_init_6 : decode cX1_init 6 = .ok (.putfield 9, 3) := by decide +kernel
theorem dX1_init_9 : decode cX1_init 9 = .ok (.return_, 1) := by decide +kernel
theorem dX1_need_0 : decode cX1_need 0 = .ok (.aload_n 0, 1) := by decide +kernel
theorem dX1_need_1 : decode cX1_need 1 = .ok (.getfield 19, 3) := by decide +kernel
theorem dX1_need_4 : decode cX1_need 4 = .ok (.ifCond .eq 31, 3) := by decide +kernel
theorem dX1_need_7 : decode cX1_need 7 = .ok (.aload_n 0, 1) := by decide +kernel
theorem dX1_need_8 : decode cX1_need 8 = .ok (.getfield 9, 3) := by decide +kernel
theorem dX1_need_11 : decode cX1_need 11 = .ok (.aload_n 0, 1) := by decide +kernel
theorem dX1_need_12 : decode cX1_need 12 = .ok (.getfield 15, 3) := by decide +kernel
theorem dX1_need_15 : decode cX1_need 15 = .ok (.invokevirtual 42, 3) := by decide +kernel
theorem dX1_need_18 : decode cX1_need 18 = .ok (.aload_n 1, 1) := by decide +kernel
theorem dX1_need_19 : decode cX1_need 19 = .ok (.if_acmp .ne 16, 3) := by decide +kernel
theorem dX1_need_22 : decode cX1_need 22 = .ok (.aload_n 0, 1) := by decide +kernel
theorem dX1_need_23 : decode cX1_need 23 = .ok (.dup, 1) := by decide +kernel
theorem dX1_need_24 : decode cX1_need 24 = .ok (.getfield 15, 3) := by decide +kernel
theorem dX1_need_27 : decode cX1_need 27 = .ok (.iconst 1, 1) := by decide +kernel
theorem dX1_need_28 : decode cX1_need 28 = .ok (.iadd, 1) := by decide +kernel
theorem dX1_need_29 : decode cX1_need 29 = .ok (.putfield 15, 3) := by decide +kernel
theorem dX1_need_32 : decode cX1_need 32 = .ok (.goto 8, 3) := by decide +kernel
theorem dX1_need_35 : decode cX1_need 35 = .ok (.aload_n 0, 1) := by decide +kernel
theorem dX1_need_36 : decode cX1_need 36 = .ok (.iconst 0, 1) := by decide +kernel
theorem dX1_need_37 : decode cX1_need 37 = .ok (.putfield 19, 3) := by decide +kernel
theorem dX1_need_40 : decode cX1_need 40 = .ok (.return_, 1) := by decide +kernel
theorem dX1_readLine_0 : decode cX1_readLine 0 = .ok (.aload_n 0, 1) := by decide +kernel
theorem dX1_readLine_1 : decode cX1_readLine 1 = .ok (.getstatic 46, 3) := by decide +kernel
theorem dX1_readLine_4 : decode cX1_readLine 4 = .ok (.invokevirtual 49, 3) := by decide +kernel
theorem dX1_readLine_7 : decode cX1_readLine 7 = .ok (.ifCond .eq 20, 3) := by decide +kernel
theorem dX1_readLine_10 : decode cX1_readLine 10 = .ok (.aload_n 0, 1) := by decide +kernel
theorem dX1_readLine_11 : decode cX1_readLine 11 = .ok (.getstatic 52, 3) := by decide +kernel
theorem dX1_readLine_14 : decode cX1_readLine 14 = .ok (.invokevirtual 55, 3) := by decide +kernel
theorem dX1_readLine_17 : decode cX1_readLine 17 = .ok (.aload_n 0, 1) := by decide +kernel
theorem dX1_readLine_18 : decode cX1_readLine 18 = .ok (.getstatic 59, 3) := by decide +kernel
theorem dX1_readLine_21 : decode cX1_readLine 21 = .ok (.invokevirtual 62, 3) := by decide +kernel
theorem dX1_readLine_24 : decode cX1_readLine 24 = .ok (.goto 112, 3) := by decide +kernel
theorem dX1_readLine_27 : decode cX1_readLine 27 = .ok (.aload_n 0, 1) := by decide +kernel
theorem dX1_readLine_28 : decode cX1_readLine 28 = .ok (.getstatic 65, 3) := by decide +kernel
theorem dX1_readLine_31 : decode cX1_readLine 31 = .ok (.invokevirtual 49, 3) := by decide +kernel
theorem dX1_readLine_34 : decode cX1_readLine 34 = .ok (.ifCond .eq 27, 3) := by decide +kernel
theorem dX1_readLine_37 : decode cX1_readLine 37 = .ok (.aload_n 0, 1) := by decide +kernel
theorem dX1_readLine_38 : decode cX1_readLine 38 = .ok (.getstatic 52, 3) := by decide +kernel
theorem dX1_readLine_41 : decode cX1_readLine 41 = .ok (.invokevirtual 55, 3) := by decide +kernel
theorem dX1_readLine_44 : decode cX1_readLine 44 = .ok (.aload_n 0, 1) := by decide +kernel
theorem dX1_readLine_45 : decode cX1_readLine 45 = .ok (.getstatic 68, 3) := by decide +kernel
theorem dX1_readLine_48 : decode cX1_readLine 48 = .ok (.invokevirtual 71, 3) := by decide +kernel
theorem dX1_readLine_51 : decode cX1_readLine 51 = .ok (.aload_n 0, 1) := by decide +kernel
theorem dX1_readLine_52 : decode cX1_readLine 52 = .ok (.getstatic 74, 3) := by decide +kernel
theorem dX1_readLine_55 : decode cX1_readLine 55 = .ok (.invokevirtual 62, 3) := by decide +kernel
theorem dX1_readLine_58 : decode cX1_readLine 58 = .ok (.goto 78, 3) := by decide +kernel
theorem dX1_readLine_61 : decode cX1_readLine 61 = .ok (.aload_n 0, 1) := by decide +kernel
theorem dX1_readLine_62 : decode cX1_readLine 62 = .ok (.getstatic 77, 3) := by decide +kernel
theorem dX1_readLine_65 : decode cX1_readLine 65 = .ok (.invokevirtual 49, 3) := by decide +kernel
theorem dX1_readLine_68 : decode cX1_readLine 68 = .ok (.ifCond .eq 13, 3) := by decide +kernel
theorem dX1_readLine_71 : decode cX1_readLine 71 = .ok (.aload_n 0, 1) := by decide +kernel
theorem dX1_readLine_72 : decode cX1_readLine 72 = .ok (.getstatic 80, 3) := by decide +kernel
theorem dX1_readLine_75 : decode cX1_readLine 75 = .ok (.invokevirtual 83, 3) := by decide +kernel
theorem dX1_readLine_78 : decode cX1_readLine 78 = .ok (.goto 58, 3) := by decide +kernel
theorem dX1_readLine_81 : decode cX1_readLine 81 = .ok (.aload_n 0, 1) := by decide +kernel
theorem dX1_readLine_82 : decode cX1_readLine 82 = .ok (.getstatic 86, 3) := by decide +kernel
theorem dX1_readLine_85 : decode cX1_readLine 85 = .ok (.invokevirtual 49, 3) := by decide +kernel
theorem dX1_readLine_88 : decode cX1_readLine 88 = .ok (.ifCond .eq 13, 3) := by decide +kernel
theorem dX1_readLine_91 : decode cX1_readLine 91 = .ok (.aload_n 0, 1) := by decide +kernel
theorem dX1_readLine_92 : decode cX1_readLine 92 = .ok (.getstatic 89, 3) := by decide +kernel
theorem dX1_readLine_95 : decode cX1_readLine 95 = .ok (.invokevirtual 83, 3) := by decide +kernel
theorem dX1_readLine_98 : decode cX1_readLine 98 = .ok (.goto 38, 3) := by decide +kernel
theorem dX1_readLine_101 : decode cX1_readLine 101 = .ok (.aload_n 0, 1) := by decide +kernel
theorem dX1_readLine_102 : decode cX1_readLine 102 = .ok (.getstatic 92, 3) := by decide +kernel
theorem dX1_readLine_105 : decode cX1_readLine 105 = .ok (.invokevirtual 49, 3) := by decide +kernel
theorem dX1_readLine_108 : decode cX1_readLine 108 = .ok (.ifCond .ne 13, 3) := by decide +kernel
theorem dX1_readLine_111 : decode cX1_readLine 111 = .ok (.aload_n 0, 1) := by decide +kernel
theorem dX1_readLine_112 : decode cX1_readLine 112 = .ok (.getstatic 95, 3) := by decide +kernel
theorem dX1_readLine_115 : decode cX1_readLine 115 = .ok (.invokevirtual 49, 3) := by decide +kernel
theorem dX1_readLine_118 : decode cX1_readLine 118 = .ok (.ifCond .eq 13, 3) := by decide +kernel
theorem dX1_readLine_121 : decode cX1_readLine 121 = .ok (.aload_n 0, 1) := by decide +kernel
theorem dX1_readLine_122 : decode cX1_readLine 122 = .ok (.getstatic 52, 3) := by decide +kernel
theorem dX1_readLine_125 : decode cX1_readLine 125 = .ok (.invokevirtual 55, 3) := by decide +kernel
theorem dX1_readLine_128 : decode cX1_readLine 128 = .ok (.goto 8, 3) := by decide +kernel
theorem dX1_readLine_131 : decode cX1_readLine 131 = .ok (.aload_n 0, 1) := by decide +kernel
theorem dX1_readLine_132 : decode cX1_readLine 132 = .ok (.iconst 0, 1) := by decide +kernel
theorem dX1_readLine_133 : decode cX1_readLine 133 = .ok (.putfield 19, 3) := by decide +kernel
theorem dX1_readLine_136 : decode cX1_readLine 136 = .ok (.aload_n 0, 1) := by decide +kernel
theorem dX1_readLine_137 : decode cX1_readLine 137 = .ok (.getstatic 98, 3) := by decide +kernel
theorem dX1_readLine_140 : decode cX1_readLine 140 = .ok (.invokevirtual 55, 3) := by decide +kernel
theorem dX1_readLine_143 : decode cX1_readLine 143 = .ok (.return_, 1) := by decide +kernel
theorem dX1_readMove_0 : decode cX1_readMove 0 = .ok (.aload_n 0, 1) := by decide +kernel
theorem dX1_readMove_1 : decode cX1_readMove 1 = .ok (.getstatic 52, 3) := by decide +kernel
theorem dX1_readMove_4 : decode cX1_readMove 4 = .ok (.invokevirtual 55, 3) := by decide +kernel
theorem dX1_readMove_7 : decode cX1_readMove 7 = .ok (.aload_n 0, 1) := by decide +kernel
theorem dX1_readMove_8 : decode cX1_readMove 8 = .ok (.getstatic 101, 3) := by decide +kernel
theorem dX1_readMove_11 : decode cX1_readMove 11 = .ok (.invokevirtual 71, 3) := by decide +kernel
theorem dX1_readMove_14 : decode cX1_readMove 14 = .ok (.aload_n 0, 1) := by decide +kernel
theorem dX1_readMove_15 : decode cX1_readMove 15 = .ok (.aload_n 1, 1) := by decide +kernel
theorem dX1_readMove_16 : decode cX1_readMove 16 = .ok (.invokevirtual 71, 3) := by decide +kernel
theorem dX1_readMove_19 : decode cX1_readMove 19 = .ok (.aload_n 0, 1) := by decide +kernel
theorem dX1_readMove_20 : decode cX1_readMove 20 = .ok (.getstatic 104, 3) := by decide +kernel
theorem dX1_readMove_23 : decode cX1_readMove 23 = .ok (.invokevirtual 62, 3) := by decide +kernel
theorem dX1_readMove_26 : decode cX1_readMove 26 = .ok (.aload_n 0, 1) := by decide +kernel
theorem dX1_readMove_27 : decode cX1_readMove 27 = .ok (.getstatic 107, 3) := by decide +kernel
theorem dX1_readMove_30 : decode cX1_readMove 30 = .ok (.invokevirtual 49, 3) := by decide +kernel
theorem dX1_readMove_33 : decode cX1_readMove 33 = .ok (.ifCond .eq 8, 3) := by decide +kernel
theorem dX1_readMove_36 : decode cX1_readMove 36 = .ok (.aload_n 0, 1) := by decide +kernel
theorem dX1_readMove_37 : decode cX1_readMove 37 = .ok (.iconst 0, 1) := by decide +kernel
theorem dX1_readMove_38 : decode cX1_readMove 38 = .ok (.invokevirtual 110, 3) := by decide +kernel
theorem dX1_readMove_41 : decode cX1_readMove 41 = .ok (.return_, 1) := by decide +kernel
theorem dX1_readNameBehind_0 : decode cX1_readNameBehind 0 = .ok (.aload_n 0, 1) := by decide +kernel
theorem dX1_readNameBehind_1 : decode cX1_readNameBehind 1 = .ok (.aload_n 1, 1) := by decide +kernel
theorem dX1_readNameBehind_2 : decode cX1_readNameBehind 2 = .ok (.invokevirtual 55, 3) := by decide +kernel
theorem dX1_readNameBehind_5 : decode cX1_readNameBehind 5 = .ok (.aload_n 0, 1) := by decide +kernel
theorem dX1_readNameBehind_6 : decode cX1_readNameBehind 6 = .ok (.getstatic 52, 3) := by decide +kernel
theorem dX1_readNameBehind_9 : decode cX1_readNameBehind 9 = .ok (.invokevirtual 55, 3) := by decide +kernel
theorem dX1_readNameBehind_12 : decode cX1_readNameBehind 12 = .ok (.return_, 1) := by decide +kernel
theorem dX1_readNumberBehind_0 : decode cX1_readNumberBehind 0 = .ok (.aload_n 0, 1) := by decide +kernel
theorem dX1_readNumberBehind_1 : decode cX1_readNumberBehind 1 = .ok (.aload_n 1, 1) := by decide +kernel
theorem dX1_readNumberBehind_2 : decode cX1_readNumberBehind 2 = .ok (.invokevirtual 49, 3) := by decide +kernel
theorem dX1_readNumberBehind_5 : decode cX1_readNumberBehind 5 = .ok (.ifCond .eq 10, 3) := by decide +kernel
theorem dX1_readNumberBehind_8 : decode cX1_readNumberBehind 8 = .ok (.aload_n 0, 1) := by decide +kernel
theorem dX1_readNumberBehind_9 : decode cX1_readNumberBehind 9 = .ok (.getstatic 114, 3) := by decide +kernel
theorem dX1_readNumberBehind_12 : decode cX1_readNumberBehind 12 = .ok (.invokevirtual 55, 3) := by decide +kernel
theorem dX1_readNumberBehind_15 : decode cX1_readNumberBehind 15 = .ok (.return_, 1) := by decide +kernel
theorem dX1_readSingle_0 : decode cX1_readSingle 0 = .ok (.aload_n 0, 1) := by decide +kernel
theorem dX1_readSingle_1 : decode cX1_readSingle 1 = .ok (.getstatic 126, 3) := by decide +kernel
theorem dX1_readSingle_4 : decode cX1_readSingle 4 = .ok (.invokevirtual 49, 3) := by decide +kernel
theorem dX1_readSingle_7 : decode cX1_readSingle 7 = .ok (.ifCond .ne 33, 3) := by decide +kernel
theorem dX1_readSingle_10 : decode cX1_readSingle 10 = .ok (.aload_n 0, 1) := by decide +kernel
theorem dX1_readSingle_11 : decode cX1_readSingle 11 = .ok (.getstatic 129, 3) := by decide +kernel
theorem dX1_readSingle_14 : decode cX1_readSingle 14 = .ok (.invokevirtual 49, 3) := by decide +kernel
theorem dX1_readSingle_17 : decode cX1_readSingle 17 = .ok (.ifCond .ne 23, 3) := by decide +kernel
theorem dX1_readSingle_20 : decode cX1_readSingle 20 = .ok (.aload_n 0, 1) := by decide +kernel
theorem dX1_readSingle_21 : decode cX1_readSingle 21 = .ok (.getstatic 132, 3) := by decide +kernel
theorem dX1_readSingle_24 : decode cX1_readSingle 24 = .ok (.invokevirtual 49, 3) := by decide +kernel
theorem dX1_readSingle_27 : decode cX1_readSingle 27 = .ok (.ifCond .ne 13, 3) := by decide +kernel
theorem dX1_readSingle_30 : decode cX1_readSingle 30 = .ok (.aload_n 0, 1) := by decide +kernel
theorem dX1_readSingle_31 : decode cX1_readSingle 31 = .ok (.getstatic 135, 3) := by decide +kernel
theorem dX1_readSingle_34 : decode cX1_readSingle 34 = .ok (.invokevirtual 49, 3) := by decide +kernel
theorem dX1_readSingle_37 : decode cX1_readSingle 37 = .ok (.ifCond .eq 13, 3) := by decide +kernel
theorem dX1_readSingle_40 : decode cX1_readSingle 40 = .ok (.aload_n 0, 1) := by decide +kernel
theorem dX1_readSingle_41 : decode cX1_readSingle 41 = .ok (.getstatic 52, 3) := by decide +kernel
theorem dX1_readSingle_44 : decode cX1_readSingle 44 = .ok (.invokevirtual 55, 3) := by decide +kernel
theorem dX1_readSingle_47 : decode cX1_readSingle 47 = .ok (.goto 65, 3) := by decide +kernel
theorem dX1_readSingle_50 : decode cX1_readSingle 50 = .ok (.iload_n 1, 1) := by decide +kernel
theorem dX1_readSingle_51 : decode cX1_readSingle 51 = .ok (.bipush 6, 2) := by decide +kernel
theorem dX1_readSingle_53 : decode cX1_readSingle 53 = .ok (.if_icmp .lt 11, 3) := by decide +kernel
theorem dX1_readSingle_56 : decode cX1_readSingle 56 = .ok (.aload_n 0, 1) := by decide +kernel
theorem dX1_readSingle_57 : decode cX1_readSingle 57 = .ok (.iconst 0, 1) := by decide +kernel
theorem dX1_readSingle_58 : decode cX1_readSingle 58 = .ok (.putfield 19, 3) := by decide +kernel
theorem dX1_readSingle_61 : decode cX1_readSingle 61 = .ok (.goto 51, 3) := by decide +kernel
theorem dX1_readSingle_64 : decode cX1_readSingle 64 = .ok (.aload_n 0, 1) := by decide +kernel
theorem dX1_readSingle_65 : decode cX1_readSingle 65 = .ok (.getstatic 138, 3) := by decide +kernel
theorem dX1_readSingle_68 : decode cX1_readSingle 68 = .ok (.invokevirtual 49, 3) := by decide +kernel
theorem dX1_readSingle_71 : decode cX1_readSingle 71 = .ok (.ifCond .eq 13, 3) := by decide +kernel
theorem dX1_readSingle_74 : decode cX1_readSingle 74 = .ok (.aload_n 0, 1) := by decide +kernel
theorem dX1_readSingle_75 : decode cX1_readSingle 75 = .ok (.iload_n 1, 1) := by decide +kernel
theorem dX1_readSingle_76 : decode cX1_readSingle 76 = .ok (.iconst 1, 1) := by decide +kernel
theorem dX1_readSingle_77 : decode cX1_readSingle 77 = .ok (.iadd, 1) := by decide +kernel
theorem dX1_readSingle_78 : decode cX1_readSingle 78 = .ok (.invokevirtual 117, 3) := by decide +kernel
theorem dX1_readSingle_81 : decode cX1_readSingle 81 = .ok (.goto 31, 3) := by decide +kernel
theorem dX1_readSingle_84 : decode cX1_readSingle 84 = .ok (.aload_n 0, 1) := by decide +kernel
theorem dX1_readSingle_85 : decode cX1_readSingle 85 = .ok (.getstatic 141, 3) := by decide +kernel
theorem dX1_readSingle_88 : decode cX1_readSingle 88 = .ok (.invokevirtual 55, 3) := by decide +kernel
theorem dX1_readSingle_91 : decode cX1_readSingle 91 = .ok (.aload_n 0, 1) := by decide +kernel
theorem dX1_readSingle_92 : decode cX1_readSingle 92 = .ok (.getfield 19, 3) := by decide +kernel
theorem dX1_readSingle_95 : decode cX1_readSingle 95 = .ok (.ifCond .eq 10, 3) := by decide +kernel
theorem dX1_readSingle_98 : decode cX1_readSingle 98 = .ok (.aload_n 0, 1) := by decide +kernel
theorem dX1_readSingle_99 : decode cX1_readSingle 99 = .ok (.iload_n 1, 1) := by decide +kernel
theorem dX1_readSingle_100 : decode cX1_readSingle 100 = .ok (.iconst 1, 1) := by decide +kernel
theorem dX1_readSingle_101 : decode cX1_readSingle 101 = .ok (.iadd, 1) := by decide +kernel
theorem dX1_readSingle_102 : decode cX1_readSingle 102 = .ok (.invokevirtual 110, 3) := by decide +kernel
theorem dX1_readSingle_105 : decode cX1_readSingle 105 = .ok (.aload_n 0, 1) := by decide +kernel
theorem dX1_readSingle_106 : decode cX1_readSingle 106 = .ok (.getstatic 144, 3) := by decide +kernel
theorem dX1_readSingle_109 : decode cX1_readSingle 109 = .ok (.invokevirtual 55, 3) := by decide +kernel
theorem dX1_readSingle_112 : decode cX1_readSingle 112 = .ok (.return_, 1) := by decide +kernel
theorem dX1_readTest_0 : decode cX1_readTest 0 = .ok (.aload_n 0, 1) := by decide +kernel
theorem dX1_readTest_1 : decode cX1_readTest 1 = .ok (.iload_n 1, 1) := by decide +kernel
theorem dX1_readTest_2 : decode cX1_readTest 2 = .ok (.invokevirtual 117, 3) := by decide +kernel
theorem dX1_readTest_5 : decode cX1_readTest 5 = .ok (.iconst 0, 1) := by decide +kernel
theorem dX1_readTest_6 : decode cX1_readTest 6 = .ok (.istore_n 2, 1) := by decide +kernel
theorem dX1_readTest_7 : decode cX1_readTest 7 = .ok (.iload_n 2, 1) := by decide +kernel
theorem dX1_readTest_8 : decode cX1_readTest 8 = .ok (.sipush 400, 3) := by decide +kernel
theorem dX1_readTest_11 : decode cX1_readTest 11 = .ok (.if_icmp .ge 34, 3) := by decide +kernel
theorem dX1_readTest_14 : decode cX1_readTest 14 = .ok (.aload_n 0, 1) := by decide +kernel
theorem dX1_readTest_15 : decode cX1_readTest 15 = .ok (.getstatic 120, 3) := by decide +kernel
theorem dX1_readTest_18 : decode cX1_readTest 18 = .ok (.invokevirtual 49, 3) := by decide +kernel
theorem dX1_readTest_21 : decode cX1_readTest 21 = .ok (.ifCond .ne 13, 3) := by decide +kernel
theorem dX1_readTest_24 : decode cX1_readTest 24 = .ok (.aload_n 0, 1) := by decide +kernel
theorem dX1_readTest_25 : decode cX1_readTest 25 = .ok (.getstatic 123, 3) := by decide +kernel
theorem dX1_readTest_28 : decode cX1_readTest 28 = .ok (.invokevirtual 49, 3) := by decide +kernel
theorem dX1_readTest_31 : decode cX1_readTest 31 = .ok (.ifCond .eq 14, 3) := by decide +kernel
theorem dX1_readTest_34 : decode cX1_readTest 34 = .ok (.aload_n 0, 1) := by decide +kernel
theorem dX1_readTest_35 : decode cX1_readTest 35 = .ok (.iload_n 1, 1) := by decide +kernel
theorem dX1_readTest_36 : decode cX1_readTest 36 = .ok (.invokevirtual 117, 3) := by decide +kernel
theorem dX1_readTest_39 : decode cX1_readTest 39 = .ok (.iinc 2 1, 3) := by decide +kernel
theorem dX1_readTest_42 : decode cX1_readTest 42 = .ok (.goto (-35), 3) := by decide +kernel
theorem dX1_readTest_45 : decode cX1_readTest 45 = .ok (.return_, 1) := by decide +kernel
theorem dX1_sees_0 : decode cX1_sees 0 = .ok (.aload_n 0, 1) := by decide +kernel
theorem dX1_sees_1 : decode cX1_sees 1 = .ok (.getfield 19, 3) := by decide +kernel
theorem dX1_sees_4 : decode cX1_sees 4 = .ok (.ifCond .eq 22, 3) := by decide +kernel
theorem dX1_sees_7 : decode cX1_sees 7 = .ok (.aload_n 0, 1) := by decide +kernel
theorem dX1_sees_8 : decode cX1_sees 8 = .ok (.getfield 9, 3) := by decide +kernel
theorem dX1_sees_11 : decode cX1_sees 11 = .ok (.aload_n 0, 1) := by decide +kernel
theorem dX1_sees_12 : decode cX1_sees 12 = .ok (.getfield 15, 3) := by decide +kernel
theorem dX1_sees_15 : decode cX1_sees 15 = .ok (.invokevirtual 42, 3) := by decide +kernel
theorem dX1_sees_18 : decode cX1_sees 18 = .ok (.aload_n 1, 1) := by decide +kernel
theorem dX1_sees_19 : decode cX1_sees 19 = .ok (.if_acmp .ne 7, 3) := by decide +kernel
theorem dX1_sees_22 : decode cX1_sees 22 = .ok (.iconst 1, 1) := by decide +kernel
theorem dX1_sees_23 : decode cX1_sees 23 = .ok (.goto 4, 3) := by decide +kernel
theorem dX1_sees_26 : decode cX1_sees 26 = .ok (.iconst 0, 1) := by decide +kernel
theorem dX1_sees_27 : decode cX1_sees 27 = .ok (.ireturn, 1) := by decide +kernel
theorem dX1_takes_0 : decode cX1_takes 0 = .ok (.aload_n 0, 1) := by decide +kernel
theorem dX1_takes_1 : decode cX1_takes 1 = .ok (.getfield 19, 3) := by decide +kernel
theorem dX1_takes_4 : decode cX1_takes 4 = .ok (.ifCond .eq 18, 3) := by decide +kernel
theorem dX1_takes_7 : decode cX1_takes 7 = .ok (.aload_n 0, 1) := by decide +kernel
theorem dX1_takes_8 : decode cX1_takes 8 = .ok (.getfield 9, 3) := by decide +kernel
theorem dX1_takes_11 : decode cX1_takes 11 = .ok (.aload_n 0, 1) := by decide +kernel
theorem dX1_takes_12 : decode cX1_takes 12 = .ok (.getfield 15, 3) := by decide +kernel
theorem dX1_takes_15 : decode cX1_takes 15 = .ok (.invokevirtual 42, 3) := by decide +kernel
theorem dX1_takes_18 : decode cX1_takes 18 = .ok (.aload_n 1, 1) := by decide +kernel
theorem dX1_takes_19 : decode cX1_takes 19 = .ok (.if_acmp .eq 5, 3) := by decide +kernel
theorem dX1_takes_22 : decode cX1_takes 22 = .ok (.iconst 0, 1) := by decide +kernel
theorem dX1_takes_23 : decode cX1_takes 23 = .ok (.ireturn, 1) := by decide +kernel
theorem dX1_takes_24 : decode cX1_takes 24 = .ok (.aload_n 0, 1) := by decide +kernel
theorem dX1_takes_25 : decode cX1_takes 25 = .ok (.dup, 1) := by decide +kernel
theorem dX1_takes_26 : decode cX1_takes 26 = .ok (.getfield 15, 3) := by decide +kernel
theorem dX1_takes_29 : decode cX1_takes 29 = .ok (.iconst 1, 1) := by decide +kernel
theorem dX1_takes_30 : decode cX1_takes 30 = .ok (.iadd, 1) := by decide +kernel
theorem dX1_takes_31 : decode cX1_takes 31 = .ok (.putfield 15, 3) := by decide +kernel
theorem dX1_takes_34 : decode cX1_takes 34 = .ok (.iconst 1, 1) := by decide +kernel
theorem dX1_takes_35 : decode cX1_takes 35 = .ok (.ireturn, 1) := by decide +kernel
theorem dX2_code_0 : decode cX2_code 0 = .ok (.aload_n 0, 1) := by decide +kernel
theorem dX2_code_1 : decode cX2_code 1 = .ok (.getfield 111, 3) := by decide +kernel
theorem dX2_code_4 : decode cX2_code 4 = .ok (.lreturn, 1) := by decide +kernel
theorem dX2_withCode_0 : decode cX2_withCode 0 = .ok (.getstatic 125, 3) := by decide +kernel
theorem dX2_withCode_3 : decode cX2_withCode 3 = .ok (.astore_n 3, 1) := by decide +kernel
theorem dX2_withCode_4 : decode cX2_withCode 4 = .ok (.aload_n 3, 1) := by decide +kernel
theorem dX2_withCode_5 : decode cX2_withCode 5 = .ok (.arraylength, 1) := by decide +kernel
theorem dX2_withCode_6 : decode cX2_withCode 6 = .ok (.istore 4, 2) := by decide +kernel
theorem dX2_withCode_8 : decode cX2_withCode 8 = .ok (.iconst 0, 1) := by decide +kernel
theorem dX2_withCode_9 : decode cX2_withCode 9 = .ok (.istore 5, 2) := by decide +kernel
theorem dX2_withCode_11 : decode cX2_withCode 11 = .ok (.iload 5, 2) := by decide +kernel
theorem dX2_withCode_13 : decode cX2_withCode 13 = .ok (.iload 4, 2) := by decide +kernel
theorem dX2_withCode_15 : decode cX2_withCode 15 = .ok (.if_icmp .ge 34, 3) := by decide +kernel
theorem dX2_withCode_18 : decode cX2_withCode 18 = .ok (.aload_n 3, 1) := by decide +kernel
theorem dX2_withCode_19 : decode cX2_withCode 19 = .ok (.iload 5, 2) := by decide +kernel
theorem dX2_withCode_21 : decode cX2_withCode 21 = .ok (.aaload, 1) := by decide +kernel
theorem dX2_withCode_22 : decode cX2_withCode 22 = .ok (.astore 6, 2) := by decide +kernel
theorem dX2_withCode_24 : decode cX2_withCode 24 = .ok (.aload 6, 2) := by decide +kernel
theorem dX2_withCode_26 : decode cX2_withCode 26 = .ok (.getfield 111, 3) := by decide +kernel
theorem dX2_withCode_29 : decode cX2_withCode 29 = .ok (.lload_n 0, 1) := by decide +kernel
theorem dX2_withCode_30 : decode cX2_withCode 30 = .ok (.lcmp, 1) := by decide +kernel
theorem dX2_withCode_31 : decode cX2_withCode 31 = .ok (.ifCond .ne 12, 3) := by decide +kernel
theorem dX2_withCode_34 : decode cX2_withCode 34 = .ok (.lload_n 0, 1) := by decide +kernel
theorem dX2_withCode_35 : decode cX2_withCode 35 = .ok (.lconst 0, 1) := by decide +kernel
theorem dX2_withCode_36 : decode cX2_withCode 36 = .ok (.lcmp, 1) := by decide +kernel
theorem dX2_withCode_37 : decode cX2_withCode 37 = .ok (.ifCond .eq 6, 3) := by decide +kernel
theorem dX2_withCode_40 : decode cX2_withCode 40 = .ok (.aload 6, 2) := by decide +kernel
theorem dX2_withCode_42 : decode cX2_withCode 42 = .ok (.areturn, 1) := by decide +kernel
theorem dX2_withCode_43 : decode cX2_withCode 43 = .ok (.iinc 5 1, 3) := by decide +kernel
theorem dX2_withCode_46 : decode cX2_withCode 46 = .ok (.goto (-35), 3) := by decide +kernel
theorem dX2_withCode_49 : decode cX2_withCode 49 = .ok (.aload_n 2, 1) := by decide +kernel
theorem dX2_withCode_50 : decode cX2_withCode 50 = .ok (.areturn, 1) := by decide +kernel
theorem dX3_append_0 : decode cX3_append 0 = .ok (.aload_n 0, 1) := by decide +kernel
theorem dX3_append_1 : decode cX3_append 1 = .ok (.getfield 19, 3) := by decide +kernel
theorem dX3_append_4 : decode cX3_append 4 = .ok (.ifCond .lt 36, 3) := by decide +kernel
theorem dX3_append_7 : decode cX3_append 7 = .ok (.aload_n 0, 1) := by decide +kernel
theorem dX3_append_8 : decode cX3_append 8 = .ok (.getfield 19, 3) := by decide +kernel
theorem dX3_append_11 : decode cX3_append 11 = .ok (.aload_n 0, 1) := by decide +kernel
theorem dX3_append_12 : decode cX3_append 12 = .ok (.getfield 13, 3) := by decide +kernel
theorem dX3_append_15 : decode cX3_append 15 = .ok (.arraylength, 1) := by decide +kernel
theorem dX3_append_16 : decode cX3_append 16 = .ok (.if_icmp .ge 24, 3) := by decide +kernel
theorem dX3_append_19 : decode cX3_append 19 = .ok (.aload_n 0, 1) := by decide +kernel
theorem dX3_append_20 : decode cX3_append 20 = .ok (.getfield 13, 3) := by decide +kernel
theorem dX3_append_23 : decode cX3_append 23 = .ok (.aload_n 0, 1) := by decide +kernel
theorem dX3_append_24 : decode cX3_append 24 = .ok (.getfield 19, 3) := by decide +kernel
theorem dX3_append_27 : decode cX3_append 27 = .ok (.iload_n 1, 1) := by decide +kernel
theorem dX3_append_28 : decode cX3_append 28 = .ok (.i2b, 1) := by decide +kernel
theorem dX3_append_29 : decode cX3_append 29 = .ok (.bastore, 1) := by decide +kernel
theorem dX3_append_30 : decode cX3_append 30 = .ok (.aload_n 0, 1) := by decide +kernel
theorem dX3_append_31 : decode cX3_append 31 = .ok (.dup, 1) := by decide +kernel
theorem dX3_append_32 : decode cX3_append 32 = .ok (.getfield 19, 3) := by decide +kernel
theorem dX3_append_35 : decode cX3_append 35 = .ok (.iconst 1, 1) := by decide +kernel
theorem dX3_append_36 : decode cX3_append 36 = .ok (.iadd, 1) := by decide +kernel
theorem dX3_append_37 : decode cX3_append 37 = .ok (.putfield 19, 3) := by decide +kernel
theorem dX3_append_40 : decode cX3_append 40 = .ok (.return_, 1) := by decide +kernel
theorem dX3_appendFour_0 : decode cX3_appendFour 0 = .ok (.aload_n 0, 1) := by decide +kernel
theorem dX3_appendFour_1 : decode cX3_appendFour 1 = .ok (.iload_n 1, 1) := by decide +kernel
theorem dX3_appendFour_2 : decode cX3_appendFour 2 = .ok (.bipush 24, 2) := by decide +kernel
theorem dX3_appendFour_4 : decode cX3_appendFour 4 = .ok (.ishr, 1) := by decide +kernel
theorem dX3_appendFour_5 : decode cX3_appendFour 5 = .ok (.invokevirtual 23, 3) := by decide +kernel
theorem dX3_appendFour_8 : decode cX3_appendFour 8 = .ok (.aload_n 0, 1) := by decide +kernel
theorem dX3_appendFour_9 : decode cX3_appendFour 9 = .ok (.iload_n 1, 1) := by decide +kernel
theorem dX3_appendFour_10 : decode cX3_appendFour 10 = .ok (.bipush 16, 2) := by decide +kernel
theorem dX3_appendFour_12 : decode cX3_appendFour 12 = .ok (.ishr, 1) := by decide +kernel
theorem dX3_appendFour_13 : decode cX3_appendFour 13 = .ok (.invokevirtual 23, 3) := by decide +kernel
theorem dX3_appendFour_16 : decode cX3_appendFour 16 = .ok (.aload_n 0, 1) := by decide +kernel
theorem dX3_appendFour_17 : decode cX3_appendFour 17 = .ok (.iload_n 1, 1) := by decide +kernel
theorem dX3_appendFour_18 : decode cX3_appendFour 18 = .ok (.bipush 8, 2) := by decide +kernel
theorem dX3_appendFour_20 : decode cX3_appendFour 20 = .ok (.ishr, 1) := by decide +kernel
theorem dX3_appendFour_21 : decode cX3_appendFour 21 = .ok (.invokevirtual 23, 3) := by decide +kernel
theorem dX3_appendFour_24 : decode cX3_appendFour 24 = .ok (.aload_n 0, 1) := by decide +kernel
theorem dX3_appendFour_25 : decode cX3_appendFour 25 = .ok (.iload_n 1, 1) := by decide +kernel
theorem dX3_appendFour_26 : decode cX3_appendFour 26 = .ok (.invokevirtual 23, 3) := by decide +kernel
theorem dX3_appendFour_29 : decode cX3_appendFour 29 = .ok (.return_, 1) := by decide +kernel
theorem dX3_appendWord_0 : decode cX3_appendWord 0 = .ok (.bipush 56, 2) := by decide +kernel
theorem dX3_appendWord_2 : decode cX3_appendWord 2 = .ok (.istore_n 3, 1) := by decide +kernel
theorem dX3_appendWord_3 : decode cX3_appendWord 3 = .ok (.iload_n 3, 1) := by decide +kernel
theorem dX3_appendWord_4 : decode cX3_appendWord 4 = .ok (.ifCond .lt 30, 3) := by decide +kernel
theorem dX3_appendWord_7 : decode cX3_appendWord 7 = .ok (.lload_n 1, 1) := by decide +kernel
theorem dX3_appendWord_8 : decode cX3_appendWord 8 = .ok (.iload_n 3, 1) := by decide +kernel
theorem dX3_appendWord_9 : decode cX3_appendWord 9 = .ok (.lshr, 1) := by decide +kernel
theorem dX3_appendWord_10 : decode cX3_appendWord 10 = .ok (.l2i, 1) := by decide +kernel
theorem dX3_appendWord_11 : decode cX3_appendWord 11 = .ok (.sipush 255, 3) := by decide +kernel
theorem dX3_appendWord_14 : decode cX3_appendWord 14 = .ok (.iand, 1) := by decide +kernel
theorem dX3_appendWord_15 : decode cX3_appendWord 15 = .ok (.istore 4, 2) := by decide +kernel
theorem dX3_appendWord_17 : decode cX3_appendWord 17 = .ok (.iload 4, 2) := by decide +kernel
theorem dX3_appendWord_19 : decode cX3_appendWord 19 = .ok (.ifCond .eq 9, 3) := by decide +kernel
theorem dX3_appendWord_22 : decode cX3_appendWord 22 = .ok (.aload_n 0, 1) := by decide +kernel
theorem dX3_appendWord_23 : decode cX3_appendWord 23 = .ok (.iload 4, 2) := by decide +kernel
theorem dX3_appendWord_25 : decode cX3_appendWord 25 = .ok (.invokevirtual 23, 3) := by decide +kernel
theorem dX3_appendWord_28 : decode cX3_appendWord 28 = .ok (.iinc 3 (-8), 3) := by decide +kernel
theorem dX3_appendWord_31 : decode cX3_appendWord 31 = .ok (.goto (-28), 3) := by decide +kernel
theorem dX3_appendWord_34 : decode cX3_appendWord 34 = .ok (.return_, 1) := by decide +kernel
theorem dX3_at_0 : decode cX3_at 0 = .ok (.iload_n 1, 1) := by decide +kernel
theorem dX3_at_1 : decode cX3_at 1 = .ok (.ifCond .lt 33, 3) := by decide +kernel
theorem dX3_at_4 : decode cX3_at 4 = .ok (.iload_n 1, 1) := by decide +kernel
theorem dX3_at_5 : decode cX3_at 5 = .ok (.aload_n 0, 1) := by decide +kernel
theorem dX3_at_6 : decode cX3_at 6 = .ok (.getfield 19, 3) := by decide +kernel
theorem dX3_at_9 : decode cX3_at 9 = .ok (.if_icmp .ge 25, 3) := by decide +kernel
theorem dX3_at_12 : decode cX3_at 12 = .ok (.iload_n 1, 1) := by decide +kernel
theorem dX3_at_13 : decode cX3_at 13 = .ok (.aload_n 0, 1) := by decide +kernel
theorem dX3_at_14 : decode cX3_at 14 = .ok (.getfield 13, 3) := by decide +kernel
theorem dX3_at_17 : decode cX3_at 17 = .ok (.arraylength, 1) := by decide +kernel
theorem dX3_at_18 : decode cX3_at 18 = .ok (.if_icmp .ge 16, 3) := by decide +kernel
theorem dX3_at_21 : decode cX3_at 21 = .ok (.aload_n 0, 1) := by decide +kernel
theorem dX3_at_22 : decode cX3_at 22 = .ok (.getfield 13, 3) := by decide +kernel
theorem dX3_at_25 : decode cX3_at 25 = .ok (.iload_n 1, 1) := by decide +kernel
theorem dX3_at_26 : decode cX3_at 26 = .ok (.baload, 1) := by decide +kernel
theorem dX3_at_27 : decode cX3_at 27 = .ok (.sipush 255, 3) := by decide +kernel
theorem dX3_at_30 : decode cX3_at 30 = .ok (.iand, 1) := by decide +kernel
theorem dX3_at_31 : decode cX3_at 31 = .ok (.goto 4, 3) := by decide +kernel
theorem dX3_at_34 : decode cX3_at 34 = .ok (.iconst 0, 1) := by decide +kernel
theorem dX3_at_35 : decode cX3_at 35 = .ok (.ireturn, 1) := by decide +kernel
theorem dX3_init_0 : decode cX3_init 0 = .ok (.aload_n 0, 1) := by decide +kernel
theorem dX3_init_1 : decode cX3_init 1 = .ok (.invokespecial 1, 3) := by decide +kernel
theorem dX3_init_4 : decode cX3_init 4 = .ok (.aload_n 0, 1) := by decide +kernel
theorem dX3_init_5 : decode cX3_init 5 = .ok (.iconst 0, 1) := by decide +kernel
theorem dX3_init_6 : decode cX3_init 6 = .ok (.iload_n 1, 1) := by decide +kernel
theorem dX3_init_7 : decode cX3_init 7 = .ok (.invokestatic 7, 3) := by decide +kernel
theorem dX3_init_10 : decode cX3_init 10 = .ok (.newarray .byte, 2) := by decide +kernel
theorem dX3_init_12 : decode cX3_init 12 = .ok (.putfield 13, 3) := by decide +kernel
theorem dX3_init_15 : decode cX3_init 15 = .ok (.return_, 1) := by decide +kernel
theorem dX3_length_0 : decode cX3_length 0 = .ok (.aload_n 0, 1) := by decide +kernel
theorem dX3_length_1 : decode cX3_length 1 = .ok (.getfield 19, 3) := by decide +kernel
theorem dX3_length_4 : decode cX3_length 4 = .ok (.ireturn, 1) := by decide +kernel
theorem dX3_shortenTo_0 : decode cX3_shortenTo 0 = .ok (.iload_n 1, 1) := by decide +kernel
theorem dX3_shortenTo_1 : decode cX3_shortenTo 1 = .ok (.ifCond .lt 16, 3) := by decide +kernel
theorem dX3_shortenTo_4 : decode cX3_shortenTo 4 = .ok (.iload_n 1, 1) := by decide +kernel
theorem dX3_shortenTo_5 : decode cX3_shortenTo 5 = .ok (.aload_n 0, 1) := by decide +kernel
theorem dX3_shortenTo_6 : decode cX3_shortenTo 6 = .ok (.getfield 19, 3) := by decide +kernel
theorem dX3_shortenTo_9 : decode cX3_shortenTo 9 = .ok (.if_icmp .gt 8, 3) := by decide +kernel
theorem dX3_shortenTo_12 : decode cX3_shortenTo 12 = .ok (.aload_n 0, 1) := by decide +kernel
theorem dX3_shortenTo_13 : decode cX3_shortenTo 13 = .ok (.iload_n 1, 1) := by decide +kernel
theorem dX3_shortenTo_14 : decode cX3_shortenTo 14 = .ok (.putfield 19, 3) := by decide +kernel
theorem dX3_shortenTo_17 : decode cX3_shortenTo 17 = .ok (.return_, 1) := by decide +kernel
theorem dX4_findMore_0 : decode cX4_findMore 0 = .ok (.lload_n 2, 1) := by decide +kernel
theorem dX4_findMore_1 : decode cX4_findMore 1 = .ok (.lstore 4, 2) := by decide +kernel
theorem dX4_findMore_3 : decode cX4_findMore 3 = .ok (.lconst 0, 1) := by decide +kernel
theorem dX4_findMore_4 : decode cX4_findMore 4 = .ok (.lstore 6, 2) := by decide +kernel
theorem dX4_findMore_6 : decode cX4_findMore 6 = .ok (.lconst 0, 1) := by decide +kernel
theorem dX4_findMore_7 : decode cX4_findMore 7 = .ok (.lstore 8, 2) := by decide +kernel
theorem dX4_findMore_9 : decode cX4_findMore 9 = .ok (.lconst 0, 1) := by decide +kernel
theorem dX4_findMore_10 : decode cX4_findMore 10 = .ok (.lstore 10, 2) := by decide +kernel
theorem dX4_findMore_12 : decode cX4_findMore 12 = .ok (.iconst 0, 1) := by decide +kernel
theorem dX4_findMore_13 : decode cX4_findMore 13 = .ok (.istore 12, 2) := by decide +kernel
theorem dX4_findMore_15 : decode cX4_findMore 15 = .ok (.iload 12, 2) := by decide +kernel
theorem dX4_findMore_17 : decode cX4_findMore 17 = .ok (.aload_n 0, 1) := by decide +kernel
theorem dX4_findMore_18 : decode cX4_findMore 18 = .ok (.getfield 15, 3) := by decide +kernel
theorem dX4_findMore_21 : decode cX4_findMore 21 = .ok (.invokevirtual 43, 3) := by decide +kernel
theorem dX4_findMore_24 : decode cX4_findMore 24 = .ok (.if_icmp .ge 138, 3) := by decide +kernel
theorem dX4_findMore_27 : decode cX4_findMore 27 = .ok (.aload_n 0, 1) := by decide +kernel
theorem dX4_findMore_28 : decode cX4_findMore 28 = .ok (.getfield 15, 3) := by decide +kernel
theorem dX4_findMore_31 : decode cX4_findMore 31 = .ok (.iload 12, 2) := by decide +kernel
theorem dX4_findMore_33 : decode cX4_findMore 33 = .ok (.invokevirtual 47, 3) := by decide +kernel
theorem dX4_findMore_36 : decode cX4_findMore 36 = .ok (.ifCond .eq 57, 3) := by decide +kernel
theorem dX4_findMore_39 : decode cX4_findMore 39 = .ok (.aload_n 0, 1) := by decide +kernel
theorem dX4_findMore_40 : decode cX4_findMore 40 = .ok (.getfield 15, 3) := by decide +kernel
theorem dX4_findMore_43 : decode cX4_findMore 43 = .ok (.iload 12, 2) := by decide +kernel
theorem dX4_findMore_45 : decode cX4_findMore 45 = .ok (.invokevirtual 51, 3) := by decide +kernel
theorem dX4_findMore_48 : decode cX4_findMore 48 = .ok (.invokestatic 55, 3) := by decide +kernel
theorem dX4_findMore_51 : decode cX4_findMore 51 = .ok (.lstore 13, 2) := by decide +kernel
theorem dX4_findMore_53 : decode cX4_findMore 53 = .ok (.lload 4, 2) := by decide +kernel
theorem dX4_findMore_55 : decode cX4_findMore 55 = .ok (.aload_n 0, 1) := by decide +kernel
theorem dX4_findMore_56 : decode cX4_findMore 56 = .ok (.iload 12, 2) := by decide +kernel
theorem dX4_findMore_58 : decode cX4_findMore 58 = .ok (.invokevirtual 59, 3) := by decide +kernel
theorem dX4_findMore_61 : decode cX4_findMore 61 = .ok (.ifCond .eq 8, 3) := by decide +kernel
theorem dX4_findMore_64 : decode cX4_findMore 64 = .ok (.lload 13, 2) := by decide +kernel
theorem dX4_findMore_66 : decode cX4_findMore 66 = .ok (.goto 4, 3) := by decide +kernel
theorem dX4_findMore_69 : decode cX4_findMore 69 = .ok (.lconst 0, 1) := by decide +kernel
theorem dX4_findMore_70 : decode cX4_findMore 70 = .ok (.lor, 1) := by decide +kernel
theorem dX4_findMore_71 : decode cX4_findMore 71 = .ok (.lstore 4, 2) := by decide +kernel
theorem dX4_findMore_73 : decode cX4_findMore 73 = .ok (.lload 6, 2) := by decide +kernel
theorem dX4_findMore_75 : decode cX4_findMore 75 = .ok (.aload_n 0, 1) := by decide +kernel
theorem dX4_findMore_76 : decode cX4_findMore 76 = .ok (.iload 12, 2) := by decide +kernel
theorem dX4_findMore_78 : decode cX4_findMore 78 = .ok (.invokevirtual 62, 3) := by decide +kernel
theorem dX4_findMore_81 : decode cX4_findMore 81 = .ok (.ifCond .eq 7, 3) := by decide +kernel
theorem dX4_findMore_84 : decode cX4_findMore 84 = .ok (.lconst 0, 1) := by decide +kernel
theorem dX4_findMore_85 : decode cX4_findMore 85 = .ok (.goto 5, 3) := by decide +kernel
theorem dX4_findMore_88 : decode cX4_findMore 88 = .ok (.lload 13, 2) := by decide +kernel
theorem dX4_findMore_90 : decode cX4_findMore 90 = .ok (.lor, 1) := by decide +kernel
theorem dX4_findMore_91 : decode cX4_findMore 91 = .ok (.lstore 6, 2) := by decide +kernel
theorem dX4_findMore_93 : decode cX4_findMore 93 = .ok (.aload_n 0, 1) := by decide +kernel
theorem dX4_findMore_94 : decode cX4_findMore 94 = .ok (.getfield 15, 3) := by decide +kernel
theorem dX4_findMore_97 : decode cX4_findMore 97 = .ok (.iload 12, 2) := by decide +kernel
theorem dX4_findMore_99 : decode cX4_findMore 99 = .ok (.invokevirtual 65, 3) := by decide +kernel
theorem dX4_findMore_102 : decode cX4_findMore 102 = .ok (.istore 13, 2) := by decide +kernel
theorem dX4_findMore_104 : decode cX4_findMore 104 = .ok (.iload 13, 2) := by decide +kernel
theorem dX4_findMore_106 : decode cX4_findMore 106 = .ok (.iconst (-1), 1) := by decide +kernel
theorem dX4_findMore_107 : decode cX4_findMore 107 = .ok (.if_icmp .eq 49, 3) := by decide +kernel
theorem dX4_findMore_110 : decode cX4_findMore 110 = .ok (.lload 8, 2) := by decide +kernel
theorem dX4_findMore_112 : decode cX4_findMore 112 = .ok (.aload_n 0, 1) := by decide +kernel
theorem dX4_findMore_113 : decode cX4_findMore 113 = .ok (.iload 13, 2) := by decide +kernel
theorem dX4_findMore_115 : decode cX4_findMore 115 = .ok (.invokevirtual 62, 3) := by decide +kernel
theorem dX4_findMore_118 : decode cX4_findMore 118 = .ok (.ifCond .eq 11, 3) := by decide +kernel
theorem dX4_findMore_121 : decode cX4_findMore 121 = .ok (.iload 12, 2) := by decide +kernel
theorem dX4_findMore_123 : decode cX4_findMore 123 = .ok (.invokestatic 55, 3) := by decide +kernel
theorem dX4_findMore_126 : decode cX4_findMore 126 = .ok (.goto 4, 3) := by decide +kernel
theorem dX4_findMore_129 : decode cX4_findMore 129 = .ok (.lconst 0, 1) := by decide +kernel
theorem dX4_findMore_130 : decode cX4_findMore 130 = .ok (.lor, 1) := by decide +kernel
theorem dX4_findMore_131 : decode cX4_findMore 131 = .ok (.lstore 8, 2) := by decide +kernel
theorem dX4_findMore_133 : decode cX4_findMore 133 = .ok (.lload 10, 2) := by decide +kernel
theorem dX4_findMore_135 : decode cX4_findMore 135 = .ok (.aload_n 0, 1) := by decide +kernel
theorem dX4_findMore_136 : decode cX4_findMore 136 = .ok (.iload 13, 2) := by decide +kernel
theorem dX4_findMore_138 : decode cX4_findMore 138 = .ok (.invokevirtual 59, 3) := by decide +kernel
theorem dX4_findMore_141 : decode cX4_findMore 141 = .ok (.ifCond .eq 7, 3) := by decide +kernel
theorem dX4_findMore_144 : decode cX4_findMore 144 = .ok (.lconst 0, 1) := by decide +kernel
theorem dX4_findMore_145 : decode cX4_findMore 145 = .ok (.goto 8, 3) := by decide +kernel
theorem dX4_findMore_148 : decode cX4_findMore 148 = .ok (.iload 12, 2) := by decide +kernel
theorem dX4_findMore_150 : decode cX4_findMore 150 = .ok (.invokestatic 55, 3) := by decide +kernel
theorem dX4_findMore_153 : decode cX4_findMore 153 = .ok (.lor, 1) := by decide +kernel
theorem dX4_findMore_154 : decode cX4_findMore 154 = .ok (.lstore 10, 2) := by decide +kernel
theorem dX4_findMore_156 : decode cX4_findMore 156 = .ok (.iinc 12 1, 3) := by decide +kernel
theorem dX4_findMore_159 : decode cX4_findMore 159 = .ok (.goto (-144), 3) := by decide +kernel
theorem dX4_findMore_162 : decode cX4_findMore 162 = .ok (.aload_n 0, 1) := by decide +kernel
theorem dX4_findMore_163 : decode cX4_findMore 163 = .ok (.invokevirtual 68, 3) := by decide +kernel
theorem dX4_findMore_166 : decode cX4_findMore 166 = .ok (.lstore 12, 2) := by decide +kernel
theorem dX4_findMore_168 : decode cX4_findMore 168 = .ok (.lload 12, 2) := by decide +kernel
theorem dX4_findMore_170 : decode cX4_findMore 170 = .ok (.aload_n 0, 1) := by decide +kernel
theorem dX4_findMore_171 : decode cX4_findMore 171 = .ok (.getfield 25, 3) := by decide +kernel
theorem dX4_findMore_174 : decode cX4_findMore 174 = .ok (.lload 4, 2) := by decide +kernel
theorem dX4_findMore_176 : decode cX4_findMore 176 = .ok (.lor, 1) := by decide +kernel
theorem dX4_findMore_177 : decode cX4_findMore 177 = .ok (.lload 8, 2) := by decide +kernel
theorem dX4_findMore_179 : decode cX4_findMore 179 = .ok (.lor, 1) := by decide +kernel
theorem dX4_findMore_180 : decode cX4_findMore 180 = .ok (.land, 1) := by decide +kernel
theorem dX4_findMore_181 : decode cX4_findMore 181 = .ok (.lstore 14, 2) := by decide +kernel
theorem dX4_findMore_183 : decode cX4_findMore 183 = .ok (.lload 12, 2) := by decide +kernel
theorem dX4_findMore_185 : decode cX4_findMore 185 = .ok (.lload 14, 2) := by decide +kernel
theorem dX4_findMore_187 : decode cX4_findMore 187 = .ok (.lload 6, 2) := by decide +kernel
theorem dX4_findMore_189 : decode cX4_findMore 189 = .ok (.lor, 1) := by decide +kernel
theorem dX4_findMore_190 : decode cX4_findMore 190 = .ok (.lload 10, 2) := by decide +kernel
theorem dX4_findMore_192 : decode cX4_findMore 192 = .ok (.lor, 1) := by decide +kernel
theorem dX4_findMore_193 : decode cX4_findMore 193 = .ok (.ldc2_w 71, 3) := by decide +kernel
theorem dX4_findMore_196 : decode cX4_findMore 196 = .ok (.lxor, 1) := by decide +kernel
theorem dX4_findMore_197 : decode cX4_findMore 197 = .ok (.land, 1) := by decide +kernel
theorem dX4_findMore_198 : decode cX4_findMore 198 = .ok (.lstore 16, 2) := by decide +kernel
theorem dX4_findMore_200 : decode cX4_findMore 200 = .ok (.aload_n 0, 1) := by decide +kernel
theorem dX4_findMore_201 : decode cX4_findMore 201 = .ok (.dup, 1) := by decide +kernel
theorem dX4_findMore_202 : decode cX4_findMore 202 = .ok (.getfield 32, 3) := by decide +kernel
theorem dX4_findMore_205 : decode cX4_findMore 205 = .ok (.lload 14, 2) := by decide +kernel
theorem dX4_findMore_207 : decode cX4_findMore 207 = .ok (.lor, 1) := by decide +kernel
theorem dX4_findMore_208 : decode cX4_findMore 208 = .ok (.putfield 32, 3) := by decide +kernel
theorem dX4_findMore_211 : decode cX4_findMore 211 = .ok (.aload_n 0, 1) := by decide +kernel
theorem dX4_findMore_212 : decode cX4_findMore 212 = .ok (.dup, 1) := by decide +kernel
theorem dX4_findMore_213 : decode cX4_findMore 213 = .ok (.getfield 29, 3) := by decide +kernel
theorem dX4_findMore_216 : decode cX4_findMore 216 = .ok (.lload 16, 2) := by decide +kernel
theorem dX4_findMore_218 : decode cX4_findMore 218 = .ok (.lor, 1) := by decide +kernel
theorem dX4_findMore_219 : decode cX4_findMore 219 = .ok (.putfield 29, 3) := by decide +kernel
theorem dX4_findMore_222 : decode cX4_findMore 222 = .ok (.aload_n 0, 1) := by decide +kernel
theorem dX4_findMore_223 : decode cX4_findMore 223 = .ok (.lload 14, 2) := by decide +kernel
theorem dX4_findMore_225 : decode cX4_findMore 225 = .ok (.lload 16, 2) := by decide +kernel
theorem dX4_findMore_227 : decode cX4_findMore 227 = .ok (.lor, 1) := by decide +kernel
theorem dX4_findMore_228 : decode cX4_findMore 228 = .ok (.iload_n 1, 1) := by decide +kernel
theorem dX4_findMore_229 : decode cX4_findMore 229 = .ok (.invokevirtual 73, 3) := by decide +kernel
theorem dX4_findMore_232 : decode cX4_findMore 232 = .ok (.lload 14, 2) := by decide +kernel
theorem dX4_findMore_234 : decode cX4_findMore 234 = .ok (.lload 16, 2) := by decide +kernel
theorem dX4_findMore_236 : decode cX4_findMore 236 = .ok (.lor, 1) := by decide +kernel
theorem dX4_findMore_237 : decode cX4_findMore 237 = .ok (.lconst 0, 1) := by decide +kernel
theorem dX4_findMore_238 : decode cX4_findMore 238 = .ok (.lcmp, 1) := by decide +kernel
theorem dX4_findMore_239 : decode cX4_findMore 239 = .ok (.ifCond .eq 7, 3) := by decide +kernel
theorem dX4_findMore_242 : decode cX4_findMore 242 = .ok (.iconst 1, 1) := by decide +kernel
theorem dX4_findMore_243 : decode cX4_findMore 243 = .ok (.goto 4, 3) := by decide +kernel
theorem dX4_findMore_246 : decode cX4_findMore 246 = .ok (.iconst 0, 1) := by decide +kernel
theorem dX4_findMore_247 : decode cX4_findMore 247 = .ok (.ireturn, 1) := by decide +kernel
theorem dX4_helpOf_0 : decode cX4_helpOf 0 = .ok (.aload_n 0, 1) := by decide +kernel
theorem dX4_helpOf_1 : decode cX4_helpOf 1 = .ok (.getfield 15, 3) := by decide +kernel
theorem dX4_helpOf_4 : decode cX4_helpOf 4 = .ok (.iload_n 1, 1) := by decide +kernel
theorem dX4_helpOf_5 : decode cX4_helpOf 5 = .ok (.invokevirtual 51, 3) := by decide +kernel
theorem dX4_helpOf_8 : decode cX4_helpOf 8 = .ok (.istore_n 2, 1) := by decide +kernel
theorem dX4_helpOf_9 : decode cX4_helpOf 9 = .ok (.aload_n 0, 1) := by decide +kernel
theorem dX4_helpOf_10 : decode cX4_helpOf 10 = .ok (.getfield 15, 3) := by decide +kernel
theorem dX4_helpOf_13 : decode cX4_helpOf 13 = .ok (.iload_n 1, 1) := by decide +kernel
theorem dX4_helpOf_14 : decode cX4_helpOf 14 = .ok (.invokevirtual 110, 3) := by decide +kernel
theorem dX4_helpOf_17 : decode cX4_helpOf 17 = .ok (.iconst 2, 1) := by decide +kernel
theorem dX4_helpOf_18 : decode cX4_helpOf 18 = .ok (.if_icmp .ne 34, 3) := by decide +kernel
theorem dX4_helpOf_21 : decode cX4_helpOf 21 = .ok (.aload_n 0, 1) := by decide +kernel
theorem dX4_helpOf_22 : decode cX4_helpOf 22 = .ok (.iload_n 1, 1) := by decide +kernel
theorem dX4_helpOf_23 : decode cX4_helpOf 23 = .ok (.invokevirtual 59, 3) := by decide +kernel
theorem dX4_helpOf_26 : decode cX4_helpOf 26 = .ok (.ifCond .eq 26, 3) := by decide +kernel
theorem dX4_helpOf_29 : decode cX4_helpOf 29 = .ok (.aload_n 0, 1) := by decide +kernel
theorem dX4_helpOf_30 : decode cX4_helpOf 30 = .ok (.getfield 15, 3) := by decide +kernel
theorem dX4_helpOf_33 : decode cX4_helpOf 33 = .ok (.iload_n 2, 1) := by decide +kernel
theorem dX4_helpOf_34 : decode cX4_helpOf 34 = .ok (.invokevirtual 110, 3) := by decide +kernel
theorem dX4_helpOf_37 : decode cX4_helpOf 37 = .ok (.ifCond .ne 15, 3) := by decide +kernel
theorem dX4_helpOf_40 : decode cX4_helpOf 40 = .ok (.aload_n 0, 1) := by decide +kernel
theorem dX4_helpOf_41 : decode cX4_helpOf 41 = .ok (.iload_n 2, 1) := by decide +kernel
theorem dX4_helpOf_42 : decode cX4_helpOf 42 = .ok (.invokevirtual 59, 3) := by decide +kernel
theorem dX4_helpOf_45 : decode cX4_helpOf 45 = .ok (.ifCond .eq 7, 3) := by decide +kernel
theorem dX4_helpOf_48 : decode cX4_helpOf 48 = .ok (.iconst 1, 1) := by decide +kernel
theorem dX4_helpOf_49 : decode cX4_helpOf 49 = .ok (.goto 4, 3) := by decide +kernel
theorem dX4_helpOf_52 : decode cX4_helpOf 52 = .ok (.iconst 0, 1) := by decide +kernel
theorem dX4_helpOf_53 : decode cX4_helpOf 53 = .ok (.istore_n 3, 1) := by decide +kernel
theorem dX4_helpOf_54 : decode cX4_helpOf 54 = .ok (.iload_n 3, 1) := by decide +kernel
theorem dX4_helpOf_55 : decode cX4_helpOf 55 = .ok (.ifCond .eq 14, 3) := by decide +kernel
theorem dX4_helpOf_58 : decode cX4_helpOf 58 = .ok (.aload_n 0, 1) := by decide +kernel
theorem dX4_helpOf_59 : decode cX4_helpOf 59 = .ok (.getfield 15, 3) := by decide +kernel
theorem dX4_helpOf_62 : decode cX4_helpOf 62 = .ok (.iload_n 1, 1) := by decide +kernel
theorem dX4_helpOf_63 : decode cX4_helpOf 63 = .ok (.invokevirtual 113, 3) := by decide +kernel
theorem dX4_helpOf_66 : decode cX4_helpOf 66 = .ok (.goto 4, 3) := by decide +kernel
theorem dX4_helpOf_69 : decode cX4_helpOf 69 = .ok (.iconst 0, 1) := by decide +kernel
theorem dX4_helpOf_70 : decode cX4_helpOf 70 = .ok (.ireturn, 1) := by decide +kernel
theorem dX4_init_0 : decode cX4_init 0 = .ok (.aload_n 0, 1) := by decide +kernel
theorem dX4_init_1 : decode cX4_init 1 = .ok (.invokespecial 3, 3) := by decide +kernel
theorem dX4_init_4 : decode cX4_init 4 = .ok (.aload_n 0, 1) := by decide +kernel
theorem dX4_init_5 : decode cX4_init 5 = .ok (.bipush 40, 2) := by decide +kernel
theorem dX4_init_7 : decode cX4_init 7 = .ok (.newarray .int, 2) := by decide +kernel
theorem dX4_init_9 : decode cX4_init 9 = .ok (.putfield 9, 3) := by decide +kernel
theorem dX4_init_12 : decode cX4_init 12 = .ok (.aload_n 0, 1) := by decide +kernel
theorem dX4_init_13 : decode cX4_init 13 = .ok (.aload_n 1, 1) := by decide +kernel
theorem dX4_init_14 : decode cX4_init 14 = .ok (.putfield 15, 3) := by decide +kernel
theorem dX4_init_17 : decode cX4_init 17 = .ok (.return_, 1) := by decide +kernel
theorem dX4_isIn_0 : decode cX4_isIn 0 = .ok (.aload_n 0, 1) := by decide +kernel
theorem dX4_isIn_1 : decode cX4_isIn 1 = .ok (.getfield 29, 3) := by decide +kernel
theorem dX4_isIn_4 : decode cX4_isIn 4 = .ok (.iload_n 1, 1) := by decide +kernel
theorem dX4_isIn_5 : decode cX4_isIn 5 = .ok (.lshr, 1) := by decide +kernel
theorem dX4_isIn_6 : decode cX4_isIn 6 = .ok (.lconst 1, 1) := by decide +kernel
theorem dX4_isIn_7 : decode cX4_isIn 7 = .ok (.land, 1) := by decide +kernel
theorem dX4_isIn_8 : decode cX4_isIn 8 = .ok (.lconst 0, 1) := by decide +kernel
theorem dX4_isIn_9 : decode cX4_isIn 9 = .ok (.lcmp, 1) := by decide +kernel
theorem dX4_isIn_10 : decode cX4_isIn 10 = .ok (.ifCond .eq 7, 3) := by decide +kernel
theorem dX4_isIn_13 : decode cX4_isIn 13 = .ok (.iconst 1, 1) := by decide +kernel
theorem dX4_isIn_14 : decode cX4_isIn 14 = .ok (.goto 4, 3) := by decide +kernel
theorem dX4_isIn_17 : decode cX4_isIn 17 = .ok (.iconst 0, 1) := by decide +kernel
theorem dX4_isIn_18 : decode cX4_isIn 18 = .ok (.ireturn, 1) := by decide +kernel
theorem dX4_isOut_0 : decode cX4_isOut 0 = .ok (.aload_n 0, 1) := by decide +kernel
theorem dX4_isOut_1 : decode cX4_isOut 1 = .ok (.getfield 32, 3) := by decide +kernel
theorem dX4_isOut_4 : decode cX4_isOut 4 = .ok (.iload_n 1, 1) := by decide +kernel
theorem dX4_isOut_5 : decode cX4_isOut 5 = .ok (.lshr, 1) := by decide +kernel
theorem dX4_isOut_6 : decode cX4_isOut 6 = .ok (.lconst 1, 1) := by decide +kernel
theorem dX4_isOut_7 : decode cX4_isOut 7 = .ok (.land, 1) := by decide +kernel
theorem dX4_isOut_8 : decode cX4_isOut 8 = .ok (.lconst 0, 1) := by decide +kernel
theorem dX4_isOut_9 : decode cX4_isOut 9 = .ok (.lcmp, 1) := by decide +kernel
theorem dX4_isOut_10 : decode cX4_isOut 10 = .ok (.ifCond .eq 7, 3) := by decide +kernel
theorem dX4_isOut_13 : decode cX4_isOut 13 = .ok (.iconst 1, 1) := by decide +kernel
theorem dX4_isOut_14 : decode cX4_isOut 14 = .ok (.goto 4, 3) := by decide +kernel
theorem dX4_isOut_17 : decode cX4_isOut 17 = .ok (.iconst 0, 1) := by decide +kernel
theorem dX4_isOut_18 : decode cX4_isOut 18 = .ok (.ireturn, 1) := by decide +kernel
theorem dX4_itemsIn_0 : decode cX4_itemsIn 0 = .ok (.aload_n 0, 1) := by decide +kernel
theorem dX4_itemsIn_1 : decode cX4_itemsIn 1 = .ok (.getfield 29, 3) := by decide +kernel
theorem dX4_itemsIn_4 : decode cX4_itemsIn 4 = .ok (.lreturn, 1) := by decide +kernel
theorem dX4_itemsOpen_0 : decode cX4_itemsOpen 0 = .ok (.aload_n 0, 1) := by decide +kernel
theorem dX4_itemsOpen_1 : decode cX4_itemsOpen 1 = .ok (.getfield 15, 3) := by decide +kernel
theorem dX4_itemsOpen_4 : decode cX4_itemsOpen 4 = .ok (.invokevirtual 77, 3) := by decide +kernel
theorem dX4_itemsOpen_7 : decode cX4_itemsOpen 7 = .ok (.aload_n 0, 1) := by decide +kernel
theorem dX4_itemsOpen_8 : decode cX4_itemsOpen 8 = .ok (.getfield 29, 3) := by decide +kernel
theorem dX4_itemsOpen_11 : decode cX4_itemsOpen 11 = .ok (.aload_n 0, 1) := by decide +kernel
theorem dX4_itemsOpen_12 : decode cX4_itemsOpen 12 = .ok (.getfield 32, 3) := by decide +kernel
theorem dX4_itemsOpen_15 : decode cX4_itemsOpen 15 = .ok (.lor, 1) := by decide +kernel
theorem dX4_itemsOpen_16 : decode cX4_itemsOpen 16 = .ok (.ldc2_w 71, 3) := by decide +kernel
theorem dX4_itemsOpen_19 : decode cX4_itemsOpen 19 = .ok (.lxor, 1) := by decide +kernel
theorem dX4_itemsOpen_20 : decode cX4_itemsOpen 20 = .ok (.land, 1) := by decide +kernel
theorem dX4_itemsOpen_21 : decode cX4_itemsOpen 21 = .ok (.lreturn, 1) := by decide +kernel
theorem dX4_itemsOut_0 : decode cX4_itemsOut 0 = .ok (.aload_n 0, 1) := by decide +kernel
theorem dX4_itemsOut_1 : decode cX4_itemsOut 1 = .ok (.getfield 32, 3) := by decide +kernel
theorem dX4_itemsOut_4 : decode cX4_itemsOut 4 = .ok (.lreturn, 1) := by decide +kernel
theorem dX4_leadOf_0 : decode cX4_leadOf 0 = .ok (.aload_n 0, 1) := by decide +kernel
theorem dX4_leadOf_1 : decode cX4_leadOf 1 = .ok (.iload_n 1, 1) := by decide +kernel
theorem dX4_leadOf_2 : decode cX4_leadOf 2 = .ok (.invokevirtual 92, 3) := by decide +kernel
theorem dX4_leadOf_5 : decode cX4_leadOf 5 = .ok (.istore_n 2, 1) := by decide +kernel
theorem dX4_leadOf_6 : decode cX4_leadOf 6 = .ok (.iconst 1, 1) := by decide +kernel
theorem dX4_leadOf_7 : decode cX4_leadOf 7 = .ok (.istore_n 3, 1) := by decide +kernel
theorem dX4_leadOf_8 : decode cX4_leadOf 8 = .ok (.iconst 0, 1) := by decide +kernel
theorem dX4_leadOf_9 : decode cX4_leadOf 9 = .ok (.istore 4, 2) := by decide +kernel
theorem dX4_leadOf_11 : decode cX4_leadOf 11 = .ok (.iconst 0, 1) := by decide +kernel
theorem dX4_leadOf_12 : decode cX4_leadOf 12 = .ok (.istore 5, 2) := by decide +kernel
theorem dX4_leadOf_14 : decode cX4_leadOf 14 = .ok (.iload 5, 2) := by decide +kernel
theorem dX4_leadOf_16 : decode cX4_leadOf 16 = .ok (.aload_n 0, 1) := by decide +kernel
theorem dX4_leadOf_17 : decode cX4_leadOf 17 = .ok (.getfield 15, 3) := by decide +kernel
theorem dX4_leadOf_20 : decode cX4_leadOf 20 = .ok (.invokevirtual 95, 3) := by decide +kernel
theorem dX4_leadOf_23 : decode cX4_leadOf 23 = .ok (.if_icmp .ge 45, 3) := by decide +kernel
theorem dX4_leadOf_26 : decode cX4_leadOf 26 = .ok (.iload 5, 2) := by decide +kernel
theorem dX4_leadOf_28 : decode cX4_leadOf 28 = .ok (.iload_n 1, 1) := by decide +kernel
theorem dX4_leadOf_29 : decode cX4_leadOf 29 = .ok (.if_icmp .eq 33, 3) := by decide +kernel
theorem dX4_leadOf_32 : decode cX4_leadOf 32 = .ok (.aload_n 0, 1) := by decide +kernel
theorem dX4_leadOf_33 : decode cX4_leadOf 33 = .ok (.iload 5, 2) := by decide +kernel
theorem dX4_leadOf_35 : decode cX4_leadOf 35 = .ok (.invokevirtual 92, 3) := by decide +kernel
theorem dX4_leadOf_38 : decode cX4_leadOf 38 = .ok (.istore 6, 2) := by decide +kernel
theorem dX4_leadOf_40 : decode cX4_leadOf 40 = .ok (.iload_n 3, 1) := by decide +kernel
theorem dX4_leadOf_41 : decode cX4_leadOf 41 = .ok (.ifCond .ne 10, 3) := by decide +kernel
theorem dX4_leadOf_44 : decode cX4_leadOf 44 = .ok (.iload 6, 2) := by decide +kernel
theorem dX4_leadOf_46 : decode cX4_leadOf 46 = .ok (.iload 4, 2) := by decide +kernel
theorem dX4_leadOf_48 : decode cX4_leadOf 48 = .ok (.if_icmp .le 8, 3) := by decide +kernel
theorem dX4_leadOf_51 : decode cX4_leadOf 51 = .ok (.iload 6, 2) := by decide +kernel
theorem dX4_leadOf_53 : decode cX4_leadOf 53 = .ok (.goto 5, 3) := by decide +kernel
theorem dX4_leadOf_56 : decode cX4_leadOf 56 = .ok (.iload 4, 2) := by decide +kernel
theorem dX4_leadOf_58 : decode cX4_leadOf 58 = .ok (.istore 4, 2) := by decide +kernel
theorem dX4_leadOf_60 : decode cX4_leadOf 60 = .ok (.iconst 0, 1) := by decide +kernel
theorem dX4_leadOf_61 : decode cX4_leadOf 61 = .ok (.istore_n 3, 1) := by decide +kernel
theorem dX4_leadOf_62 : decode cX4_leadOf 62 = .ok (.iinc 5 1, 3) := by decide +kernel
theorem dX4_leadOf_65 : decode cX4_leadOf 65 = .ok (.goto (-51), 3) := by decide +kernel
theorem dX4_leadOf_68 : decode cX4_leadOf 68 = .ok (.iload_n 2, 1) := by decide +kernel
theorem dX4_leadOf_69 : decode cX4_leadOf 69 = .ok (.iload 4, 2) := by decide +kernel
theorem dX4_leadOf_71 : decode cX4_leadOf 71 = .ok (.isub, 1) := by decide +kernel
theorem dX4_leadOf_72 : decode cX4_leadOf 72 = .ok (.ireturn, 1) := by decide +kernel
theorem dX4_noteRound_0 : decode cX4_noteRound 0 = .ok (.iconst 0, 1) := by decide +kernel
theorem dX4_noteRound_1 : decode cX4_noteRound 1 = .ok (.istore 4, 2) := by decide +kernel
theorem dX4_noteRound_3 : decode cX4_noteRound 3 = .ok (.iload 4, 2) := by decide +kernel
theorem dX4_noteRound_5 : decode cX4_noteRound 5 = .ok (.bipush 40, 2) := by decide +kernel
theorem dX4_noteRound_7 : decode cX4_noteRound 7 = .ok (.if_icmp .ge 29, 3) := by decide +kernel
theorem dX4_noteRound_10 : decode cX4_noteRound 10 = .ok (.lload_n 1, 1) := by decide +kernel
theorem dX4_noteRound_11 : decode cX4_noteRound 11 = .ok (.iload 4, 2) := by decide +kernel
theorem dX4_noteRound_13 : decode cX4_noteRound 13 = .ok (.invokestatic 55, 3) := by decide +kernel
theorem dX4_noteRound_16 : decode cX4_noteRound 16 = .ok (.land, 1) := by decide +kernel
theorem dX4_noteRound_17 : decode cX4_noteRound 17 = .ok (.lconst 0, 1) := by decide +kernel
theorem dX4_noteRound_18 : decode cX4_noteRound 18 = .ok (.lcmp, 1) := by decide +kernel
theorem dX4_noteRound_19 : decode cX4_noteRound 19 = .ok (.ifCond .eq 11, 3) := by decide +kernel
theorem dX4_noteRound_22 : decode cX4_noteRound 22 = .ok (.aload_n 0, 1) := by decide +kernel
theorem dX4_noteRound_23 : decode cX4_noteRound 23 = .ok (.getfield 9, 3) := by decide +kernel
theorem dX4_noteRound_26 : decode cX4_noteRound 26 = .ok (.iload 4, 2) := by decide +kernel
theorem dX4_noteRound_28 : decode cX4_noteRound 28 = .ok (.iload_n 3, 1) := by decide +kernel
theorem dX4_noteRound_29 : decode cX4_noteRound 29 = .ok (.iastore, 1) := by decide +kernel
theorem dX4_noteRound_30 : decode cX4_noteRound 30 = .ok (.iinc 4 1, 3) := by decide +kernel
theorem dX4_noteRound_33 : decode cX4_noteRound 33 = .ok (.goto (-30), 3) := by decide +kernel
theorem dX4_noteRound_36 : decode cX4_noteRound 36 = .ok (.return_, 1) := by decide +kernel
theorem dX4_roundOf_0 : decode cX4_roundOf 0 = .ok (.iload_n 1, 1) := by decide +kernel
theorem dX4_roundOf_1 : decode cX4_roundOf 1 = .ok (.ifCond .lt 18, 3) := by decide +kernel
theorem dX4_roundOf_4 : decode cX4_roundOf 4 = .ok (.iload_n 1, 1) := by decide +kernel
theorem dX4_roundOf_5 : decode cX4_roundOf 5 = .ok (.bipush 40, 2) := by decide +kernel
theorem dX4_roundOf_7 : decode cX4_roundOf 7 = .ok (.if_icmp .ge 12, 3) := by decide +kernel
theorem dX4_roundOf_10 : decode cX4_roundOf 10 = .ok (.aload_n 0, 1) := by decide +kernel
theorem dX4_roundOf_11 : decode cX4_roundOf 11 = .ok (.getfield 9, 3) := by decide +kernel
theorem dX4_roundOf_14 : decode cX4_roundOf 14 = .ok (.iload_n 1, 1) := by decide +kernel
theorem dX4_roundOf_15 : decode cX4_roundOf 15 = .ok (.iaload, 1) := by decide +kernel
theorem dX4_roundOf_16 : decode cX4_roundOf 16 = .ok (.goto 4, 3) := by decide +kernel
theorem dX4_roundOf_19 : decode cX4_roundOf 19 = .ok (.iconst 0, 1) := by decide +kernel
theorem dX4_roundOf_20 : decode cX4_roundOf 20 = .ok (.ireturn, 1) := by decide +kernel
theorem dX4_rounds_0 : decode cX4_rounds 0 = .ok (.aload_n 0, 1) := by decide +kernel
theorem dX4_rounds_1 : decode cX4_rounds 1 = .ok (.getfield 35, 3) := by decide +kernel
theorem dX4_rounds_4 : decode cX4_rounds 4 = .ok (.ireturn, 1) := by decide +kernel
theorem dX4_scoreOf_0 : decode cX4_scoreOf 0 = .ok (.aload_n 0, 1) := by decide +kernel
theorem dX4_scoreOf_1 : decode cX4_scoreOf 1 = .ok (.getfield 15, 3) := by decide +kernel
theorem dX4_scoreOf_4 : decode cX4_scoreOf 4 = .ok (.iload_n 1, 1) := by decide +kernel
theorem dX4_scoreOf_5 : decode cX4_scoreOf 5 = .ok (.invokevirtual 98, 3) := by decide +kernel
theorem dX4_scoreOf_8 : decode cX4_scoreOf 8 = .ok (.bipush 60, 2) := by decide +kernel
theorem dX4_scoreOf_10 : decode cX4_scoreOf 10 = .ok (.idiv, 1) := by decide +kernel
theorem dX4_scoreOf_11 : decode cX4_scoreOf 11 = .ok (.istore_n 2, 1) := by decide +kernel
theorem dX4_scoreOf_12 : decode cX4_scoreOf 12 = .ok (.iconst 0, 1) := by decide +kernel
theorem dX4_scoreOf_13 : decode cX4_scoreOf 13 = .ok (.istore_n 3, 1) := by decide +kernel
theorem dX4_scoreOf_14 : decode cX4_scoreOf 14 = .ok (.iload_n 3, 1) := by decide +kernel
theorem dX4_scoreOf_15 : decode cX4_scoreOf 15 = .ok (.aload_n 0, 1) := by decide +kernel
theorem dX4_scoreOf_16 : decode cX4_scoreOf 16 = .ok (.getfield 15, 3) := by decide +kernel
theorem dX4_scoreOf_19 : decode cX4_scoreOf 19 = .ok (.invokevirtual 43, 3) := by decide +kernel
theorem dX4_scoreOf_22 : decode cX4_scoreOf 22 = .ok (.if_icmp .ge 56, 3) := by decide +kernel
theorem dX4_scoreOf_25 : decode cX4_scoreOf 25 = .ok (.aload_n 0, 1) := by decide +kernel
theorem dX4_scoreOf_26 : decode cX4_scoreOf 26 = .ok (.getfield 15, 3) := by decide +kernel
theorem dX4_scoreOf_29 : decode cX4_scoreOf 29 = .ok (.iload_n 3, 1) := by decide +kernel
theorem dX4_scoreOf_30 : decode cX4_scoreOf 30 = .ok (.invokevirtual 101, 3) := by decide +kernel
theorem dX4_scoreOf_33 : decode cX4_scoreOf 33 = .ok (.iload_n 1, 1) := by decide +kernel
theorem dX4_scoreOf_34 : decode cX4_scoreOf 34 = .ok (.if_icmp .ne 11, 3) := by decide +kernel
theorem dX4_scoreOf_37 : decode cX4_scoreOf 37 = .ok (.iload_n 2, 1) := by decide +kernel
theorem dX4_scoreOf_38 : decode cX4_scoreOf 38 = .ok (.aload_n 0, 1) := by decide +kernel
theorem dX4_scoreOf_39 : decode cX4_scoreOf 39 = .ok (.iload_n 3, 1) := by decide +kernel
theorem dX4_scoreOf_40 : decode cX4_scoreOf 40 = .ok (.invokevirtual 104, 3) := by decide +kernel
theorem dX4_scoreOf_43 : decode cX4_scoreOf 43 = .ok (.iadd, 1) := by decide +kernel
theorem dX4_scoreOf_44 : decode cX4_scoreOf 44 = .ok (.istore_n 2, 1) := by decide +kernel
theorem dX4_scoreOf_45 : decode cX4_scoreOf 45 = .ok (.aload_n 0, 1) := by decide +kernel
theorem dX4_scoreOf_46 : decode cX4_scoreOf 46 = .ok (.getfield 15, 3) := by decide +kernel
theorem dX4_scoreOf_49 : decode cX4_scoreOf 49 = .ok (.aload_n 0, 1) := by decide +kernel
theorem dX4_scoreOf_50 : decode cX4_scoreOf 50 = .ok (.getfield 15, 3) := by decide +kernel
theorem dX4_scoreOf_53 : decode cX4_scoreOf 53 = .ok (.iload_n 3, 1) := by decide +kernel
theorem dX4_scoreOf_54 : decode cX4_scoreOf 54 = .ok (.invokevirtual 51, 3) := by decide +kernel
theorem dX4_scoreOf_57 : decode cX4_scoreOf 57 = .ok (.invokevirtual 101, 3) := by decide +kernel
theorem dX4_scoreOf_60 : decode cX4_scoreOf 60 = .ok (.iload_n 1, 1) := by decide +kernel
theorem dX4_scoreOf_61 : decode cX4_scoreOf 61 = .ok (.if_icmp .ne 11, 3) := by decide +kernel
theorem dX4_scoreOf_64 : decode cX4_scoreOf 64 = .ok (.iload_n 2, 1) := by decide +kernel
theorem dX4_scoreOf_65 : decode cX4_scoreOf 65 = .ok (.aload_n 0, 1) := by decide +kernel
theorem dX4_scoreOf_66 : decode cX4_scoreOf 66 = .ok (.iload_n 3, 1) := by decide +kernel
theorem dX4_scoreOf_67 : decode cX4_scoreOf 67 = .ok (.invokevirtual 107, 3) := by decide +kernel
theorem dX4_scoreOf_70 : decode cX4_scoreOf 70 = .ok (.iadd, 1) := by decide +kernel
theorem dX4_scoreOf_71 : decode cX4_scoreOf 71 = .ok (.istore_n 2, 1) := by decide +kernel
theorem dX4_scoreOf_72 : decode cX4_scoreOf 72 = .ok (.iinc 3 1, 3) := by decide +kernel
theorem dX4_scoreOf_75 : decode cX4_scoreOf 75 = .ok (.goto (-61), 3) := by decide +kernel
theorem dX4_scoreOf_78 : decode cX4_scoreOf 78 = .ok (.iload_n 2, 1) := by decide +kernel
theorem dX4_scoreOf_79 : decode cX4_scoreOf 79 = .ok (.ireturn, 1) := by decide +kernel
theorem dX4_settle_0 : decode cX4_settle 0 = .ok (.aload_n 0, 1) := by decide +kernel
theorem dX4_settle_1 : decode cX4_settle 1 = .ok (.aload_n 0, 1) := by decide +kernel
theorem dX4_settle_2 : decode cX4_settle 2 = .ok (.getfield 15, 3) := by decide +kernel
theorem dX4_settle_5 : decode cX4_settle 5 = .ok (.invokevirtual 19, 3) := by decide +kernel
theorem dX4_settle_8 : decode cX4_settle 8 = .ok (.lload_n 1, 1) := by decide +kernel
theorem dX4_settle_9 : decode cX4_settle 9 = .ok (.lor, 1) := by decide +kernel
theorem dX4_settle_10 : decode cX4_settle 10 = .ok (.putfield 25, 3) := by decide +kernel
theorem dX4_settle_13 : decode cX4_settle 13 = .ok (.aload_n 0, 1) := by decide +kernel
theorem dX4_settle_14 : decode cX4_settle 14 = .ok (.lconst 0, 1) := by decide +kernel
theorem dX4_settle_15 : decode cX4_settle 15 = .ok (.putfield 29, 3) := by decide +kernel
theorem dX4_settle_18 : decode cX4_settle 18 = .ok (.aload_n 0, 1) := by decide +kernel
theorem dX4_settle_19 : decode cX4_settle 19 = .ok (.lconst 0, 1) := by decide +kernel
theorem dX4_settle_20 : decode cX4_settle 20 = .ok (.putfield 32, 3) := by decide +kernel
theorem dX4_settle_23 : decode cX4_settle 23 = .ok (.aload_n 0, 1) := by decide +kernel
theorem dX4_settle_24 : decode cX4_settle 24 = .ok (.iconst 0, 1) := by decide +kernel
theorem dX4_settle_25 : decode cX4_settle 25 = .ok (.putfield 35, 3) := by decide +kernel
theorem dX4_settle_28 : decode cX4_settle 28 = .ok (.iconst 0, 1) := by decide +kernel
theorem dX4_settle_29 : decode cX4_settle 29 = .ok (.istore 5, 2) := by decide +kernel
theorem dX4_settle_31 : decode cX4_settle 31 = .ok (.iload 5, 2) := by decide +kernel
theorem dX4_settle_33 : decode cX4_settle 33 = .ok (.bipush 40, 2) := by decide +kernel
theorem dX4_settle_35 : decode cX4_settle 35 = .ok (.if_icmp .ge 17, 3) := by decide +kernel
theorem dX4_settle_38 : decode cX4_settle 38 = .ok (.aload_n 0, 1) := by decide +kernel
theorem dX4_settle_39 : decode cX4_settle 39 = .ok (.getfield 9, 3) := by decide +kernel
theorem dX4_settle_42 : decode cX4_settle 42 = .ok (.iload 5, 2) := by decide +kernel
theorem dX4_settle_44 : decode cX4_settle 44 = .ok (.iconst 0, 1) := by decide +kernel
theorem dX4_settle_45 : decode cX4_settle 45 = .ok (.iastore, 1) := by decide +kernel
theorem dX4_settle_46 : decode cX4_settle 46 = .ok (.iinc 5 1, 3) := by decide +kernel
theorem dX4_settle_49 : decode cX4_settle 49 = .ok (.goto (-18), 3) := by decide +kernel
theorem dX4_settle_52 : decode cX4_settle 52 = .ok (.iconst 1, 1) := by decide +kernel
theorem dX4_settle_53 : decode cX4_settle 53 = .ok (.istore 5, 2) := by decide +kernel
theorem dX4_settle_55 : decode cX4_settle 55 = .ok (.iload 5, 2) := by decide +kernel
theorem dX4_settle_57 : decode cX4_settle 57 = .ok (.bipush 40, 2) := by decide +kernel
theorem dX4_settle_59 : decode cX4_settle 59 = .ok (.if_icmp .gt 25, 3) := by decide +kernel
theorem dX4_settle_62 : decode cX4_settle 62 = .ok (.aload_n 0, 1) := by decide +kernel
theorem dX4_settle_63 : decode cX4_settle 63 = .ok (.iload 5, 2) := by decide +kernel
theorem dX4_settle_65 : decode cX4_settle 65 = .ok (.lload_n 3, 1) := by decide +kernel
theorem dX4_settle_66 : decode cX4_settle 66 = .ok (.invokevirtual 39, 3) := by decide +kernel
theorem dX4_settle_69 : decode cX4_settle 69 = .ok (.ifCond .eq 15, 3) := by decide +kernel
theorem dX4_settle_72 : decode cX4_settle 72 = .ok (.aload_n 0, 1) := by decide +kernel
theorem dX4_settle_73 : decode cX4_settle 73 = .ok (.iload 5, 2) := by decide +kernel
theorem dX4_settle_75 : decode cX4_settle 75 = .ok (.putfield 35, 3) := by decide +kernel
theorem dX4_settle_78 : decode cX4_settle 78 = .ok (.iinc 5 1, 3) := by decide +kernel
theorem dX4_settle_81 : decode cX4_settle 81 = .ok (.goto (-26), 3) := by decide +kernel
theorem dX4_settle_84 : decode cX4_settle 84 = .ok (.return_, 1) := by decide +kernel
theorem dX4_wordFor_0 : decode cX4_wordFor 0 = .ok (.aload_n 0, 1) := by decide +kernel
theorem dX4_wordFor_1 : decode cX4_wordFor 1 = .ok (.iload_n 1, 1) := by decide +kernel
theorem dX4_wordFor_2 : decode cX4_wordFor 2 = .ok (.invokevirtual 59, 3) := by decide +kernel
theorem dX4_wordFor_5 : decode cX4_wordFor 5 = .ok (.ifCond .eq 9, 3) := by decide +kernel
theorem dX4_wordFor_8 : decode cX4_wordFor 8 = .ok (.getstatic 80, 3) := by decide +kernel
theorem dX4_wordFor_11 : decode cX4_wordFor 11 = .ok (.goto 20, 3) := by decide +kernel
theorem dX4_wordFor_14 : decode cX4_wordFor 14 = .ok (.aload_n 0, 1) := by decide +kernel
theorem dX4_wordFor_15 : decode cX4_wordFor 15 = .ok (.iload_n 1, 1) := by decide +kernel
theorem dX4_wordFor_16 : decode cX4_wordFor 16 = .ok (.invokevirtual 62, 3) := by decide +kernel
theorem dX4_wordFor_19 : decode cX4_wordFor 19 = .ok (.ifCond .eq 9, 3) := by decide +kernel
theorem dX4_wordFor_22 : decode cX4_wordFor 22 = .ok (.getstatic 86, 3) := by decide +kernel
theorem dX4_wordFor_25 : decode cX4_wordFor 25 = .ok (.goto 6, 3) := by decide +kernel
theorem dX4_wordFor_28 : decode cX4_wordFor 28 = .ok (.getstatic 89, 3) := by decide +kernel
theorem dX4_wordFor_31 : decode cX4_wordFor 31 = .ok (.areturn, 1) := by decide +kernel
theorem dX4_worthOf_0 : decode cX4_worthOf 0 = .ok (.aload_n 0, 1) := by decide +kernel
theorem dX4_worthOf_1 : decode cX4_worthOf 1 = .ok (.getfield 25, 3) := by decide +kernel
theorem dX4_worthOf_4 : decode cX4_worthOf 4 = .ok (.iload_n 1, 1) := by decide +kernel
theorem dX4_worthOf_5 : decode cX4_worthOf 5 = .ok (.invokestatic 55, 3) := by decide +kernel
theorem dX4_worthOf_8 : decode cX4_worthOf 8 = .ok (.land, 1) := by decide +kernel
theorem dX4_worthOf_9 : decode cX4_worthOf 9 = .ok (.lconst 0, 1) := by decide +kernel
theorem dX4_worthOf_10 : decode cX4_worthOf 10 = .ok (.lcmp, 1) := by decide +kernel
theorem dX4_worthOf_11 : decode cX4_worthOf 11 = .ok (.ifCond .eq 7, 3) := by decide +kernel
theorem dX4_worthOf_14 : decode cX4_worthOf 14 = .ok (.iconst (-1), 1) := by decide +kernel
theorem dX4_worthOf_15 : decode cX4_worthOf 15 = .ok (.goto 4, 3) := by decide +kernel
theorem dX4_worthOf_18 : decode cX4_worthOf 18 = .ok (.iconst 0, 1) := by decide +kernel
theorem dX4_worthOf_19 : decode cX4_worthOf 19 = .ok (.istore_n 2, 1) := by decide +kernel
theorem dX4_worthOf_20 : decode cX4_worthOf 20 = .ok (.aload_n 0, 1) := by decide +kernel
theorem dX4_worthOf_21 : decode cX4_worthOf 21 = .ok (.getfield 15, 3) := by decide +kernel
theorem dX4_worthOf_24 : decode cX4_worthOf 24 = .ok (.iload_n 1, 1) := by decide +kernel
theorem dX4_worthOf_25 : decode cX4_worthOf 25 = .ok (.invokevirtual 110, 3) := by decide +kernel
theorem dX4_worthOf_28 : decode cX4_worthOf 28 = .ok (.istore_n 3, 1) := by decide +kernel
theorem dX4_worthOf_29 : decode cX4_worthOf 29 = .ok (.aload_n 0, 1) := by decide +kernel
theorem dX4_worthOf_30 : decode cX4_worthOf 30 = .ok (.getfield 15, 3) := by decide +kernel
theorem dX4_worthOf_33 : decode cX4_worthOf 33 = .ok (.iload_n 1, 1) := by decide +kernel
theorem dX4_worthOf_34 : decode cX4_worthOf 34 = .ok (.invokevirtual 113, 3) := by decide +kernel
theorem dX4_worthOf_37 : decode cX4_worthOf 37 = .ok (.istore 4, 2) := by decide +kernel
theorem dX4_worthOf_39 : decode cX4_worthOf 39 = .ok (.aload_n 0, 1) := by decide +kernel
theorem dX4_worthOf_40 : decode cX4_worthOf 40 = .ok (.iload_n 1, 1) := by decide +kernel
theorem dX4_worthOf_41 : decode cX4_worthOf 41 = .ok (.invokevirtual 59, 3) := by decide +kernel
theorem dX4_worthOf_44 : decode cX4_worthOf 44 = .ok (.ifCond .eq 15, 3) := by decide +kernel
theorem dX4_worthOf_47 : decode cX4_worthOf 47 = .ok (.iload_n 3, 1) := by decide +kernel
theorem dX4_worthOf_48 : decode cX4_worthOf 48 = .ok (.ifCond .ne 11, 3) := by decide +kernel
theorem dX4_worthOf_51 : decode cX4_worthOf 51 = .ok (.iload_n 2, 1) := by decide +kernel
theorem dX4_worthOf_52 : decode cX4_worthOf 52 = .ok (.iload 4, 2) := by decide +kernel
theorem dX4_worthOf_54 : decode cX4_worthOf 54 = .ok (.iadd, 1) := by decide +kernel
theorem dX4_worthOf_55 : decode cX4_worthOf 55 = .ok (.istore_n 2, 1) := by decide +kernel
theorem dX4_worthOf_56 : decode cX4_worthOf 56 = .ok (.goto 70, 3) := by decide +kernel
theorem dX4_worthOf_59 : decode cX4_worthOf 59 = .ok (.aload_n 0, 1) := by decide +kernel
theorem dX4_worthOf_60 : decode cX4_worthOf 60 = .ok (.iload_n 1, 1) := by decide +kernel
theorem dX4_worthOf_61 : decode cX4_worthOf 61 = .ok (.invokevirtual 59, 3) := by decide +kernel
theorem dX4_worthOf_64 : decode cX4_worthOf 64 = .ok (.ifCond .eq 14, 3) := by decide +kernel
theorem dX4_worthOf_67 : decode cX4_worthOf 67 = .ok (.iload_n 3, 1) := by decide +kernel
theorem dX4_worthOf_68 : decode cX4_worthOf 68 = .ok (.iconst 2, 1) := by decide +kernel
theorem dX4_worthOf_69 : decode cX4_worthOf 69 = .ok (.if_icmp .ne 9, 3) := by decide +kernel
theorem dX4_worthOf_72 : decode cX4_worthOf 72 = .ok (.iinc 2 1, 3) := by decide +kernel
theorem dX4_worthOf_75 : decode cX4_worthOf 75 = .ok (.goto 51, 3) := by decide +kernel
theorem dX4_worthOf_78 : decode cX4_worthOf 78 = .ok (.aload_n 0, 1) := by decide +kernel
theorem dX4_worthOf_79 : decode cX4_worthOf 79 = .ok (.iload_n 1, 1) := by decide +kernel
theorem dX4_worthOf_80 : decode cX4_worthOf 80 = .ok (.invokevirtual 59, 3) := by decide +kernel
theorem dX4_worthOf_83 : decode cX4_worthOf 83 = .ok (.ifCond .eq 24, 3) := by decide +kernel
theorem dX4_worthOf_86 : decode cX4_worthOf 86 = .ok (.aload_n 0, 1) := by decide +kernel
theorem dX4_worthOf_87 : decode cX4_worthOf 87 = .ok (.getfield 15, 3) := by decide +kernel
theorem dX4_worthOf_90 : decode cX4_worthOf 90 = .ok (.iload_n 1, 1) := by decide +kernel
theorem dX4_worthOf_91 : decode cX4_worthOf 91 = .ok (.invokevirtual 47, 3) := by decide +kernel
theorem dX4_worthOf_94 : decode cX4_worthOf 94 = .ok (.ifCond .eq 13, 3) := by decide +kernel
theorem dX4_worthOf_97 : decode cX4_worthOf 97 = .ok (.iload_n 2, 1) := by decide +kernel
theorem dX4_worthOf_98 : decode cX4_worthOf 98 = .ok (.iload 4, 2) := by decide +kernel
theorem dX4_worthOf_100 : decode cX4_worthOf 100 = .ok (.iconst 2, 1) := by decide +kernel
theorem dX4_worthOf_101 : decode cX4_worthOf 101 = .ok (.idiv, 1) := by decide +kernel
theorem dX4_worthOf_102 : decode cX4_worthOf 102 = .ok (.iadd, 1) := by decide +kernel
theorem dX4_worthOf_103 : decode cX4_worthOf 103 = .ok (.istore_n 2, 1) := by decide +kernel
theorem dX4_worthOf_104 : decode cX4_worthOf 104 = .ok (.goto 22, 3) := by decide +kernel
theorem dX4_worthOf_107 : decode cX4_worthOf 107 = .ok (.aload_n 0, 1) := by decide +kernel
theorem dX4_worthOf_108 : decode cX4_worthOf 108 = .ok (.iload_n 1, 1) := by decide +kernel
theorem dX4_worthOf_109 : decode cX4_worthOf 109 = .ok (.invokevirtual 62, 3) := by decide +kernel
theorem dX4_worthOf_112 : decode cX4_worthOf 112 = .ok (.ifCond .ne 14, 3) := by decide +kernel
theorem dX4_worthOf_115 : decode cX4_worthOf 115 = .ok (.iload_n 3, 1) := by decide +kernel
theorem dX4_worthOf_116 : decode cX4_worthOf 116 = .ok (.ifCond .ne 10, 3) := by decide +kernel
theorem dX4_worthOf_119 : decode cX4_worthOf 119 = .ok (.iload_n 2, 1) := by decide +kernel
theorem dX4_worthOf_120 : decode cX4_worthOf 120 = .ok (.iload 4, 2) := by decide +kernel
theorem dX4_worthOf_122 : decode cX4_worthOf 122 = .ok (.iconst 2, 1) := by decide +kernel
theorem dX4_worthOf_123 : decode cX4_worthOf 123 = .ok (.idiv, 1) := by decide +kernel
theorem dX4_worthOf_124 : decode cX4_worthOf 124 = .ok (.iadd, 1) := by decide +kernel
theorem dX4_worthOf_125 : decode cX4_worthOf 125 = .ok (.istore_n 2, 1) := by decide +kernel
theorem dX4_worthOf_126 : decode cX4_worthOf 126 = .ok (.iload_n 2, 1) := by decide +kernel
theorem dX4_worthOf_127 : decode cX4_worthOf 127 = .ok (.ireturn, 1) := by decide +kernel
theorem dX5_carryOut_0 : decode cX5_carryOut 0 = .ok (.aload_n 0, 1) := by decide +kernel
theorem dX5_carryOut_1 : decode cX5_carryOut 1 = .ok (.iconst 0, 1) := by decide +kernel
theorem dX5_carryOut_2 : decode cX5_carryOut 2 = .ok (.putfield 23, 3) := by decide +kernel
theorem dX5_carryOut_5 : decode cX5_carryOut 5 = .ok (.aload_n 0, 1) := by decide +kernel
theorem dX5_carryOut_6 : decode cX5_carryOut 6 = .ok (.iconst 0, 1) := by decide +kernel
theorem dX5_carryOut_7 : decode cX5_carryOut 7 = .ok (.putfield 27, 3) := by decide +kernel
theorem dX5_carryOut_10 : decode cX5_carryOut 10 = .ok (.iconst 0, 1) := by decide +kernel
theorem dX5_carryOut_11 : decode cX5_carryOut 11 = .ok (.istore_n 1, 1) := by decide +kernel
theorem dX5_carryOut_12 : decode cX5_carryOut 12 = .ok (.iload_n 1, 1) := by decide +kernel
theorem dX5_carryOut_13 : decode cX5_carryOut 13 = .ok (.sipush 400, 3) := by decide +kernel
theorem dX5_carryOut_16 : decode cX5_carryOut 16 = .ok (.if_icmp .ge 135, 3) := by decide +kernel
theorem dX5_carryOut_19 : decode cX5_carryOut 19 = .ok (.aload_n 0, 1) := by decide +kernel
theorem dX5_carryOut_20 : decode cX5_carryOut 20 = .ok (.getfield 27, 3) := by decide +kernel
theorem dX5_carryOut_23 : decode cX5_carryOut 23 = .ok (.ifCond .ne 128, 3) := by decide +kernel
theorem dX5_carryOut_26 : decode cX5_carryOut 26 = .ok (.aload_n 0, 1) := by decide +kernel
theorem dX5_carryOut_27 : decode cX5_carryOut 27 = .ok (.getstatic 32, 3) := by decide +kernel
theorem dX5_carryOut_30 : decode cX5_carryOut 30 = .ok (.invokevirtual 38, 3) := by decide +kernel
theorem dX5_carryOut_33 : decode cX5_carryOut 33 = .ok (.ifCond .ne 118, 3) := by decide +kernel
theorem dX5_carryOut_36 : decode cX5_carryOut 36 = .ok (.aload_n 0, 1) := by decide +kernel
theorem dX5_carryOut_37 : decode cX5_carryOut 37 = .ok (.getfield 9, 3) := by decide +kernel
theorem dX5_carryOut_40 : decode cX5_carryOut 40 = .ok (.aload_n 0, 1) := by decide +kernel
theorem dX5_carryOut_41 : decode cX5_carryOut 41 = .ok (.getfield 23, 3) := by decide +kernel
theorem dX5_carryOut_44 : decode cX5_carryOut 44 = .ok (.invokevirtual 42, 3) := by decide +kernel
theorem dX5_carryOut_47 : decode cX5_carryOut 47 = .ok (.astore_n 2, 1) := by decide +kernel
theorem dX5_carryOut_48 : decode cX5_carryOut 48 = .ok (.aload_n 0, 1) := by decide +kernel
theorem dX5_carryOut_49 : decode cX5_carryOut 49 = .ok (.dup, 1) := by decide +kernel
theorem dX5_carryOut_50 : decode cX5_carryOut 50 = .ok (.getfield 23, 3) := by decide +kernel
theorem dX5_carryOut_53 : decode cX5_carryOut 53 = .ok (.iconst 1, 1) := by decide +kernel
theorem dX5_carryOut_54 : decode cX5_carryOut 54 = .ok (.iadd, 1) := by decide +kernel
theorem dX5_carryOut_55 : decode cX5_carryOut 55 = .ok (.putfield 23, 3) := by decide +kernel
theorem dX5_carryOut_58 : decode cX5_carryOut 58 = .ok (.aload_n 2, 1) := by decide +kernel
theorem dX5_carryOut_59 : decode cX5_carryOut 59 = .ok (.getstatic 46, 3) := by decide +kernel
theorem dX5_carryOut_62 : decode cX5_carryOut 62 = .ok (.if_acmp .ne 10, 3) := by decide +kernel
theorem dX5_carryOut_65 : decode cX5_carryOut 65 = .ok (.aload_n 0, 1) := by decide +kernel
theorem dX5_carryOut_66 : decode cX5_carryOut 66 = .ok (.invokevirtual 49, 3) := by decide +kernel
theorem dX5_carryOut_69 : decode cX5_carryOut 69 = .ok (.goto 66, 3) := by decide +kernel
theorem dX5_carryOut_72 : decode cX5_carryOut 72 = .ok (.aload_n 2, 1) := by decide +kernel
theorem dX5_carryOut_73 : decode cX5_carryOut 73 = .ok (.getstatic 52, 3) := by decide +kernel
theorem dX5_carryOut_76 : decode cX5_carryOut 76 = .ok (.if_acmp .ne 10, 3) := by decide +kernel
theorem dX5_carryOut_79 : decode cX5_carryOut 79 = .ok (.aload_n 0, 1) := by decide +kernel
theorem dX5_carryOut_80 : decode cX5_carryOut 80 = .ok (.invokevirtual 55, 3) := by decide +kernel
theorem dX5_carryOut_83 : decode cX5_carryOut 83 = .ok (.goto 52, 3) := by decide +kernel
theorem dX5_carryOut_86 : decode cX5_carryOut 86 = .ok (.aload_n 2, 1) := by decide +kernel
theorem dX5_carryOut_87 : decode cX5_carryOut 87 = .ok (.getstatic 58, 3) := by decide +kernel
theorem dX5_carryOut_90 : decode cX5_carryOut 90 = .ok (.if_acmp .eq 10, 3) := by decide +kernel
theorem dX5_carryOut_93 : decode cX5_carryOut 93 = .ok (.aload_n 2, 1) := by decide +kernel
theorem dX5_carryOut_94 : decode cX5_carryOut 94 = .ok (.getstatic 61, 3) := by decide +kernel
theorem dX5_carryOut_97 : decode cX5_carryOut 97 = .ok (.if_acmp .ne 22, 3) := by decide +kernel
theorem dX5_carryOut_100 : decode cX5_carryOut 100 = .ok (.aload_n 0, 1) := by decide +kernel
theorem dX5_carryOut_101 : decode cX5_carryOut 101 = .ok (.aload_n 2, 1) := by decide +kernel
theorem dX5_carryOut_102 : decode cX5_carryOut 102 = .ok (.getstatic 58, 3) := by decide +kernel
theorem dX5_carryOut_105 : decode cX5_carryOut 105 = .ok (.if_acmp .ne 7, 3) := by decide +kernel
theorem dX5_carryOut_108 : decode cX5_carryOut 108 = .ok (.iconst 1, 1) := by decide +kernel
theorem dX5_carryOut_109 : decode cX5_carryOut 109 = .ok (.goto 4, 3) := by decide +kernel
theorem dX5_carryOut_112 : decode cX5_carryOut 112 = .ok (.iconst 2, 1) := by decide +kernel
theorem dX5_carryOut_113 : decode cX5_carryOut 113 = .ok (.invokevirtual 64, 3) := by decide +kernel
theorem dX5_carryOut_116 : decode cX5_carryOut 116 = .ok (.goto 19, 3) := by decide +kernel
theorem dX5_carryOut_119 : decode cX5_carryOut 119 = .ok (.aload_n 0, 1) := by decide +kernel
theorem dX5_carryOut_120 : decode cX5_carryOut 120 = .ok (.aload_n 2, 1) := by decide +kernel
theorem dX5_carryOut_121 : decode cX5_carryOut 121 = .ok (.getstatic 68, 3) := by decide +kernel
theorem dX5_carryOut_124 : decode cX5_carryOut 124 = .ok (.if_acmp .ne 7, 3) := by decide +kernel
theorem dX5_carryOut_127 : decode cX5_carryOut 127 = .ok (.iconst 1, 1) := by decide +kernel
theorem dX5_carryOut_128 : decode cX5_carryOut 128 = .ok (.goto 4, 3) := by decide +kernel
theorem dX5_carryOut_131 : decode cX5_carryOut 131 = .ok (.iconst 0, 1) := by decide +kernel
theorem dX5_carryOut_132 : decode cX5_carryOut 132 = .ok (.invokevirtual 71, 3) := by decide +kernel
theorem dX5_carryOut_135 : decode cX5_carryOut 135 = .ok (.aload_n 0, 1) := by decide +kernel
theorem dX5_carryOut_136 : decode cX5_carryOut 136 = .ok (.dup, 1) := by decide +kernel
theorem dX5_carryOut_137 : decode cX5_carryOut 137 = .ok (.getfield 23, 3) := by decide +kernel
theorem dX5_carryOut_140 : decode cX5_carryOut 140 = .ok (.iconst 1, 1) := by decide +kernel
theorem dX5_carryOut_141 : decode cX5_carryOut 141 = .ok (.iadd, 1) := by decide +kernel
theorem dX5_carryOut_142 : decode cX5_carryOut 142 = .ok (.putfield 23, 3) := by decide +kernel
theorem dX5_carryOut_145 : decode cX5_carryOut 145 = .ok (.iinc 1 1, 3) := by decide +kernel
theorem dX5_carryOut_148 : decode cX5_carryOut 148 = .ok (.goto (-136), 3) := by decide +kernel
theorem dX5_carryOut_151 : decode cX5_carryOut 151 = .ok (.aload_n 0, 1) := by decide +kernel
theorem dX5_carryOut_152 : decode cX5_carryOut 152 = .ok (.getfield 27, 3) := by decide +kernel
theorem dX5_carryOut_155 : decode cX5_carryOut 155 = .ok (.ireturn, 1) := by decide +kernel
theorem dX5_errorPlace_0 : decode cX5_errorPlace 0 = .ok (.aload_n 0, 1) := by decide +kernel
theorem dX5_errorPlace_1 : decode cX5_errorPlace 1 = .ok (.getfield 9, 3) := by decide +kernel
theorem dX5_errorPlace_4 : decode cX5_errorPlace 4 = .ok (.aload_n 0, 1) := by decide +kernel
theorem dX5_errorPlace_5 : decode cX5_errorPlace 5 = .ok (.getfield 75, 3) := by decide +kernel
theorem dX5_errorPlace_8 : decode cX5_errorPlace 8 = .ok (.invokevirtual 78, 3) := by decide +kernel
theorem dX5_errorPlace_11 : decode cX5_errorPlace 11 = .ok (.ireturn, 1) := by decide +kernel
theorem dX5_failIf_0 : decode cX5_failIf 0 = .ok (.iload_n 1, 1) := by decide +kernel
theorem dX5_failIf_1 : decode cX5_failIf 1 = .ok (.ifCond .eq 23, 3) := by decide +kernel
theorem dX5_failIf_4 : decode cX5_failIf 4 = .ok (.aload_n 0, 1) := by decide +kernel
theorem dX5_failIf_5 : decode cX5_failIf 5 = .ok (.getfield 27, 3) := by decide +kernel
theorem dX5_failIf_8 : decode cX5_failIf 8 = .ok (.ifCond .ne 16, 3) := by decide +kernel
theorem dX5_failIf_11 : decode cX5_failIf 11 = .ok (.aload_n 0, 1) := by decide +kernel
theorem dX5_failIf_12 : decode cX5_failIf 12 = .ok (.iload_n 2, 1) := by decide +kernel
theorem dX5_failIf_13 : decode cX5_failIf 13 = .ok (.putfield 27, 3) := by decide +kernel
theorem dX5_failIf_16 : decode cX5_failIf 16 = .ok (.aload_n 0, 1) := by decide +kernel
theorem dX5_failIf_17 : decode cX5_failIf 17 = .ok (.aload_n 0, 1) := by decide +kernel
theorem dX5_failIf_18 : decode cX5_failIf 18 = .ok (.getfield 23, 3) := by decide +kernel
theorem dX5_failIf_21 : decode cX5_failIf 21 = .ok (.putfield 75, 3) := by decide +kernel
theorem dX5_failIf_24 : decode cX5_failIf 24 = .ok (.return_, 1) := by decide +kernel
theorem dX5_init_0 : decode cX5_init 0 = .ok (.aload_n 0, 1) := by decide +kernel
theorem dX5_init_1 : decode cX5_init 1 = .ok (.invokespecial 3, 3) := by decide +kernel
theorem dX5_init_4 : decode cX5_init 4 = .ok (.aload_n 0, 1) := by decide +kernel
theorem dX5_init_5 : decode cX5_init 5 = .ok (.aload_n 1, 1) := by decide +kernel
theorem dX5_init_6 : decode cX5_init 6 = .ok (.putfield 9, 3) := by decide +kernel
theorem dX5_init_9 : decode cX5_init 9 = .ok (.aload_n 0, 1) := by decide +kernel
theorem dX5_init_10 : decode cX5_init 10 = .ok (.aload_n 2, 1) := by decide +kernel
theorem dX5_init_11 : decode cX5_init 11 = .ok (.putfield 15, 3) := by decide +kernel
theorem dX5_init_14 : decode cX5_init 14 = .ok (.aload_n 0, 1) := by decide +kernel
theorem dX5_init_15 : decode cX5_init 15 = .ok (.aload_n 3, 1) := by decide +kernel
theorem dX5_init_16 : decode cX5_init 16 = .ok (.putfield 19, 3) := by decide +kernel
theorem dX5_init_19 : decode cX5_init 19 = .ok (.return_, 1) := by decide +kernel
theorem dX5_seeItem_0 : decode cX5_seeItem 0 = .ok (.aload_n 0, 1) := by decide +kernel
theorem dX5_seeItem_1 : decode cX5_seeItem 1 = .ok (.getfield 15, 3) := by decide +kernel
theorem dX5_seeItem_4 : decode cX5_seeItem 4 = .ok (.aload_n 0, 1) := by decide +kernel
theorem dX5_seeItem_5 : decode cX5_seeItem 5 = .ok (.getfield 9, 3) := by decide +kernel
theorem dX5_seeItem_8 : decode cX5_seeItem 8 = .ok (.aload_n 0, 1) := by decide +kernel
theorem dX5_seeItem_9 : decode cX5_seeItem 9 = .ok (.getfield 23, 3) := by decide +kernel
theorem dX5_seeItem_12 : decode cX5_seeItem 12 = .ok (.invokevirtual 82, 3) := by decide +kernel
theorem dX5_seeItem_15 : decode cX5_seeItem 15 = .ok (.invokevirtual 162, 3) := by decide +kernel
theorem dX5_seeItem_18 : decode cX5_seeItem 18 = .ok (.istore_n 1, 1) := by decide +kernel
theorem dX5_seeItem_19 : decode cX5_seeItem 19 = .ok (.aload_n 0, 1) := by decide +kernel
theorem dX5_seeItem_20 : decode cX5_seeItem 20 = .ok (.iload_n 1, 1) := by decide +kernel
theorem dX5_seeItem_21 : decode cX5_seeItem 21 = .ok (.iconst (-1), 1) := by decide +kernel
theorem dX5_seeItem_22 : decode cX5_seeItem 22 = .ok (.if_icmp .ne 7, 3) := by decide +kernel
theorem dX5_seeItem_25 : decode cX5_seeItem 25 = .ok (.iconst 1, 1) := by decide +kernel
theorem dX5_seeItem_26 : decode cX5_seeItem 26 = .ok (.goto 4, 3) := by decide +kernel
theorem dX5_seeItem_29 : decode cX5_seeItem 29 = .ok (.iconst 0, 1) := by decide +kernel
theorem dX5_seeItem_30 : decode cX5_seeItem 30 = .ok (.iconst 3, 1) := by decide +kernel
theorem dX5_seeItem_31 : decode cX5_seeItem 31 = .ok (.invokevirtual 92, 3) := by decide +kernel
theorem dX5_seeItem_34 : decode cX5_seeItem 34 = .ok (.iload_n 1, 1) := by decide +kernel
theorem dX5_seeItem_35 : decode cX5_seeItem 35 = .ok (.ireturn, 1) := by decide +kernel
theorem dX5_sees_0 : decode cX5_sees 0 = .ok (.aload_n 0, 1) := by decide +kernel
theorem dX5_sees_1 : decode cX5_sees 1 = .ok (.getfield 9, 3) := by decide +kernel
theorem dX5_sees_4 : decode cX5_sees 4 = .ok (.aload_n 0, 1) := by decide +kernel
theorem dX5_sees_5 : decode cX5_sees 5 = .ok (.getfield 23, 3) := by decide +kernel
theorem dX5_sees_8 : decode cX5_sees 8 = .ok (.invokevirtual 42, 3) := by decide +kernel
theorem dX5_sees_11 : decode cX5_sees 11 = .ok (.aload_n 1, 1) := by decide +kernel
theorem dX5_sees_12 : decode cX5_sees 12 = .ok (.if_acmp .ne 7, 3) := by decide +kernel
theorem dX5_sees_15 : decode cX5_sees 15 = .ok (.iconst 1, 1) := by decide +kernel
theorem dX5_sees_16 : decode cX5_sees 16 = .ok (.goto 4, 3) := by decide +kernel
theorem dX5_sees_19 : decode cX5_sees 19 = .ok (.iconst 0, 1) := by decide +kernel
theorem dX5_sees_20 : decode cX5_sees 20 = .ok (.ireturn, 1) := by decide +kernel
theorem dX5_takeBoth_0 : decode cX5_takeBoth 0 = .ok (.aload_n 0, 1) := by decide +kernel
theorem dX5_takeBoth_1 : decode cX5_takeBoth 1 = .ok (.iload_n 1, 1) := by decide +kernel
theorem dX5_takeBoth_2 : decode cX5_takeBoth 2 = .ok (.invokevirtual 180, 3) := by decide +kernel
theorem dX5_takeBoth_5 : decode cX5_takeBoth 5 = .ok (.istore_n 2, 1) := by decide +kernel
theorem dX5_takeBoth_6 : decode cX5_takeBoth 6 = .ok (.iconst 0, 1) := by decide +kernel
theorem dX5_takeBoth_7 : decode cX5_takeBoth 7 = .ok (.istore_n 3, 1) := by decide +kernel
theorem dX5_takeBoth_8 : decode cX5_takeBoth 8 = .ok (.iload_n 3, 1) := by decide +kernel
theorem dX5_takeBoth_9 : decode cX5_takeBoth 9 = .ok (.sipush 400, 3) := by decide +kernel
theorem dX5_takeBoth_12 : decode cX5_takeBoth 12 = .ok (.if_icmp .ge 37, 3) := by decide +kernel
theorem dX5_takeBoth_15 : decode cX5_takeBoth 15 = .ok (.aload_n 0, 1) := by decide +kernel
theorem dX5_takeBoth_16 : decode cX5_takeBoth 16 = .ok (.getstatic 183, 3) := by decide +kernel
theorem dX5_takeBoth_19 : decode cX5_takeBoth 19 = .ok (.invokevirtual 38, 3) := by decide +kernel
theorem dX5_takeBoth_22 : decode cX5_takeBoth 22 = .ok (.ifCond .eq 27, 3) := by decide +kernel
theorem dX5_takeBoth_25 : decode cX5_takeBoth 25 = .ok (.aload_n 0, 1) := by decide +kernel
theorem dX5_takeBoth_26 : decode cX5_takeBoth 26 = .ok (.dup, 1) := by decide +kernel
theorem dX5_takeBoth_27 : decode cX5_takeBoth 27 = .ok (.getfield 23, 3) := by decide +kernel
theorem dX5_takeBoth_30 : decode cX5_takeBoth 30 = .ok (.iconst 1, 1) := by decide +kernel
theorem dX5_takeBoth_31 : decode cX5_takeBoth 31 = .ok (.iadd, 1) := by decide +kernel
theorem dX5_takeBoth_32 : decode cX5_takeBoth 32 = .ok (.putfield 23, 3) := by decide +kernel
theorem dX5_takeBoth_35 : decode cX5_takeBoth 35 = .ok (.iload_n 2, 1) := by decide +kernel
theorem dX5_takeBoth_36 : decode cX5_takeBoth 36 = .ok (.aload_n 0, 1) := by decide +kernel
theorem dX5_takeBoth_37 : decode cX5_takeBoth 37 = .ok (.iload_n 1, 1) := by decide +kernel
theorem dX5_takeBoth_38 : decode cX5_takeBoth 38 = .ok (.invokevirtual 180, 3) := by decide +kernel
theorem dX5_takeBoth_41 : decode cX5_takeBoth 41 = .ok (.iand, 1) := by decide +kernel
theorem dX5_takeBoth_42 : decode cX5_takeBoth 42 = .ok (.istore_n 2, 1) := by decide +kernel
theorem dX5_takeBoth_43 : decode cX5_takeBoth 43 = .ok (.iinc 3 1, 3) := by decide +kernel
theorem dX5_takeBoth_46 : decode cX5_takeBoth 46 = .ok (.goto (-38), 3) := by decide +kernel
theorem dX5_takeBoth_49 : decode cX5_takeBoth 49 = .ok (.iload_n 2, 1) := by decide +kernel
theorem dX5_takeBoth_50 : decode cX5_takeBoth 50 = .ok (.ireturn, 1) := by decide +kernel
theorem dX5_takeNewItem_0 : decode cX5_takeNewItem 0 = .ok (.aload_n 0, 1) := by decide +kernel
theorem dX5_takeNewItem_1 : decode cX5_takeNewItem 1 = .ok (.getfield 9, 3) := by decide +kernel
theorem dX5_takeNewItem_4 : decode cX5_takeNewItem 4 = .ok (.aload_n 0, 1) := by decide +kernel
theorem dX5_takeNewItem_5 : decode cX5_takeNewItem 5 = .ok (.getfield 23, 3) := by decide +kernel
theorem dX5_takeNewItem_8 : decode cX5_takeNewItem 8 = .ok (.invokevirtual 82, 3) := by decide +kernel
theorem dX5_takeNewItem_11 : decode cX5_takeNewItem 11 = .ok (.lstore_n 1, 1) := by decide +kernel
theorem dX5_takeNewItem_12 : decode cX5_takeNewItem 12 = .ok (.aload_n 0, 1) := by decide +kernel
theorem dX5_takeNewItem_13 : decode cX5_takeNewItem 13 = .ok (.aload_n 0, 1) := by decide +kernel
theorem dX5_takeNewItem_14 : decode cX5_takeNewItem 14 = .ok (.getfield 15, 3) := by decide +kernel
theorem dX5_takeNewItem_17 : decode cX5_takeNewItem 17 = .ok (.lload_n 1, 1) := by decide +kernel
theorem dX5_takeNewItem_18 : decode cX5_takeNewItem 18 = .ok (.invokevirtual 162, 3) := by decide +kernel
theorem dX5_takeNewItem_21 : decode cX5_takeNewItem 21 = .ok (.iconst (-1), 1) := by decide +kernel
theorem dX5_takeNewItem_22 : decode cX5_takeNewItem 22 = .ok (.if_icmp .eq 7, 3) := by decide +kernel
theorem dX5_takeNewItem_25 : decode cX5_takeNewItem 25 = .ok (.iconst 1, 1) := by decide +kernel
theorem dX5_takeNewItem_26 : decode cX5_takeNewItem 26 = .ok (.goto 4, 3) := by decide +kernel
theorem dX5_takeNewItem_29 : decode cX5_takeNewItem 29 = .ok (.iconst 0, 1) := by decide +kernel
theorem dX5_takeNewItem_30 : decode cX5_takeNewItem 30 = .ok (.iconst 2, 1) := by decide +kernel
theorem dX5_takeNewItem_31 : decode cX5_takeNewItem 31 = .ok (.invokevirtual 92, 3) := by decide +kernel
theorem dX5_takeNewItem_34 : decode cX5_takeNewItem 34 = .ok (.aload_n 0, 1) := by decide +kernel
theorem dX5_takeNewItem_35 : decode cX5_takeNewItem 35 = .ok (.aload_n 0, 1) := by decide +kernel
theorem dX5_takeNewItem_36 : decode cX5_takeNewItem 36 = .ok (.getfield 15, 3) := by decide +kernel
theorem dX5_takeNewItem_39 : decode cX5_takeNewItem 39 = .ok (.invokevirtual 165, 3) := by decide +kernel
theorem dX5_takeNewItem_42 : decode cX5_takeNewItem 42 = .ok (.bipush 40, 2) := by decide +kernel
theorem dX5_takeNewItem_44 : decode cX5_takeNewItem 44 = .ok (.if_icmp .lt 7, 3) := by decide +kernel
theorem dX5_takeNewItem_47 : decode cX5_takeNewItem 47 = .ok (.iconst 1, 1) := by decide +kernel
theorem dX5_takeNewItem_48 : decode cX5_takeNewItem 48 = .ok (.goto 4, 3) := by decide +kernel
theorem dX5_takeNewItem_51 : decode cX5_takeNewItem 51 = .ok (.iconst 0, 1) := by decide +kernel
theorem dX5_takeNewItem_52 : decode cX5_takeNewItem 52 = .ok (.iconst 4, 1) := by decide +kernel
theorem dX5_takeNewItem_53 : decode cX5_takeNewItem 53 = .ok (.invokevirtual 92, 3) := by decide +kernel
theorem dX5_takeNewItem_56 : decode cX5_takeNewItem 56 = .ok (.aload_n 0, 1) := by decide +kernel
theorem dX5_takeNewItem_57 : decode cX5_takeNewItem 57 = .ok (.dup, 1) := by decide +kernel
theorem dX5_takeNewItem_58 : decode cX5_takeNewItem 58 = .ok (.getfield 23, 3) := by decide +kernel
theorem dX5_takeNewItem_61 : decode cX5_takeNewItem 61 = .ok (.iconst 1, 1) := by decide +kernel
theorem dX5_takeNewItem_62 : decode cX5_takeNewItem 62 = .ok (.iadd, 1) := by decide +kernel
theorem dX5_takeNewItem_63 : decode cX5_takeNewItem 63 = .ok (.putfield 23, 3) := by decide +kernel
theorem dX5_takeNewItem_66 : decode cX5_takeNewItem 66 = .ok (.lload_n 1, 1) := by decide +kernel
theorem dX5_takeNewItem_67 : decode cX5_takeNewItem 67 = .ok (.lreturn, 1) := by decide +kernel
theorem dX5_takeNumberBehind_0 : decode cX5_takeNumberBehind 0 = .ok (.aload_n 0, 1) := by decide +kernel
theorem dX5_takeNumberBehind_1 : decode cX5_takeNumberBehind 1 = .ok (.aload_n 1, 1) := by decide +kernel
theorem dX5_takeNumberBehind_2 : decode cX5_takeNumberBehind 2 = .ok (.invokevirtual 38, 3) := by decide +kernel
theorem dX5_takeNumberBehind_5 : decode cX5_takeNumberBehind 5 = .ok (.ifCond .ne 5, 3) := by decide +kernel
theorem dX5_takeNumberBehind_8 : decode cX5_takeNumberBehind 8 = .ok (.iload_n 2, 1) := by decide +kernel
theorem dX5_takeNumberBehind_9 : decode cX5_takeNumberBehind 9 = .ok (.ireturn, 1) := by decide +kernel
theorem dX5_takeNumberBehind_10 : decode cX5_takeNumberBehind 10 = .ok (.aload_n 0, 1) := by decide +kernel
theorem dX5_takeNumberBehind_11 : decode cX5_takeNumberBehind 11 = .ok (.dup, 1) := by decide +kernel
theorem dX5_takeNumberBehind_12 : decode cX5_takeNumberBehind 12 = .ok (.getfield 23, 3) := by decide +kernel
theorem dX5_takeNumberBehind_15 : decode cX5_takeNumberBehind 15 = .ok (.iconst 1, 1) := by decide +kernel
theorem dX5_takeNumberBehind_16 : decode cX5_takeNumberBehind 16 = .ok (.iadd, 1) := by decide +kernel
theorem dX5_takeNumberBehind_17 : decode cX5_takeNumberBehind 17 = .ok (.putfield 23, 3) := by decide +kernel
theorem dX5_takeNumberBehind_20 : decode cX5_takeNumberBehind 20 = .ok (.aload_n 0, 1) := by decide +kernel
theorem dX5_takeNumberBehind_21 : decode cX5_takeNumberBehind 21 = .ok (.getfield 9, 3) := by decide +kernel
theorem dX5_takeNumberBehind_24 : decode cX5_takeNumberBehind 24 = .ok (.aload_n 0, 1) := by decide +kernel
theorem dX5_takeNumberBehind_25 : decode cX5_takeNumberBehind 25 = .ok (.getfield 23, 3) := by decide +kernel
theorem dX5_takeNumberBehind_28 : decode cX5_takeNumberBehind 28 = .ok (.invokevirtual 82, 3) := by decide +kernel
theorem dX5_takeNumberBehind_31 : decode cX5_takeNumberBehind 31 = .ok (.lstore 5, 2) := by decide +kernel
theorem dX5_takeNumberBehind_33 : decode cX5_takeNumberBehind 33 = .ok (.aload_n 0, 1) := by decide +kernel
theorem dX5_takeNumberBehind_34 : decode cX5_takeNumberBehind 34 = .ok (.lload 5, 2) := by decide +kernel
theorem dX5_takeNumberBehind_36 : decode cX5_takeNumberBehind 36 = .ok (.iload_n 3, 1) := by decide +kernel
theorem dX5_takeNumberBehind_37 : decode cX5_takeNumberBehind 37 = .ok (.i2l, 1) := by decide +kernel
theorem dX5_takeNumberBehind_38 : decode cX5_takeNumberBehind 38 = .ok (.lcmp, 1) := by decide +kernel
theorem dX5_takeNumberBehind_39 : decode cX5_takeNumberBehind 39 = .ok (.ifCond .lt 12, 3) := by decide +kernel
theorem dX5_takeNumberBehind_42 : decode cX5_takeNumberBehind 42 = .ok (.lload 5, 2) := by decide +kernel
theorem dX5_takeNumberBehind_44 : decode cX5_takeNumberBehind 44 = .ok (.iload 4, 2) := by decide +kernel
theorem dX5_takeNumberBehind_46 : decode cX5_takeNumberBehind 46 = .ok (.i2l, 1) := by decide +kernel
theorem dX5_takeNumberBehind_47 : decode cX5_takeNumberBehind 47 = .ok (.lcmp, 1) := by decide +kernel
theorem dX5_takeNumberBehind_48 : decode cX5_takeNumberBehind 48 = .ok (.ifCond .le 7, 3) := by decide +kernel
theorem dX5_takeNumberBehind_51 : decode cX5_takeNumberBehind 51 = .ok (.iconst 1, 1) := by decide +kernel
theorem dX5_takeNumberBehind_52 : decode cX5_takeNumberBehind 52 = .ok (.goto 4, 3) := by decide +kernel
theorem dX5_takeNumberBehind_55 : decode cX5_takeNumberBehind 55 = .ok (.iconst 0, 1) := by decide +kernel
theorem dX5_takeNumberBehind_56 : decode cX5_takeNumberBehind 56 = .ok (.iconst 5, 1) := by decide +kernel
theorem dX5_takeNumberBehind_57 : decode cX5_takeNumberBehind 57 = .ok (.invokevirtual 92, 3) := by decide +kernel
theorem dX5_takeNumberBehind_60 : decode cX5_takeNumberBehind 60 = .ok (.aload_n 0, 1) := by decide +kernel
theorem dX5_takeNumberBehind_61 : decode cX5_takeNumberBehind 61 = .ok (.dup, 1) := by decide +kernel
theorem dX5_takeNumberBehind_62 : decode cX5_takeNumberBehind 62 = .ok (.getfield 23, 3) := by decide +kernel
theorem dX5_takeNumberBehind_65 : decode cX5_takeNumberBehind 65 = .ok (.iconst 1, 1) := by decide +kernel
theorem dX5_takeNumberBehind_66 : decode cX5_takeNumberBehind 66 = .ok (.iadd, 1) := by decide +kernel
theorem dX5_takeNumberBehind_67 : decode cX5_takeNumberBehind 67 = .ok (.putfield 23, 3) := by decide +kernel
theorem dX5_takeNumberBehind_70 : decode cX5_takeNumberBehind 70 = .ok (.lload 5, 2) := by decide +kernel
theorem dX5_takeNumberBehind_72 : decode cX5_takeNumberBehind 72 = .ok (.l2i, 1) := by decide +kernel
theorem dX5_takeNumberBehind_73 : decode cX5_takeNumberBehind 73 = .ok (.ireturn, 1) := by decide +kernel
theorem dX5_takeSingle_0 : decode cX5_takeSingle 0 = .ok (.aload_n 0, 1) := by decide +kernel
theorem dX5_takeSingle_1 : decode cX5_takeSingle 1 = .ok (.getfield 9, 3) := by decide +kernel
theorem dX5_takeSingle_4 : decode cX5_takeSingle 4 = .ok (.aload_n 0, 1) := by decide +kernel
theorem dX5_takeSingle_5 : decode cX5_takeSingle 5 = .ok (.getfield 23, 3) := by decide +kernel
theorem dX5_takeSingle_8 : decode cX5_takeSingle 8 = .ok (.invokevirtual 42, 3) := by decide +kernel
theorem dX5_takeSingle_11 : decode cX5_takeSingle 11 = .ok (.astore_n 2, 1) := by decide +kernel
theorem dX5_takeSingle_12 : decode cX5_takeSingle 12 = .ok (.aload_n 0, 1) := by decide +kernel
theorem dX5_takeSingle_13 : decode cX5_takeSingle 13 = .ok (.dup, 1) := by decide +kernel
theorem dX5_takeSingle_14 : decode cX5_takeSingle 14 = .ok (.getfield 23, 3) := by decide +kernel
theorem dX5_takeSingle_17 : decode cX5_takeSingle 17 = .ok (.iconst 1, 1) := by decide +kernel
theorem dX5_takeSingle_18 : decode cX5_takeSingle 18 = .ok (.iadd, 1) := by decide +kernel
theorem dX5_takeSingle_19 : decode cX5_takeSingle 19 = .ok (.putfield 23, 3) := by decide +kernel
theorem dX5_takeSingle_22 : decode cX5_takeSingle 22 = .ok (.iload_n 1, 1) := by decide +kernel
theorem dX5_takeSingle_23 : decode cX5_takeSingle 23 = .ok (.bipush 6, 2) := by decide +kernel
theorem dX5_takeSingle_25 : decode cX5_takeSingle 25 = .ok (.if_icmp .ge 26, 3) := by decide +kernel
theorem dX5_takeSingle_28 : decode cX5_takeSingle 28 = .ok (.aload_n 2, 1) := by decide +kernel
theorem dX5_takeSingle_29 : decode cX5_takeSingle 29 = .ok (.getstatic 186, 3) := by decide +kernel
theorem dX5_takeSingle_32 : decode cX5_takeSingle 32 = .ok (.if_acmp .ne 19, 3) := by decide +kernel
theorem dX5_takeSingle_35 : decode cX5_takeSingle 35 = .ok (.aload_n 0, 1) := by decide +kernel
theorem dX5_takeSingle_36 : decode cX5_takeSingle 36 = .ok (.iload_n 1, 1) := by decide +kernel
theorem dX5_takeSingle_37 : decode cX5_takeSingle 37 = .ok (.iconst 1, 1) := by decide +kernel
theorem dX5_takeSingle_38 : decode cX5_takeSingle 38 = .ok (.iadd, 1) := by decide +kernel
theorem dX5_takeSingle_39 : decode cX5_takeSingle 39 = .ok (.invokevirtual 180, 3) := by decide +kernel
theorem dX5_takeSingle_42 : decode cX5_takeSingle 42 = .ok (.ifCond .ne 7, 3) := by decide +kernel
theorem dX5_takeSingle_45 : decode cX5_takeSingle 45 = .ok (.iconst 1, 1) := by decide +kernel
theorem dX5_takeSingle_46 : decode cX5_takeSingle 46 = .ok (.goto 4, 3) := by decide +kernel
theorem dX5_takeSingle_49 : decode cX5_takeSingle 49 = .ok (.iconst 0, 1) := by decide +kernel
theorem dX5_takeSingle_50 : decode cX5_takeSingle 50 = .ok (.ireturn, 1) := by decide +kernel
theorem dX5_takeSingle_51 : decode cX5_takeSingle 51 = .ok (.iload_n 1, 1) := by decide +kernel
theorem dX5_takeSingle_52 : decode cX5_takeSingle 52 = .ok (.bipush 6, 2) := by decide +kernel
theorem dX5_takeSingle_54 : decode cX5_takeSingle 54 = .ok (.if_icmp .ge 30, 3) := by decide +kernel
theorem dX5_takeSingle_57 : decode cX5_takeSingle 57 = .ok (.aload_n 2, 1) := by decide +kernel
theorem dX5_takeSingle_58 : decode cX5_takeSingle 58 = .ok (.getstatic 189, 3) := by decide +kernel
theorem dX5_takeSingle_61 : decode cX5_takeSingle 61 = .ok (.if_acmp .ne 23, 3) := by decide +kernel
theorem dX5_takeSingle_64 : decode cX5_takeSingle 64 = .ok (.aload_n 0, 1) := by decide +kernel
theorem dX5_takeSingle_65 : decode cX5_takeSingle 65 = .ok (.iload_n 1, 1) := by decide +kernel
theorem dX5_takeSingle_66 : decode cX5_takeSingle 66 = .ok (.iconst 1, 1) := by decide +kernel
theorem dX5_takeSingle_67 : decode cX5_takeSingle 67 = .ok (.iadd, 1) := by decide +kernel
theorem dX5_takeSingle_68 : decode cX5_takeSingle 68 = .ok (.invokevirtual 147, 3) := by decide +kernel
theorem dX5_takeSingle_71 : decode cX5_takeSingle 71 = .ok (.istore_n 3, 1) := by decide +kernel
theorem dX5_takeSingle_72 : decode cX5_takeSingle 72 = .ok (.aload_n 0, 1) := by decide +kernel
theorem dX5_takeSingle_73 : decode cX5_takeSingle 73 = .ok (.dup, 1) := by decide +kernel
theorem dX5_takeSingle_74 : decode cX5_takeSingle 74 = .ok (.getfield 23, 3) := by decide +kernel
theorem dX5_takeSingle_77 : decode cX5_takeSingle 77 = .ok (.iconst 1, 1) := by decide +kernel
theorem dX5_takeSingle_78 : decode cX5_takeSingle 78 = .ok (.iadd, 1) := by decide +kernel
theorem dX5_takeSingle_79 : decode cX5_takeSingle 79 = .ok (.putfield 23, 3) := by decide +kernel
theorem dX5_takeSingle_82 : decode cX5_takeSingle 82 = .ok (.iload_n 3, 1) := by decide +kernel
theorem dX5_takeSingle_83 : decode cX5_takeSingle 83 = .ok (.ireturn, 1) := by decide +kernel
theorem dX5_takeSingle_84 : decode cX5_takeSingle 84 = .ok (.aload_n 0, 1) := by decide +kernel
theorem dX5_takeSingle_85 : decode cX5_takeSingle 85 = .ok (.invokevirtual 126, 3) := by decide +kernel
theorem dX5_takeSingle_88 : decode cX5_takeSingle 88 = .ok (.istore_n 3, 1) := by decide +kernel
theorem dX5_takeSingle_89 : decode cX5_takeSingle 89 = .ok (.aload_n 0, 1) := by decide +kernel
theorem dX5_takeSingle_90 : decode cX5_takeSingle 90 = .ok (.dup, 1) := by decide +kernel
theorem dX5_takeSingle_91 : decode cX5_takeSingle 91 = .ok (.getfield 23, 3) := by decide +kernel
theorem dX5_takeSingle_94 : decode cX5_takeSingle 94 = .ok (.iconst 1, 1) := by decide +kernel
theorem dX5_takeSingle_95 : decode cX5_takeSingle 95 = .ok (.iadd, 1) := by decide +kernel
theorem dX5_takeSingle_96 : decode cX5_takeSingle 96 = .ok (.putfield 23, 3) := by decide +kernel
theorem dX5_takeSingle_99 : decode cX5_takeSingle 99 = .ok (.aload_n 2, 1) := by decide +kernel
theorem dX5_takeSingle_100 : decode cX5_takeSingle 100 = .ok (.getstatic 192, 3) := by decide +kernel
theorem dX5_takeSingle_103 : decode cX5_takeSingle 103 = .ok (.if_acmp .ne 14, 3) := by decide +kernel
theorem dX5_takeSingle_106 : decode cX5_takeSingle 106 = .ok (.aload_n 0, 1) := by decide +kernel
theorem dX5_takeSingle_107 : decode cX5_takeSingle 107 = .ok (.getfield 15, 3) := by decide +kernel
theorem dX5_takeSingle_110 : decode cX5_takeSingle 110 = .ok (.iload_n 3, 1) := by decide +kernel
theorem dX5_takeSingle_111 : decode cX5_takeSingle 111 = .ok (.invokevirtual 155, 3) := by decide +kernel
theorem dX5_takeSingle_114 : decode cX5_takeSingle 114 = .ok (.goto 20, 3) := by decide +kernel
theorem dX5_takeSingle_117 : decode cX5_takeSingle 117 = .ok (.aload_n 0, 1) := by decide +kernel
theorem dX5_takeSingle_118 : decode cX5_takeSingle 118 = .ok (.getfield 19, 3) := by decide +kernel
theorem dX5_takeSingle_121 : decode cX5_takeSingle 121 = .ok (.iload_n 3, 1) := by decide +kernel
theorem dX5_takeSingle_122 : decode cX5_takeSingle 122 = .ok (.invokevirtual 195, 3) := by decide +kernel
theorem dX5_takeSingle_125 : decode cX5_takeSingle 125 = .ok (.aload_n 2, 1) := by decide +kernel
theorem dX5_takeSingle_126 : decode cX5_takeSingle 126 = .ok (.if_acmp .ne 7, 3) := by decide +kernel
theorem dX5_takeSingle_129 : decode cX5_takeSingle 129 = .ok (.iconst 1, 1) := by decide +kernel
theorem dX5_takeSingle_130 : decode cX5_takeSingle 130 = .ok (.goto 4, 3) := by decide +kernel
theorem dX5_takeSingle_133 : decode cX5_takeSingle 133 = .ok (.iconst 0, 1) := by decide +kernel
theorem dX5_takeSingle_134 : decode cX5_takeSingle 134 = .ok (.ireturn, 1) := by decide +kernel
theorem dX5_takeTest_0 : decode cX5_takeTest 0 = .ok (.aload_n 0, 1) := by decide +kernel
theorem dX5_takeTest_1 : decode cX5_takeTest 1 = .ok (.iload_n 1, 1) := by decide +kernel
theorem dX5_takeTest_2 : decode cX5_takeTest 2 = .ok (.invokevirtual 174, 3) := by decide +kernel
theorem dX5_takeTest_5 : decode cX5_takeTest 5 = .ok (.istore_n 2, 1) := by decide +kernel
theorem dX5_takeTest_6 : decode cX5_takeTest 6 = .ok (.iconst 0, 1) := by decide +kernel
theorem dX5_takeTest_7 : decode cX5_takeTest 7 = .ok (.istore_n 3, 1) := by decide +kernel
theorem dX5_takeTest_8 : decode cX5_takeTest 8 = .ok (.iload_n 3, 1) := by decide +kernel
theorem dX5_takeTest_9 : decode cX5_takeTest 9 = .ok (.sipush 400, 3) := by decide +kernel
theorem dX5_takeTest_12 : decode cX5_takeTest 12 = .ok (.if_icmp .ge 37, 3) := by decide +kernel
theorem dX5_takeTest_15 : decode cX5_takeTest 15 = .ok (.aload_n 0, 1) := by decide +kernel
theorem dX5_takeTest_16 : decode cX5_takeTest 16 = .ok (.getstatic 177, 3) := by decide +kernel
theorem dX5_takeTest_19 : decode cX5_takeTest 19 = .ok (.invokevirtual 38, 3) := by decide +kernel
theorem dX5_takeTest_22 : decode cX5_takeTest 22 = .ok (.ifCond .eq 27, 3) := by decide +kernel
theorem dX5_takeTest_25 : decode cX5_takeTest 25 = .ok (.aload_n 0, 1) := by decide +kernel
theorem dX5_takeTest_26 : decode cX5_takeTest 26 = .ok (.dup, 1) := by decide +kernel
theorem dX5_takeTest_27 : decode cX5_takeTest 27 = .ok (.getfield 23, 3) := by decide +kernel
theorem dX5_takeTest_30 : decode cX5_takeTest 30 = .ok (.iconst 1, 1) := by decide +kernel
theorem dX5_takeTest_31 : decode cX5_takeTest 31 = .ok (.iadd, 1) := by decide +kernel
theorem dX5_takeTest_32 : decode cX5_takeTest 32 = .ok (.putfield 23, 3) := by decide +kernel
theorem dX5_takeTest_35 : decode cX5_takeTest 35 = .ok (.iload_n 2, 1) := by decide +kernel
theorem dX5_takeTest_36 : decode cX5_takeTest 36 = .ok (.aload_n 0, 1) := by decide +kernel
theorem dX5_takeTest_37 : decode cX5_takeTest 37 = .ok (.iload_n 1, 1) := by decide +kernel
theorem dX5_takeTest_38 : decode cX5_takeTest 38 = .ok (.invokevirtual 174, 3) := by decide +kernel
theorem dX5_takeTest_41 : decode cX5_takeTest 41 = .ok (.ior, 1) := by decide +kernel
theorem dX5_takeTest_42 : decode cX5_takeTest 42 = .ok (.istore_n 2, 1) := by decide +kernel
theorem dX5_takeTest_43 : decode cX5_takeTest 43 = .ok (.iinc 3 1, 3) := by decide +kernel
theorem dX5_takeTest_46 : decode cX5_takeTest 46 = .ok (.goto (-38), 3) := by decide +kernel
theorem dX5_takeTest_49 : decode cX5_takeTest 49 = .ok (.iload_n 2, 1) := by decide +kernel
theorem dX5_takeTest_50 : decode cX5_takeTest 50 = .ok (.ireturn, 1) := by decide +kernel
theorem dX5_takeTime_0 : decode cX5_takeTime 0 = .ok (.aload_n 0, 1) := by decide +kernel
theorem dX5_takeTime_1 : decode cX5_takeTime 1 = .ok (.aload_n 0, 1) := by decide +kernel
theorem dX5_takeTime_2 : decode cX5_takeTime 2 = .ok (.getfield 15, 3) := by decide +kernel
theorem dX5_takeTime_5 : decode cX5_takeTime 5 = .ok (.iload_n 1, 1) := by decide +kernel
theorem dX5_takeTime_6 : decode cX5_takeTime 6 = .ok (.invokevirtual 168, 3) := by decide +kernel
theorem dX5_takeTime_9 : decode cX5_takeTime 9 = .ok (.iload_n 2, 1) := by decide +kernel
theorem dX5_takeTime_10 : decode cX5_takeTime 10 = .ok (.if_icmp .ge 7, 3) := by decide +kernel
theorem dX5_takeTime_13 : decode cX5_takeTime 13 = .ok (.iconst 1, 1) := by decide +kernel
theorem dX5_takeTime_14 : decode cX5_takeTime 14 = .ok (.goto 4, 3) := by decide +kernel
theorem dX5_takeTime_17 : decode cX5_takeTime 17 = .ok (.iconst 0, 1) := by decide +kernel
theorem dX5_takeTime_18 : decode cX5_takeTime 18 = .ok (.bipush 7, 2) := by decide +kernel
theorem dX5_takeTime_20 : decode cX5_takeTime 20 = .ok (.invokevirtual 92, 3) := by decide +kernel
theorem dX5_takeTime_23 : decode cX5_takeTime 23 = .ok (.aload_n 0, 1) := by decide +kernel
theorem dX5_takeTime_24 : decode cX5_takeTime 24 = .ok (.getfield 27, 3) := by decide +kernel
theorem dX5_takeTime_27 : decode cX5_takeTime 27 = .ok (.ifCond .ne 13, 3) := by decide +kernel
theorem dX5_takeTime_30 : decode cX5_takeTime 30 = .ok (.aload_n 0, 1) := by decide +kernel
theorem dX5_takeTime_31 : decode cX5_takeTime 31 = .ok (.getfield 15, 3) := by decide +kernel
theorem dX5_takeTime_34 : decode cX5_takeTime 34 = .ok (.iload_n 1, 1) := by decide +kernel
theorem dX5_takeTime_35 : decode cX5_takeTime 35 = .ok (.iload_n 2, 1) := by decide +kernel
theorem dX5_takeTime_36 : decode cX5_takeTime 36 = .ok (.ineg, 1) := by decide +kernel
theorem dX5_takeTime_37 : decode cX5_takeTime 37 = .ok (.invokevirtual 171, 3) := by decide +kernel
theorem dX5_takeTime_40 : decode cX5_takeTime 40 = .ok (.return_, 1) := by decide +kernel
theorem dX5_tellClaim_0 : decode cX5_tellClaim 0 = .ok (.aload_n 0, 1) := by decide +kernel
theorem dX5_tellClaim_1 : decode cX5_tellClaim 1 = .ok (.invokevirtual 111, 3) := by decide +kernel
theorem dX5_tellClaim_4 : decode cX5_tellClaim 4 = .ok (.lstore_n 1, 1) := by decide +kernel
theorem dX5_tellClaim_5 : decode cX5_tellClaim 5 = .ok (.aload_n 0, 1) := by decide +kernel
theorem dX5_tellClaim_6 : decode cX5_tellClaim 6 = .ok (.dup, 1) := by decide +kernel
theorem dX5_tellClaim_7 : decode cX5_tellClaim 7 = .ok (.getfield 23, 3) := by decide +kernel
theorem dX5_tellClaim_10 : decode cX5_tellClaim 10 = .ok (.iconst 1, 1) := by decide +kernel
theorem dX5_tellClaim_11 : decode cX5_tellClaim 11 = .ok (.iadd, 1) := by decide +kernel
theorem dX5_tellClaim_12 : decode cX5_tellClaim 12 = .ok (.putfield 23, 3) := by decide +kernel
theorem dX5_tellClaim_15 : decode cX5_tellClaim 15 = .ok (.aload_n 0, 1) := by decide +kernel
theorem dX5_tellClaim_16 : decode cX5_tellClaim 16 = .ok (.getfield 15, 3) := by decide +kernel
theorem dX5_tellClaim_19 : decode cX5_tellClaim 19 = .ok (.aload_n 0, 1) := by decide +kernel
theorem dX5_tellClaim_20 : decode cX5_tellClaim 20 = .ok (.getfield 9, 3) := by decide +kernel
theorem dX5_tellClaim_23 : decode cX5_tellClaim 23 = .ok (.aload_n 0, 1) := by decide +kernel
theorem dX5_tellClaim_24 : decode cX5_tellClaim 24 = .ok (.getfield 23, 3) := by decide +kernel
theorem dX5_tellClaim_27 : decode cX5_tellClaim 27 = .ok (.invokevirtual 82, 3) := by decide +kernel
theorem dX5_tellClaim_30 : decode cX5_tellClaim 30 = .ok (.invokevirtual 86, 3) := by decide +kernel
theorem dX5_tellClaim_33 : decode cX5_tellClaim 33 = .ok (.istore_n 3, 1) := by decide +kernel
theorem dX5_tellClaim_34 : decode cX5_tellClaim 34 = .ok (.aload_n 0, 1) := by decide +kernel
theorem dX5_tellClaim_35 : decode cX5_tellClaim 35 = .ok (.iload_n 3, 1) := by decide +kernel
theorem dX5_tellClaim_36 : decode cX5_tellClaim 36 = .ok (.iconst (-1), 1) := by decide +kernel
theorem dX5_tellClaim_37 : decode cX5_tellClaim 37 = .ok (.if_icmp .ne 7, 3) := by decide +kernel
theorem dX5_tellClaim_40 : decode cX5_tellClaim 40 = .ok (.iconst 1, 1) := by decide +kernel
theorem dX5_tellClaim_41 : decode cX5_tellClaim 41 = .ok (.goto 4, 3) := by decide +kernel
theorem dX5_tellClaim_44 : decode cX5_tellClaim 44 = .ok (.iconst 0, 1) := by decide +kernel
theorem dX5_tellClaim_45 : decode cX5_tellClaim 45 = .ok (.iconst 3, 1) := by decide +kernel
theorem dX5_tellClaim_46 : decode cX5_tellClaim 46 = .ok (.invokevirtual 92, 3) := by decide +kernel
theorem dX5_tellClaim_49 : decode cX5_tellClaim 49 = .ok (.aload_n 0, 1) := by decide +kernel
theorem dX5_tellClaim_50 : decode cX5_tellClaim 50 = .ok (.dup, 1) := by decide +kernel
theorem dX5_tellClaim_51 : decode cX5_tellClaim 51 = .ok (.getfield 23, 3) := by decide +kernel
theorem dX5_tellClaim_54 : decode cX5_tellClaim 54 = .ok (.iconst 1, 1) := by decide +kernel
theorem dX5_tellClaim_55 : decode cX5_tellClaim 55 = .ok (.iadd, 1) := by decide +kernel
theorem dX5_tellClaim_56 : decode cX5_tellClaim 56 = .ok (.putfield 23, 3) := by decide +kernel
theorem dX5_tellClaim_59 : decode cX5_tellClaim 59 = .ok (.aload_n 0, 1) := by decide +kernel
theorem dX5_tellClaim_60 : decode cX5_tellClaim 60 = .ok (.getstatic 115, 3) := by decide +kernel
theorem dX5_tellClaim_63 : decode cX5_tellClaim 63 = .ok (.bipush 10, 2) := by decide +kernel
theorem dX5_tellClaim_65 : decode cX5_tellClaim 65 = .ok (.iconst 1, 1) := by decide +kernel
theorem dX5_tellClaim_66 : decode cX5_tellClaim 66 = .ok (.bipush 50, 2) := by decide +kernel
theorem dX5_tellClaim_68 : decode cX5_tellClaim 68 = .ok (.invokevirtual 103, 3) := by decide +kernel
theorem dX5_tellClaim_71 : decode cX5_tellClaim 71 = .ok (.istore 4, 2) := by decide +kernel
theorem dX5_tellClaim_73 : decode cX5_tellClaim 73 = .ok (.aload_n 0, 1) := by decide +kernel
theorem dX5_tellClaim_74 : decode cX5_tellClaim 74 = .ok (.iload_n 3, 1) := by decide +kernel
theorem dX5_tellClaim_75 : decode cX5_tellClaim 75 = .ok (.bipush 10, 2) := by decide +kernel
theorem dX5_tellClaim_77 : decode cX5_tellClaim 77 = .ok (.iload 4, 2) := by decide +kernel
theorem dX5_tellClaim_79 : decode cX5_tellClaim 79 = .ok (.iadd, 1) := by decide +kernel
theorem dX5_tellClaim_80 : decode cX5_tellClaim 80 = .ok (.invokevirtual 118, 3) := by decide +kernel
theorem dX5_tellClaim_83 : decode cX5_tellClaim 83 = .ok (.aload_n 0, 1) := by decide +kernel
theorem dX5_tellClaim_84 : decode cX5_tellClaim 84 = .ok (.getfield 27, 3) := by decide +kernel
theorem dX5_tellClaim_87 : decode cX5_tellClaim 87 = .ok (.ifCond .ne 14, 3) := by decide +kernel
theorem dX5_tellClaim_90 : decode cX5_tellClaim 90 = .ok (.aload_n 0, 1) := by decide +kernel
theorem dX5_tellClaim_91 : decode cX5_tellClaim 91 = .ok (.getfield 15, 3) := by decide +kernel
theorem dX5_tellClaim_94 : decode cX5_tellClaim 94 = .ok (.lload_n 1, 1) := by decide +kernel
theorem dX5_tellClaim_95 : decode cX5_tellClaim 95 = .ok (.iload_n 3, 1) := by decide +kernel
theorem dX5_tellClaim_96 : decode cX5_tellClaim 96 = .ok (.iload 4, 2) := by decide +kernel
theorem dX5_tellClaim_98 : decode cX5_tellClaim 98 = .ok (.invokevirtual 122, 3) := by decide +kernel
theorem dX5_tellClaim_101 : decode cX5_tellClaim 101 = .ok (.return_, 1) := by decide +kernel
theorem dX5_tellConceded_0 : decode cX5_tellConceded 0 = .ok (.aload_n 0, 1) := by decide +kernel
theorem dX5_tellConceded_1 : decode cX5_tellConceded 1 = .ok (.invokevirtual 126, 3) := by decide +kernel
theorem dX5_tellConceded_4 : decode cX5_tellConceded 4 = .ok (.istore_n 2, 1) := by decide +kernel
theorem dX5_tellConceded_5 : decode cX5_tellConceded 5 = .ok (.aload_n 0, 1) := by decide +kernel
theorem dX5_tellConceded_6 : decode cX5_tellConceded 6 = .ok (.aload_n 0, 1) := by decide +kernel
theorem dX5_tellConceded_7 : decode cX5_tellConceded 7 = .ok (.getfield 15, 3) := by decide +kernel
theorem dX5_tellConceded_10 : decode cX5_tellConceded 10 = .ok (.iload_n 2, 1) := by decide +kernel
theorem dX5_tellConceded_11 : decode cX5_tellConceded 11 = .ok (.invokevirtual 155, 3) := by decide +kernel
theorem dX5_tellConceded_14 : decode cX5_tellConceded 14 = .ok (.iload_n 1, 1) := by decide +kernel
theorem dX5_tellConceded_15 : decode cX5_tellConceded 15 = .ok (.if_icmp .ne 7, 3) := by decide +kernel
theorem dX5_tellConceded_18 : decode cX5_tellConceded 18 = .ok (.iconst 1, 1) := by decide +kernel
theorem dX5_tellConceded_19 : decode cX5_tellConceded 19 = .ok (.goto 4, 3) := by decide +kernel
theorem dX5_tellConceded_22 : decode cX5_tellConceded 22 = .ok (.iconst 0, 1) := by decide +kernel
theorem dX5_tellConceded_23 : decode cX5_tellConceded 23 = .ok (.bipush 6, 2) := by decide +kernel
theorem dX5_tellConceded_25 : decode cX5_tellConceded 25 = .ok (.invokevirtual 92, 3) := by decide +kernel
theorem dX5_tellConceded_28 : decode cX5_tellConceded 28 = .ok (.aload_n 0, 1) := by decide +kernel
theorem dX5_tellConceded_29 : decode cX5_tellConceded 29 = .ok (.dup, 1) := by decide +kernel
theorem dX5_tellConceded_30 : decode cX5_tellConceded 30 = .ok (.getfield 23, 3) := by decide +kernel
theorem dX5_tellConceded_33 : decode cX5_tellConceded 33 = .ok (.iconst 1, 1) := by decide +kernel
theorem dX5_tellConceded_34 : decode cX5_tellConceded 34 = .ok (.iadd, 1) := by decide +kernel
theorem dX5_tellConceded_35 : decode cX5_tellConceded 35 = .ok (.putfield 23, 3) := by decide +kernel
theorem dX5_tellConceded_38 : decode cX5_tellConceded 38 = .ok (.aload_n 0, 1) := by decide +kernel
theorem dX5_tellConceded_39 : decode cX5_tellConceded 39 = .ok (.aload_n 0, 1) := by decide +kernel
theorem dX5_tellConceded_40 : decode cX5_tellConceded 40 = .ok (.getfield 15, 3) := by decide +kernel
theorem dX5_tellConceded_43 : decode cX5_tellConceded 43 = .ok (.iload_n 2, 1) := by decide +kernel
theorem dX5_tellConceded_44 : decode cX5_tellConceded 44 = .ok (.invokevirtual 132, 3) := by decide +kernel
theorem dX5_tellConceded_47 : decode cX5_tellConceded 47 = .ok (.iconst 2, 1) := by decide +kernel
theorem dX5_tellConceded_48 : decode cX5_tellConceded 48 = .ok (.invokevirtual 118, 3) := by decide +kernel
theorem dX5_tellConceded_51 : decode cX5_tellConceded 51 = .ok (.aload_n 0, 1) := by decide +kernel
theorem dX5_tellConceded_52 : decode cX5_tellConceded 52 = .ok (.getfield 27, 3) := by decide +kernel
theorem dX5_tellConceded_55 : decode cX5_tellConceded 55 = .ok (.ifCond .ne 12, 3) := by decide +kernel
theorem dX5_tellConceded_58 : decode cX5_tellConceded 58 = .ok (.aload_n 0, 1) := by decide +kernel
theorem dX5_tellConceded_59 : decode cX5_tellConceded 59 = .ok (.getfield 15, 3) := by decide +kernel
theorem dX5_tellConceded_62 : decode cX5_tellConceded 62 = .ok (.iload_n 2, 1) := by decide +kernel
theorem dX5_tellConceded_63 : decode cX5_tellConceded 63 = .ok (.iload_n 1, 1) := by decide +kernel
theorem dX5_tellConceded_64 : decode cX5_tellConceded 64 = .ok (.invokevirtual 158, 3) := by decide +kernel
theorem dX5_tellConceded_67 : decode cX5_tellConceded 67 = .ok (.return_, 1) := by decide +kernel
theorem dX5_tellMove_0 : decode cX5_tellMove 0 = .ok (.aload_n 0, 1) := by decide +kernel
theorem dX5_tellMove_1 : decode cX5_tellMove 1 = .ok (.invokevirtual 111, 3) := by decide +kernel
theorem dX5_tellMove_4 : decode cX5_tellMove 4 = .ok (.lstore_n 2, 1) := by decide +kernel
theorem dX5_tellMove_5 : decode cX5_tellMove 5 = .ok (.aload_n 0, 1) := by decide +kernel
theorem dX5_tellMove_6 : decode cX5_tellMove 6 = .ok (.dup, 1) := by decide +kernel
theorem dX5_tellMove_7 : decode cX5_tellMove 7 = .ok (.getfield 23, 3) := by decide +kernel
theorem dX5_tellMove_10 : decode cX5_tellMove 10 = .ok (.iconst 1, 1) := by decide +kernel
theorem dX5_tellMove_11 : decode cX5_tellMove 11 = .ok (.iadd, 1) := by decide +kernel
theorem dX5_tellMove_12 : decode cX5_tellMove 12 = .ok (.putfield 23, 3) := by decide +kernel
theorem dX5_tellMove_15 : decode cX5_tellMove 15 = .ok (.aload_n 0, 1) := by decide +kernel
theorem dX5_tellMove_16 : decode cX5_tellMove 16 = .ok (.invokevirtual 126, 3) := by decide +kernel
theorem dX5_tellMove_19 : decode cX5_tellMove 19 = .ok (.istore 4, 2) := by decide +kernel
theorem dX5_tellMove_21 : decode cX5_tellMove 21 = .ok (.aload_n 0, 1) := by decide +kernel
theorem dX5_tellMove_22 : decode cX5_tellMove 22 = .ok (.aload_n 0, 1) := by decide +kernel
theorem dX5_tellMove_23 : decode cX5_tellMove 23 = .ok (.getfield 15, 3) := by decide +kernel
theorem dX5_tellMove_26 : decode cX5_tellMove 26 = .ok (.iload 4, 2) := by decide +kernel
theorem dX5_tellMove_28 : decode cX5_tellMove 28 = .ok (.invokevirtual 129, 3) := by decide +kernel
theorem dX5_tellMove_31 : decode cX5_tellMove 31 = .ok (.ifCond .eq 7, 3) := by decide +kernel
theorem dX5_tellMove_34 : decode cX5_tellMove 34 = .ok (.iconst 1, 1) := by decide +kernel
theorem dX5_tellMove_35 : decode cX5_tellMove 35 = .ok (.goto 4, 3) := by decide +kernel
theorem dX5_tellMove_38 : decode cX5_tellMove 38 = .ok (.iconst 0, 1) := by decide +kernel
theorem dX5_tellMove_39 : decode cX5_tellMove 39 = .ok (.iconst 3, 1) := by decide +kernel
theorem dX5_tellMove_40 : decode cX5_tellMove 40 = .ok (.invokevirtual 92, 3) := by decide +kernel
theorem dX5_tellMove_43 : decode cX5_tellMove 43 = .ok (.aload_n 0, 1) := by decide +kernel
theorem dX5_tellMove_44 : decode cX5_tellMove 44 = .ok (.getfield 15, 3) := by decide +kernel
theorem dX5_tellMove_47 : decode cX5_tellMove 47 = .ok (.iload 4, 2) := by decide +kernel
theorem dX5_tellMove_49 : decode cX5_tellMove 49 = .ok (.invokevirtual 132, 3) := by decide +kernel
theorem dX5_tellMove_52 : decode cX5_tellMove 52 = .ok (.istore 5, 2) := by decide +kernel
theorem dX5_tellMove_54 : decode cX5_tellMove 54 = .ok (.aload_n 0, 1) := by decide +kernel
theorem dX5_tellMove_55 : decode cX5_tellMove 55 = .ok (.dup, 1) := by decide +kernel
theorem dX5_tellMove_56 : decode cX5_tellMove 56 = .ok (.getfield 23, 3) := by decide +kernel
theorem dX5_tellMove_59 : decode cX5_tellMove 59 = .ok (.iconst 2, 1) := by decide +kernel
theorem dX5_tellMove_60 : decode cX5_tellMove 60 = .ok (.iadd, 1) := by decide +kernel
theorem dX5_tellMove_61 : decode cX5_tellMove 61 = .ok (.putfield 23, 3) := by decide +kernel
theorem dX5_tellMove_64 : decode cX5_tellMove 64 = .ok (.aload_n 0, 1) := by decide +kernel
theorem dX5_tellMove_65 : decode cX5_tellMove 65 = .ok (.invokevirtual 126, 3) := by decide +kernel
theorem dX5_tellMove_68 : decode cX5_tellMove 68 = .ok (.istore 6, 2) := by decide +kernel
theorem dX5_tellMove_70 : decode cX5_tellMove 70 = .ok (.aload_n 0, 1) := by decide +kernel
theorem dX5_tellMove_71 : decode cX5_tellMove 71 = .ok (.iload_n 1, 1) := by decide +kernel
theorem dX5_tellMove_72 : decode cX5_tellMove 72 = .ok (.iconst 1, 1) := by decide +kernel
theorem dX5_tellMove_73 : decode cX5_tellMove 73 = .ok (.if_icmp .ne 21, 3) := by decide +kernel
theorem dX5_tellMove_76 : decode cX5_tellMove 76 = .ok (.aload_n 0, 1) := by decide +kernel
theorem dX5_tellMove_77 : decode cX5_tellMove 77 = .ok (.getfield 15, 3) := by decide +kernel
theorem dX5_tellMove_80 : decode cX5_tellMove 80 = .ok (.iload 6, 2) := by decide +kernel
theorem dX5_tellMove_82 : decode cX5_tellMove 82 = .ok (.invokevirtual 132, 3) := by decide +kernel
theorem dX5_tellMove_85 : decode cX5_tellMove 85 = .ok (.iload 5, 2) := by decide +kernel
theorem dX5_tellMove_87 : decode cX5_tellMove 87 = .ok (.if_icmp .ne 7, 3) := by decide +kernel
theorem dX5_tellMove_90 : decode cX5_tellMove 90 = .ok (.iconst 1, 1) := by decide +kernel
theorem dX5_tellMove_91 : decode cX5_tellMove 91 = .ok (.goto 4, 3) := by decide +kernel
theorem dX5_tellMove_94 : decode cX5_tellMove 94 = .ok (.iconst 0, 1) := by decide +kernel
theorem dX5_tellMove_95 : decode cX5_tellMove 95 = .ok (.bipush 6, 2) := by decide +kernel
theorem dX5_tellMove_97 : decode cX5_tellMove 97 = .ok (.invokevirtual 92, 3) := by decide +kernel
theorem dX5_tellMove_100 : decode cX5_tellMove 100 = .ok (.aload_n 0, 1) := by decide +kernel
theorem dX5_tellMove_101 : decode cX5_tellMove 101 = .ok (.dup, 1) := by decide +kernel
theorem dX5_tellMove_102 : decode cX5_tellMove 102 = .ok (.getfield 23, 3) := by decide +kernel
theorem dX5_tellMove_105 : decode cX5_tellMove 105 = .ok (.iconst 1, 1) := by decide +kernel
theorem dX5_tellMove_106 : decode cX5_tellMove 106 = .ok (.iadd, 1) := by decide +kernel
theorem dX5_tellMove_107 : decode cX5_tellMove 107 = .ok (.putfield 23, 3) := by decide +kernel
theorem dX5_tellMove_110 : decode cX5_tellMove 110 = .ok (.aload_n 0, 1) := by decide +kernel
theorem dX5_tellMove_111 : decode cX5_tellMove 111 = .ok (.getstatic 135, 3) := by decide +kernel
theorem dX5_tellMove_114 : decode cX5_tellMove 114 = .ok (.iconst 5, 1) := by decide +kernel
theorem dX5_tellMove_115 : decode cX5_tellMove 115 = .ok (.iconst 1, 1) := by decide +kernel
theorem dX5_tellMove_116 : decode cX5_tellMove 116 = .ok (.bipush 50, 2) := by decide +kernel
theorem dX5_tellMove_118 : decode cX5_tellMove 118 = .ok (.invokevirtual 103, 3) := by decide +kernel
theorem dX5_tellMove_121 : decode cX5_tellMove 121 = .ok (.istore 7, 2) := by decide +kernel
theorem dX5_tellMove_123 : decode cX5_tellMove 123 = .ok (.iconst 1, 1) := by decide +kernel
theorem dX5_tellMove_124 : decode cX5_tellMove 124 = .ok (.istore 8, 2) := by decide +kernel
theorem dX5_tellMove_126 : decode cX5_tellMove 126 = .ok (.aload_n 0, 1) := by decide +kernel
theorem dX5_tellMove_127 : decode cX5_tellMove 127 = .ok (.getstatic 138, 3) := by decide +kernel
theorem dX5_tellMove_130 : decode cX5_tellMove 130 = .ok (.invokevirtual 38, 3) := by decide +kernel
theorem dX5_tellMove_133 : decode cX5_tellMove 133 = .ok (.ifCond .eq 29, 3) := by decide +kernel
theorem dX5_tellMove_136 : decode cX5_tellMove 136 = .ok (.aload_n 0, 1) := by decide +kernel
theorem dX5_tellMove_137 : decode cX5_tellMove 137 = .ok (.dup, 1) := by decide +kernel
theorem dX5_tellMove_138 : decode cX5_tellMove 138 = .ok (.getfield 23, 3) := by decide +kernel
theorem dX5_tellMove_141 : decode cX5_tellMove 141 = .ok (.iconst 1, 1) := by decide +kernel
theorem dX5_tellMove_142 : decode cX5_tellMove 142 = .ok (.iadd, 1) := by decide +kernel
theorem dX5_tellMove_143 : decode cX5_tellMove 143 = .ok (.putfield 23, 3) := by decide +kernel
theorem dX5_tellMove_146 : decode cX5_tellMove 146 = .ok (.aload_n 0, 1) := by decide +kernel
theorem dX5_tellMove_147 : decode cX5_tellMove 147 = .ok (.getfield 19, 3) := by decide +kernel
theorem dX5_tellMove_150 : decode cX5_tellMove 150 = .ok (.lconst 0, 1) := by decide +kernel
theorem dX5_tellMove_151 : decode cX5_tellMove 151 = .ok (.lconst 0, 1) := by decide +kernel
theorem dX5_tellMove_152 : decode cX5_tellMove 152 = .ok (.invokevirtual 141, 3) := by decide +kernel
theorem dX5_tellMove_155 : decode cX5_tellMove 155 = .ok (.aload_n 0, 1) := by decide +kernel
theorem dX5_tellMove_156 : decode cX5_tellMove 156 = .ok (.iconst 0, 1) := by decide +kernel
theorem dX5_tellMove_157 : decode cX5_tellMove 157 = .ok (.invokevirtual 147, 3) := by decide +kernel
theorem dX5_tellMove_160 : decode cX5_tellMove 160 = .ok (.istore 8, 2) := by decide +kernel
theorem dX5_tellMove_162 : decode cX5_tellMove 162 = .ok (.aload_n 0, 1) := by decide +kernel
theorem dX5_tellMove_163 : decode cX5_tellMove 163 = .ok (.iload 5, 2) := by decide +kernel
theorem dX5_tellMove_165 : decode cX5_tellMove 165 = .ok (.iconst 5, 1) := by decide +kernel
theorem dX5_tellMove_166 : decode cX5_tellMove 166 = .ok (.iload 7, 2) := by decide +kernel
theorem dX5_tellMove_168 : decode cX5_tellMove 168 = .ok (.iadd, 1) := by decide +kernel
theorem dX5_tellMove_169 : decode cX5_tellMove 169 = .ok (.invokevirtual 118, 3) := by decide +kernel
theorem dX5_tellMove_172 : decode cX5_tellMove 172 = .ok (.aload_n 0, 1) := by decide +kernel
theorem dX5_tellMove_173 : decode cX5_tellMove 173 = .ok (.getfield 27, 3) := by decide +kernel
theorem dX5_tellMove_176 : decode cX5_tellMove 176 = .ok (.ifCond .ne 23, 3) := by decide +kernel
theorem dX5_tellMove_179 : decode cX5_tellMove 179 = .ok (.iload 8, 2) := by decide +kernel
theorem dX5_tellMove_181 : decode cX5_tellMove 181 = .ok (.ifCond .eq 18, 3) := by decide +kernel
theorem dX5_tellMove_184 : decode cX5_tellMove 184 = .ok (.aload_n 0, 1) := by decide +kernel
theorem dX5_tellMove_185 : decode cX5_tellMove 185 = .ok (.getfield 15, 3) := by decide +kernel
theorem dX5_tellMove_188 : decode cX5_tellMove 188 = .ok (.lload_n 2, 1) := by decide +kernel
theorem dX5_tellMove_189 : decode cX5_tellMove 189 = .ok (.iload_n 1, 1) := by decide +kernel
theorem dX5_tellMove_190 : decode cX5_tellMove 190 = .ok (.iload 4, 2) := by decide +kernel
theorem dX5_tellMove_192 : decode cX5_tellMove 192 = .ok (.iload 6, 2) := by decide +kernel
theorem dX5_tellMove_194 : decode cX5_tellMove 194 = .ok (.iload 7, 2) := by decide +kernel
theorem dX5_tellMove_196 : decode cX5_tellMove 196 = .ok (.invokevirtual 151, 3) := by decide +kernel
theorem dX5_tellMove_199 : decode cX5_tellMove 199 = .ok (.return_, 1) := by decide +kernel
theorem dX5_tellSpeaker_0 : decode cX5_tellSpeaker 0 = .ok (.aload_n 0, 1) := by decide +kernel
theorem dX5_tellSpeaker_1 : decode cX5_tellSpeaker 1 = .ok (.getfield 9, 3) := by decide +kernel
theorem dX5_tellSpeaker_4 : decode cX5_tellSpeaker 4 = .ok (.aload_n 0, 1) := by decide +kernel
theorem dX5_tellSpeaker_5 : decode cX5_tellSpeaker 5 = .ok (.getfield 23, 3) := by decide +kernel
theorem dX5_tellSpeaker_8 : decode cX5_tellSpeaker 8 = .ok (.invokevirtual 82, 3) := by decide +kernel
theorem dX5_tellSpeaker_11 : decode cX5_tellSpeaker 11 = .ok (.lstore_n 1, 1) := by decide +kernel
theorem dX5_tellSpeaker_12 : decode cX5_tellSpeaker 12 = .ok (.aload_n 0, 1) := by decide +kernel
theorem dX5_tellSpeaker_13 : decode cX5_tellSpeaker 13 = .ok (.aload_n 0, 1) := by decide +kernel
theorem dX5_tellSpeaker_14 : decode cX5_tellSpeaker 14 = .ok (.getfield 15, 3) := by decide +kernel
theorem dX5_tellSpeaker_17 : decode cX5_tellSpeaker 17 = .ok (.lload_n 1, 1) := by decide +kernel
theorem dX5_tellSpeaker_18 : decode cX5_tellSpeaker 18 = .ok (.invokevirtual 86, 3) := by decide +kernel
theorem dX5_tellSpeaker_21 : decode cX5_tellSpeaker 21 = .ok (.iconst (-1), 1) := by decide +kernel
theorem dX5_tellSpeaker_22 : decode cX5_tellSpeaker 22 = .ok (.if_icmp .eq 7, 3) := by decide +kernel
theorem dX5_tellSpeaker_25 : decode cX5_tellSpeaker 25 = .ok (.iconst 1, 1) := by decide +kernel
theorem dX5_tellSpeaker_26 : decode cX5_tellSpeaker 26 = .ok (.goto 4, 3) := by decide +kernel
theorem dX5_tellSpeaker_29 : decode cX5_tellSpeaker 29 = .ok (.iconst 0, 1) := by decide +kernel
theorem dX5_tellSpeaker_30 : decode cX5_tellSpeaker 30 = .ok (.iconst 2, 1) := by decide +kernel
theorem dX5_tellSpeaker_31 : decode cX5_tellSpeaker 31 = .ok (.invokevirtual 92, 3) := by decide +kernel
theorem dX5_tellSpeaker_34 : decode cX5_tellSpeaker 34 = .ok (.aload_n 0, 1) := by decide +kernel
theorem dX5_tellSpeaker_35 : decode cX5_tellSpeaker 35 = .ok (.aload_n 0, 1) := by decide +kernel
theorem dX5_tellSpeaker_36 : decode cX5_tellSpeaker 36 = .ok (.getfield 15, 3) := by decide +kernel
theorem dX5_tellSpeaker_39 : decode cX5_tellSpeaker 39 = .ok (.invokevirtual 96, 3) := by decide +kernel
theorem dX5_tellSpeaker_42 : decode cX5_tellSpeaker 42 = .ok (.bipush 6, 2) := by decide +kernel
theorem dX5_tellSpeaker_44 : decode cX5_tellSpeaker 44 = .ok (.if_icmp .lt 7, 3) := by decide +kernel
theorem dX5_tellSpeaker_47 : decode cX5_tellSpeaker 47 = .ok (.iconst 1, 1) := by decide +kernel
theorem dX5_tellSpeaker_48 : decode cX5_tellSpeaker 48 = .ok (.goto 4, 3) := by decide +kernel
theorem dX5_tellSpeaker_51 : decode cX5_tellSpeaker 51 = .ok (.iconst 0, 1) := by decide +kernel
theorem dX5_tellSpeaker_52 : decode cX5_tellSpeaker 52 = .ok (.iconst 4, 1) := by decide +kernel
theorem dX5_tellSpeaker_53 : decode cX5_tellSpeaker 53 = .ok (.invokevirtual 92, 3) := by decide +kernel
theorem dX5_tellSpeaker_56 : decode cX5_tellSpeaker 56 = .ok (.aload_n 0, 1) := by decide +kernel
theorem dX5_tellSpeaker_57 : decode cX5_tellSpeaker 57 = .ok (.dup, 1) := by decide +kernel
theorem dX5_tellSpeaker_58 : decode cX5_tellSpeaker 58 = .ok (.getfield 23, 3) := by decide +kernel
theorem dX5_tellSpeaker_61 : decode cX5_tellSpeaker 61 = .ok (.iconst 1, 1) := by decide +kernel
theorem dX5_tellSpeaker_62 : decode cX5_tellSpeaker 62 = .ok (.iadd, 1) := by decide +kernel
theorem dX5_tellSpeaker_63 : decode cX5_tellSpeaker 63 = .ok (.putfield 23, 3) := by decide +kernel
theorem dX5_tellSpeaker_66 : decode cX5_tellSpeaker 66 = .ok (.aload_n 0, 1) := by decide +kernel
theorem dX5_tellSpeaker_67 : decode cX5_tellSpeaker 67 = .ok (.getstatic 100, 3) := by decide +kernel
theorem dX5_tellSpeaker_70 : decode cX5_tellSpeaker 70 = .ok (.sipush 300, 3) := by decide +kernel
theorem dX5_tellSpeaker_73 : decode cX5_tellSpeaker 73 = .ok (.iconst 0, 1) := by decide +kernel
theorem dX5_tellSpeaker_74 : decode cX5_tellSpeaker 74 = .ok (.sipush 3600, 3) := by decide +kernel
theorem dX5_tellSpeaker_77 : decode cX5_tellSpeaker 77 = .ok (.invokevirtual 103, 3) := by decide +kernel
theorem dX5_tellSpeaker_80 : decode cX5_tellSpeaker 80 = .ok (.istore_n 3, 1) := by decide +kernel
theorem dX5_tellSpeaker_81 : decode cX5_tellSpeaker 81 = .ok (.aload_n 0, 1) := by decide +kernel
theorem dX5_tellSpeaker_82 : decode cX5_tellSpeaker 82 = .ok (.getfield 27, 3) := by decide +kernel
theorem dX5_tellSpeaker_85 : decode cX5_tellSpeaker 85 = .ok (.ifCond .ne 12, 3) := by decide +kernel
theorem dX5_tellSpeaker_88 : decode cX5_tellSpeaker 88 = .ok (.aload_n 0, 1) := by decide +kernel
theorem dX5_tellSpeaker_89 : decode cX5_tellSpeaker 89 = .ok (.getfield 15, 3) := by decide +kernel
theorem dX5_tellSpeaker_92 : decode cX5_tellSpeaker 92 = .ok (.lload_n 1, 1) := by decide +kernel
theorem dX5_tellSpeaker_93 : decode cX5_tellSpeaker 93 = .ok (.iload_n 3, 1) := by decide +kernel
theorem dX5_tellSpeaker_94 : decode cX5_tellSpeaker 94 = .ok (.invokevirtual 107, 3) := by decide +kernel
theorem dX5_tellSpeaker_97 : decode cX5_tellSpeaker 97 = .ok (.return_, 1) := by decide +kernel
theorem dX6_behindBlanks_0 : decode cX6_behindBlanks 0 = .ok (.iload_n 1, 1) := by decide +kernel
theorem dX6_behindBlanks_1 : decode cX6_behindBlanks 1 = .ok (.istore_n 2, 1) := by decide +kernel
theorem dX6_behindBlanks_2 : decode cX6_behindBlanks 2 = .ok (.iload_n 2, 1) := by decide +kernel
theorem dX6_behindBlanks_3 : decode cX6_behindBlanks 3 = .ok (.aload_n 0, 1) := by decide +kernel
theorem dX6_behindBlanks_4 : decode cX6_behindBlanks 4 = .ok (.invokevirtual 31, 3) := by decide +kernel
theorem dX6_behindBlanks_7 : decode cX6_behindBlanks 7 = .ok (.if_icmp .ge 29, 3) := by decide +kernel
theorem dX6_behindBlanks_10 : decode cX6_behindBlanks 10 = .ok (.aload_n 0, 1) := by decide +kernel
theorem dX6_behindBlanks_11 : decode cX6_behindBlanks 11 = .ok (.iload_n 2, 1) := by decide +kernel
theorem dX6_behindBlanks_12 : decode cX6_behindBlanks 12 = .ok (.invokevirtual 51, 3) := by decide +kernel
theorem dX6_behindBlanks_15 : decode cX6_behindBlanks 15 = .ok (.bipush 32, 2) := by decide +kernel
theorem dX6_behindBlanks_17 : decode cX6_behindBlanks 17 = .ok (.if_icmp .eq 13, 3) := by decide +kernel
theorem dX6_behindBlanks_20 : decode cX6_behindBlanks 20 = .ok (.aload_n 0, 1) := by decide +kernel
theorem dX6_behindBlanks_21 : decode cX6_behindBlanks 21 = .ok (.iload_n 2, 1) := by decide +kernel
theorem dX6_behindBlanks_22 : decode cX6_behindBlanks 22 = .ok (.invokevirtual 51, 3) := by decide +kernel
theorem dX6_behindBlanks_25 : decode cX6_behindBlanks 25 = .ok (.bipush 10, 2) := by decide +kernel
theorem dX6_behindBlanks_27 : decode cX6_behindBlanks 27 = .ok (.if_icmp .ne 9, 3) := by decide +kernel
theorem dX6_behindBlanks_30 : decode cX6_behindBlanks 30 = .ok (.iinc 2 1, 3) := by decide +kernel
theorem dX6_behindBlanks_33 : decode cX6_behindBlanks 33 = .ok (.goto (-31), 3) := by decide +kernel
theorem dX6_behindBlanks_36 : decode cX6_behindBlanks 36 = .ok (.iload_n 2, 1) := by decide +kernel
theorem dX6_behindBlanks_37 : decode cX6_behindBlanks 37 = .ok (.ireturn, 1) := by decide +kernel
theorem dX6_init_0 : decode cX6_init 0 = .ok (.aload_n 0, 1) := by decide +kernel
theorem dX6_init_1 : decode cX6_init 1 = .ok (.invokespecial 1, 3) := by decide +kernel
theorem dX6_init_4 : decode cX6_init 4 = .ok (.aload_n 0, 1) := by decide +kernel
theorem dX6_init_5 : decode cX6_init 5 = .ok (.sipush 401, 3) := by decide +kernel
theorem dX6_init_8 : decode cX6_init 8 = .ok (.anewarray 9, 3) := by decide +kernel
theorem dX6_init_11 : decode cX6_init 11 = .ok (.putfield 11, 3) := by decide +kernel
theorem dX6_init_14 : decode cX6_init 14 = .ok (.aload_n 0, 1) := by decide +kernel
theorem dX6_init_15 : decode cX6_init 15 = .ok (.sipush 401, 3) := by decide +kernel
theorem dX6_init_18 : decode cX6_init 18 = .ok (.newarray .int, 2) := by decide +kernel
theorem dX6_init_20 : decode cX6_init 20 = .ok (.putfield 15, 3) := by decide +kernel
theorem dX6_init_23 : decode cX6_init 23 = .ok (.aload_n 0, 1) := by decide +kernel
theorem dX6_init_24 : decode cX6_init 24 = .ok (.sipush 401, 3) := by decide +kernel
theorem dX6_init_27 : decode cX6_init 27 = .ok (.newarray .long, 2) := by decide +kernel
theorem dX6_init_29 : decode cX6_init 29 = .ok (.putfield 19, 3) := by decide +kernel
theorem dX6_init_32 : decode cX6_init 32 = .ok (.return_, 1) := by decide +kernel
theorem dX6_isDigit_0 : decode cX6_isDigit 0 = .ok (.iload_n 0, 1) := by decide +kernel
theorem dX6_isDigit_1 : decode cX6_isDigit 1 = .ok (.bipush 48, 2) := by decide +kernel
theorem dX6_isDigit_3 : decode cX6_isDigit 3 = .ok (.if_icmp .lt 13, 3) := by decide +kernel
theorem dX6_isDigit_6 : decode cX6_isDigit 6 = .ok (.iload_n 0, 1) := by decide +kernel
theorem dX6_isDigit_7 : decode cX6_isDigit 7 = .ok (.bipush 57, 2) := by decide +kernel
theorem dX6_isDigit_9 : decode cX6_isDigit 9 = .ok (.if_icmp .gt 7, 3) := by decide +kernel
theorem dX6_isDigit_12 : decode cX6_isDigit 12 = .ok (.iconst 1, 1) := by decide +kernel
theorem dX6_isDigit_13 : decode cX6_isDigit 13 = .ok (.goto 4, 3) := by decide +kernel
theorem dX6_isDigit_16 : decode cX6_isDigit 16 = .ok (.iconst 0, 1) := by decide +kernel
theorem dX6_isDigit_17 : decode cX6_isDigit 17 = .ok (.ireturn, 1) := by decide +kernel
theorem dX6_isLetter_0 : decode cX6_isLetter 0 = .ok (.iload_n 0, 1) := by decide +kernel
theorem dX6_isLetter_1 : decode cX6_isLetter 1 = .ok (.bipush 97, 2) := by decide +kernel
theorem dX6_isLetter_3 : decode cX6_isLetter 3 = .ok (.if_icmp .lt 13, 3) := by decide +kernel
theorem dX6_isLetter_6 : decode cX6_isLetter 6 = .ok (.iload_n 0, 1) := by decide +kernel
theorem dX6_isLetter_7 : decode cX6_isLetter 7 = .ok (.bipush 122, 2) := by decide +kernel
theorem dX6_isLetter_9 : decode cX6_isLetter 9 = .ok (.if_icmp .gt 7, 3) := by decide +kernel
theorem dX6_isLetter_12 : decode cX6_isLetter 12 = .ok (.iconst 1, 1) := by decide +kernel
theorem dX6_isLetter_13 : decode cX6_isLetter 13 = .ok (.goto 4, 3) := by decide +kernel
theorem dX6_isLetter_16 : decode cX6_isLetter 16 = .ok (.iconst 0, 1) := by decide +kernel
theorem dX6_isLetter_17 : decode cX6_isLetter 17 = .ok (.ireturn, 1) := by decide +kernel
theorem dX6_kindAt_0 : decode cX6_kindAt 0 = .ok (.iload_n 1, 1) := by decide +kernel
theorem dX6_kindAt_1 : decode cX6_kindAt 1 = .ok (.ifCond .lt 27, 3) := by decide +kernel
theorem dX6_kindAt_4 : decode cX6_kindAt 4 = .ok (.iload_n 1, 1) := by decide +kernel
theorem dX6_kindAt_5 : decode cX6_kindAt 5 = .ok (.aload_n 0, 1) := by decide +kernel
theorem dX6_kindAt_6 : decode cX6_kindAt 6 = .ok (.getfield 23, 3) := by decide +kernel
theorem dX6_kindAt_9 : decode cX6_kindAt 9 = .ok (.if_icmp .ge 19, 3) := by decide +kernel
theorem dX6_kindAt_12 : decode cX6_kindAt 12 = .ok (.iload_n 1, 1) := by decide +kernel
theorem dX6_kindAt_13 : decode cX6_kindAt 13 = .ok (.sipush 400, 3) := by decide +kernel
theorem dX6_kindAt_16 : decode cX6_kindAt 16 = .ok (.if_icmp .gt 12, 3) := by decide +kernel
theorem dX6_kindAt_19 : decode cX6_kindAt 19 = .ok (.aload_n 0, 1) := by decide +kernel
theorem dX6_kindAt_20 : decode cX6_kindAt 20 = .ok (.getfield 11, 3) := by decide +kernel
theorem dX6_kindAt_23 : decode cX6_kindAt 23 = .ok (.iload_n 1, 1) := by decide +kernel
theorem dX6_kindAt_24 : decode cX6_kindAt 24 = .ok (.aaload, 1) := by decide +kernel
theorem dX6_kindAt_25 : decode cX6_kindAt 25 = .ok (.goto 6, 3) := by decide +kernel
theorem dX6_kindAt_28 : decode cX6_kindAt 28 = .ok (.getstatic 40, 3) := by decide +kernel
theorem dX6_kindAt_31 : decode cX6_kindAt 31 = .ok (.areturn, 1) := by decide +kernel
theorem dX6_placeOf_0 : decode cX6_placeOf 0 = .ok (.iload_n 1, 1) := by decide +kernel
theorem dX6_placeOf_1 : decode cX6_placeOf 1 = .ok (.ifCond .lt 27, 3) := by decide +kernel
theorem dX6_placeOf_4 : decode cX6_placeOf 4 = .ok (.iload_n 1, 1) := by decide +kernel
theorem dX6_placeOf_5 : decode cX6_placeOf 5 = .ok (.aload_n 0, 1) := by decide +kernel
theorem dX6_placeOf_6 : decode cX6_placeOf 6 = .ok (.getfield 23, 3) := by decide +kernel
theorem dX6_placeOf_9 : decode cX6_placeOf 9 = .ok (.if_icmp .ge 19, 3) := by decide +kernel
theorem dX6_placeOf_12 : decode cX6_placeOf 12 = .ok (.iload_n 1, 1) := by decide +kernel
theorem dX6_placeOf_13 : decode cX6_placeOf 13 = .ok (.sipush 400, 3) := by decide +kernel
theorem dX6_placeOf_16 : decode cX6_placeOf 16 = .ok (.if_icmp .gt 12, 3) := by decide +kernel
theorem dX6_placeOf_19 : decode cX6_placeOf 19 = .ok (.aload_n 0, 1) := by decide +kernel
theorem dX6_placeOf_20 : decode cX6_placeOf 20 = .ok (.getfield 15, 3) := by decide +kernel
theorem dX6_placeOf_23 : decode cX6_placeOf 23 = .ok (.iload_n 1, 1) := by decide +kernel
theorem dX6_placeOf_24 : decode cX6_placeOf 24 = .ok (.iaload, 1) := by decide +kernel
theorem dX6_placeOf_25 : decode cX6_placeOf 25 = .ok (.goto 4, 3) := by decide +kernel
theorem dX6_placeOf_28 : decode cX6_placeOf 28 = .ok (.iconst 0, 1) := by decide +kernel
theorem dX6_placeOf_29 : decode cX6_placeOf 29 = .ok (.ireturn, 1) := by decide +kernel
theorem dX6_put_0 : decode cX6_put 0 = .ok (.aload_n 0, 1) := by decide +kernel
theorem dX6_put_1 : decode cX6_put 1 = .ok (.getfield 23, 3) := by decide +kernel
theorem dX6_put_4 : decode cX6_put 4 = .ok (.ifCond .lt 53, 3) := by decide +kernel
theorem dX6_put_7 : decode cX6_put 7 = .ok (.aload_n 0, 1) := by decide +kernel
theorem dX6_put_8 : decode cX6_put 8 = .ok (.getfield 23, 3) := by decide +kernel
theorem dX6_put_11 : decode cX6_put 11 = .ok (.sipush 400, 3) := by decide +kernel
theorem dX6_put_14 : decode cX6_put 14 = .ok (.if_icmp .gt 43, 3) := by decide +kernel
theorem dX6_put_17 : decode cX6_put 17 = .ok (.aload_n 0, 1) := by decide +kernel
theorem dX6_put_18 : decode cX6_put 18 = .ok (.getfield 11, 3) := by decide +kernel
theorem dX6_put_21 : decode cX6_put 21 = .ok (.aload_n 0, 1) := by decide +kernel
theorem dX6_put_22 : decode cX6_put 22 = .ok (.getfield 23, 3) := by decide +kernel
theorem dX6_put_25 : decode cX6_put 25 = .ok (.aload_n 1, 1) := by decide +kernel
theorem dX6_put_26 : decode cX6_put 26 = .ok (.aastore, 1) := by decide +kernel
theorem dX6_put_27 : decode cX6_put 27 = .ok (.aload_n 0, 1) := by decide +kernel
theorem dX6_put_28 : decode cX6_put 28 = .ok (.getfield 15, 3) := by decide +kernel
theorem dX6_put_31 : decode cX6_put 31 = .ok (.aload_n 0, 1) := by decide +kernel
theorem dX6_put_32 : decode cX6_put 32 = .ok (.getfield 23, 3) := by decide +kernel
theorem dX6_put_35 : decode cX6_put 35 = .ok (.iload_n 2, 1) := by decide +kernel
theorem dX6_put_36 : decode cX6_put 36 = .ok (.iastore, 1) := by decide +kernel
theorem dX6_put_37 : decode cX6_put 37 = .ok (.aload_n 0, 1) := by decide +kernel
theorem dX6_put_38 : decode cX6_put 38 = .ok (.getfield 19, 3) := by decide +kernel
theorem dX6_put_41 : decode cX6_put 41 = .ok (.aload_n 0, 1) := by decide +kernel
theorem dX6_put_42 : decode cX6_put 42 = .ok (.getfield 23, 3) := by decide +kernel
theorem dX6_put_45 : decode cX6_put 45 = .ok (.lload_n 3, 1) := by decide +kernel
theorem dX6_put_46 : decode cX6_put 46 = .ok (.lastore, 1) := by decide +kernel
theorem dX6_put_47 : decode cX6_put 47 = .ok (.aload_n 0, 1) := by decide +kernel
theorem dX6_put_48 : decode cX6_put 48 = .ok (.dup, 1) := by decide +kernel
theorem dX6_put_49 : decode cX6_put 49 = .ok (.getfield 23, 3) := by decide +kernel
theorem dX6_put_52 : decode cX6_put 52 = .ok (.iconst 1, 1) := by decide +kernel
theorem dX6_put_53 : decode cX6_put 53 = .ok (.iadd, 1) := by decide +kernel
theorem dX6_put_54 : decode cX6_put 54 = .ok (.putfield 23, 3) := by decide +kernel
theorem dX6_put_57 : decode cX6_put 57 = .ok (.return_, 1) := by decide +kernel
theorem dX6_readFrom_0 : decode cX6_readFrom 0 = .ok (.aload_n 0, 1) := by decide +kernel
theorem dX6_readFrom_1 : decode cX6_readFrom 1 = .ok (.iconst 0, 1) := by decide +kernel
theorem dX6_readFrom_2 : decode cX6_readFrom 2 = .ok (.putfield 23, 3) := by decide +kernel
theorem dX6_readFrom_5 : decode cX6_readFrom 5 = .ok (.aload_n 1, 1) := by decide +kernel
theorem dX6_readFrom_6 : decode cX6_readFrom 6 = .ok (.iconst 0, 1) := by decide +kernel
theorem dX6_readFrom_7 : decode cX6_readFrom 7 = .ok (.invokestatic 27, 3) := by decide +kernel
theorem dX6_readFrom_10 : decode cX6_readFrom 10 = .ok (.istore_n 2, 1) := by decide +kernel
theorem dX6_readFrom_11 : decode cX6_readFrom 11 = .ok (.iconst 0, 1) := by decide +kernel
theorem dX6_readFrom_12 : decode cX6_readFrom 12 = .ok (.istore_n 3, 1) := by decide +kernel
theorem dX6_readFrom_13 : decode cX6_readFrom 13 = .ok (.iload_n 3, 1) := by decide +kernel
theorem dX6_readFrom_14 : decode cX6_readFrom 14 = .ok (.sipush 400, 3) := by decide +kernel
theorem dX6_readFrom_17 : decode cX6_readFrom 17 = .ok (.if_icmp .ge 28, 3) := by decide +kernel
theorem dX6_readFrom_20 : decode cX6_readFrom 20 = .ok (.iload_n 2, 1) := by decide +kernel
theorem dX6_readFrom_21 : decode cX6_readFrom 21 = .ok (.aload_n 1, 1) := by decide +kernel
theorem dX6_readFrom_22 : decode cX6_readFrom 22 = .ok (.invokevirtual 31, 3) := by decide +kernel
theorem dX6_readFrom_25 : decode cX6_readFrom 25 = .ok (.if_icmp .ge 20, 3) := by decide +kernel
theorem dX6_readFrom_28 : decode cX6_readFrom 28 = .ok (.aload_n 1, 1) := by decide +kernel
theorem dX6_readFrom_29 : decode cX6_readFrom 29 = .ok (.aload_n 0, 1) := by decide +kernel
theorem dX6_readFrom_30 : decode cX6_readFrom 30 = .ok (.aload_n 1, 1) := by decide +kernel
theorem dX6_readFrom_31 : decode cX6_readFrom 31 = .ok (.iload_n 2, 1) := by decide +kernel
theorem dX6_readFrom_32 : decode cX6_readFrom 32 = .ok (.invokevirtual 37, 3) := by decide +kernel
theorem dX6_readFrom_35 : decode cX6_readFrom 35 = .ok (.invokestatic 27, 3) := by decide +kernel
theorem dX6_readFrom_38 : decode cX6_readFrom 38 = .ok (.istore_n 2, 1) := by decide +kernel
theorem dX6_readFrom_39 : decode cX6_readFrom 39 = .ok (.iinc 3 1, 3) := by decide +kernel
theorem dX6_readFrom_42 : decode cX6_readFrom 42 = .ok (.goto (-29), 3) := by decide +kernel
theorem dX6_readFrom_45 : decode cX6_readFrom 45 = .ok (.aload_n 0, 1) := by decide +kernel
theorem dX6_readFrom_46 : decode cX6_readFrom 46 = .ok (.iload_n 2, 1) := by decide +kernel
theorem dX6_readFrom_47 : decode cX6_readFrom 47 = .ok (.aload_n 1, 1) := by decide +kernel
theorem dX6_readFrom_48 : decode cX6_readFrom 48 = .ok (.invokevirtual 31, 3) := by decide +kernel
theorem dX6_readFrom_51 : decode cX6_readFrom 51 = .ok (.if_icmp .ge 9, 3) := by decide +kernel
theorem dX6_readFrom_54 : decode cX6_readFrom 54 = .ok (.getstatic 40, 3) := by decide +kernel
theorem dX6_readFrom_57 : decode cX6_readFrom 57 = .ok (.goto 6, 3) := by decide +kernel
theorem dX6_readFrom_60 : decode cX6_readFrom 60 = .ok (.getstatic 44, 3) := by decide +kernel
theorem dX6_readFrom_63 : decode cX6_readFrom 63 = .ok (.iload_n 2, 1) := by decide +kernel
theorem dX6_readFrom_64 : decode cX6_readFrom 64 = .ok (.lconst 0, 1) := by decide +kernel
theorem dX6_readFrom_65 : decode cX6_readFrom 65 = .ok (.invokevirtual 47, 3) := by decide +kernel
theorem dX6_readFrom_68 : decode cX6_readFrom 68 = .ok (.return_, 1) := by decide +kernel
theorem dX6_readNumber_0 : decode cX6_readNumber 0 = .ok (.lconst 0, 1) := by decide +kernel
theorem dX6_readNumber_1 : decode cX6_readNumber 1 = .ok (.lstore_n 3, 1) := by decide +kernel
theorem dX6_readNumber_2 : decode cX6_readNumber 2 = .ok (.iload_n 2, 1) := by decide +kernel
theorem dX6_readNumber_3 : decode cX6_readNumber 3 = .ok (.istore 5, 2) := by decide +kernel
theorem dX6_readNumber_5 : decode cX6_readNumber 5 = .ok (.iload 5, 2) := by decide +kernel
theorem dX6_readNumber_7 : decode cX6_readNumber 7 = .ok (.aload_n 1, 1) := by decide +kernel
theorem dX6_readNumber_8 : decode cX6_readNumber 8 = .ok (.invokevirtual 31, 3) := by decide +kernel
theorem dX6_readNumber_11 : decode cX6_readNumber 11 = .ok (.if_icmp .ge 39, 3) := by decide +kernel
theorem dX6_readNumber_14 : decode cX6_readNumber 14 = .ok (.aload_n 1, 1) := by decide +kernel
theorem dX6_readNumber_15 : decode cX6_readNumber 15 = .ok (.iload 5, 2) := by decide +kernel
theorem dX6_readNumber_17 : decode cX6_readNumber 17 = .ok (.invokevirtual 51, 3) := by decide +kernel
theorem dX6_readNumber_20 : decode cX6_readNumber 20 = .ok (.invokestatic 62, 3) := by decide +kernel
theorem dX6_readNumber_23 : decode cX6_readNumber 23 = .ok (.ifCond .eq 27, 3) := by decide +kernel
theorem dX6_readNumber_26 : decode cX6_readNumber 26 = .ok (.lload_n 3, 1) := by decide +kernel
theorem dX6_readNumber_27 : decode cX6_readNumber 27 = .ok (.ldc2_w 75, 3) := by decide +kernel
theorem dX6_readNumber_30 : decode cX6_readNumber 30 = .ok (.lmul, 1) := by decide +kernel
theorem dX6_readNumber_31 : decode cX6_readNumber 31 = .ok (.aload_n 1, 1) := by decide +kernel
theorem dX6_readNumber_32 : decode cX6_readNumber 32 = .ok (.iload 5, 2) := by decide +kernel
theorem dX6_readNumber_34 : decode cX6_readNumber 34 = .ok (.invokevirtual 51, 3) := by decide +kernel
theorem dX6_readNumber_37 : decode cX6_readNumber 37 = .ok (.i2l, 1) := by decide +kernel
theorem dX6_readNumber_38 : decode cX6_readNumber 38 = .ok (.ladd, 1) := by decide +kernel
theorem dX6_readNumber_39 : decode cX6_readNumber 39 = .ok (.ldc2_w 77, 3) := by decide +kernel
theorem dX6_readNumber_42 : decode cX6_readNumber 42 = .ok (.lsub, 1) := by decide +kernel
theorem dX6_readNumber_43 : decode cX6_readNumber 43 = .ok (.lstore_n 3, 1) := by decide +kernel
theorem dX6_readNumber_44 : decode cX6_readNumber 44 = .ok (.iinc 5 1, 3) := by decide +kernel
theorem dX6_readNumber_47 : decode cX6_readNumber 47 = .ok (.goto (-42), 3) := by decide +kernel
theorem dX6_readNumber_50 : decode cX6_readNumber 50 = .ok (.aload_n 0, 1) := by decide +kernel
theorem dX6_readNumber_51 : decode cX6_readNumber 51 = .ok (.iload 5, 2) := by decide +kernel
theorem dX6_readNumber_53 : decode cX6_readNumber 53 = .ok (.iload_n 2, 1) := by decide +kernel
theorem dX6_readNumber_54 : decode cX6_readNumber 54 = .ok (.isub, 1) := by decide +kernel
theorem dX6_readNumber_55 : decode cX6_readNumber 55 = .ok (.bipush 6, 2) := by decide +kernel
theorem dX6_readNumber_57 : decode cX6_readNumber 57 = .ok (.if_icmp .le 9, 3) := by decide +kernel
theorem dX6_readNumber_60 : decode cX6_readNumber 60 = .ok (.getstatic 40, 3) := by decide +kernel
theorem dX6_readNumber_63 : decode cX6_readNumber 63 = .ok (.goto 6, 3) := by decide +kernel
theorem dX6_readNumber_66 : decode cX6_readNumber 66 = .ok (.getstatic 79, 3) := by decide +kernel
theorem dX6_readNumber_69 : decode cX6_readNumber 69 = .ok (.iload_n 2, 1) := by decide +kernel
theorem dX6_readNumber_70 : decode cX6_readNumber 70 = .ok (.lload_n 3, 1) := by decide +kernel
theorem dX6_readNumber_71 : decode cX6_readNumber 71 = .ok (.invokevirtual 47, 3) := by decide +kernel
theorem dX6_readNumber_74 : decode cX6_readNumber 74 = .ok (.iload 5, 2) := by decide +kernel
theorem dX6_readNumber_76 : decode cX6_readNumber 76 = .ok (.ireturn, 1) := by decide +kernel
theorem dX6_readOne_0 : decode cX6_readOne 0 = .ok (.aload_n 1, 1) := by decide +kernel
theorem dX6_readOne_1 : decode cX6_readOne 1 = .ok (.iload_n 2, 1) := by decide +kernel
theorem dX6_readOne_2 : decode cX6_readOne 2 = .ok (.invokevirtual 51, 3) := by decide +kernel
theorem dX6_readOne_5 : decode cX6_readOne 5 = .ok (.istore_n 3, 1) := by decide +kernel
theorem dX6_readOne_6 : decode cX6_readOne 6 = .ok (.iload_n 3, 1) := by decide +kernel
theorem dX6_readOne_7 : decode cX6_readOne 7 = .ok (.invokestatic 55, 3) := by decide +kernel
theorem dX6_readOne_10 : decode cX6_readOne 10 = .ok (.ifCond .eq 10, 3) := by decide +kernel
theorem dX6_readOne_13 : decode cX6_readOne 13 = .ok (.aload_n 0, 1) := by decide +kernel
theorem dX6_readOne_14 : decode cX6_readOne 14 = .ok (.aload_n 1, 1) := by decide +kernel
theorem dX6_readOne_15 : decode cX6_readOne 15 = .ok (.iload_n 2, 1) := by decide +kernel
theorem dX6_readOne_16 : decode cX6_readOne 16 = .ok (.invokevirtual 59, 3) := by decide +kernel
theorem dX6_readOne_19 : decode cX6_readOne 19 = .ok (.ireturn, 1) := by decide +kernel
theorem dX6_readOne_20 : decode cX6_readOne 20 = .ok (.iload_n 3, 1) := by decide +kernel
theorem dX6_readOne_21 : decode cX6_readOne 21 = .ok (.invokestatic 62, 3) := by decide +kernel
theorem dX6_readOne_24 : decode cX6_readOne 24 = .ok (.ifCond .eq 10, 3) := by decide +kernel
theorem dX6_readOne_27 : decode cX6_readOne 27 = .ok (.aload_n 0, 1) := by decide +kernel
theorem dX6_readOne_28 : decode cX6_readOne 28 = .ok (.aload_n 1, 1) := by decide +kernel
theorem dX6_readOne_29 : decode cX6_readOne 29 = .ok (.iload_n 2, 1) := by decide +kernel
theorem dX6_readOne_30 : decode cX6_readOne 30 = .ok (.invokevirtual 65, 3) := by decide +kernel
theorem dX6_readOne_33 : decode cX6_readOne 33 = .ok (.ireturn, 1) := by decide +kernel
theorem dX6_readOne_34 : decode cX6_readOne 34 = .ok (.aload_n 0, 1) := by decide +kernel
theorem dX6_readOne_35 : decode cX6_readOne 35 = .ok (.iload_n 3, 1) := by decide +kernel
theorem dX6_readOne_36 : decode cX6_readOne 36 = .ok (.i2l, 1) := by decide +kernel
theorem dX6_readOne_37 : decode cX6_readOne 37 = .ok (.getstatic 40, 3) := by decide +kernel
theorem dX6_readOne_40 : decode cX6_readOne 40 = .ok (.invokestatic 68, 3) := by decide +kernel
theorem dX6_readOne_43 : decode cX6_readOne 43 = .ok (.iload_n 2, 1) := by decide +kernel
theorem dX6_readOne_44 : decode cX6_readOne 44 = .ok (.lconst 0, 1) := by decide +kernel
theorem dX6_readOne_45 : decode cX6_readOne 45 = .ok (.invokevirtual 47, 3) := by decide +kernel
theorem dX6_readOne_48 : decode cX6_readOne 48 = .ok (.iload_n 2, 1) := by decide +kernel
theorem dX6_readOne_49 : decode cX6_readOne 49 = .ok (.iconst 1, 1) := by decide +kernel
theorem dX6_readOne_50 : decode cX6_readOne 50 = .ok (.iadd, 1) := by decide +kernel
theorem dX6_readOne_51 : decode cX6_readOne 51 = .ok (.ireturn, 1) := by decide +kernel
theorem dX6_readWord_0 : decode cX6_readWord 0 = .ok (.lconst 0, 1) := by decide +kernel
theorem dX6_readWord_1 : decode cX6_readWord 1 = .ok (.lstore_n 3, 1) := by decide +kernel
theorem dX6_readWord_2 : decode cX6_readWord 2 = .ok (.iload_n 2, 1) := by decide +kernel
theorem dX6_readWord_3 : decode cX6_readWord 3 = .ok (.istore 5, 2) := by decide +kernel
theorem dX6_readWord_5 : decode cX6_readWord 5 = .ok (.iload 5, 2) := by decide +kernel
theorem dX6_readWord_7 : decode cX6_readWord 7 = .ok (.aload_n 1, 1) := by decide +kernel
theorem dX6_readWord_8 : decode cX6_readWord 8 = .ok (.invokevirtual 31, 3) := by decide +kernel
theorem dX6_readWord_11 : decode cX6_readWord 11 = .ok (.if_icmp .ge 46, 3) := by decide +kernel
theorem dX6_readWord_14 : decode cX6_readWord 14 = .ok (.aload_n 1, 1) := by decide +kernel
theorem dX6_readWord_15 : decode cX6_readWord 15 = .ok (.iload 5, 2) := by decide +kernel
theorem dX6_readWord_17 : decode cX6_readWord 17 = .ok (.invokevirtual 51, 3) := by decide +kernel
theorem dX6_readWord_20 : decode cX6_readWord 20 = .ok (.invokestatic 55, 3) := by decide +kernel
theorem dX6_readWord_23 : decode cX6_readWord 23 = .ok (.ifCond .ne 15, 3) := by decide +kernel
theorem dX6_readWord_26 : decode cX6_readWord 26 = .ok (.aload_n 1, 1) := by decide +kernel
theorem dX6_readWord_27 : decode cX6_readWord 27 = .ok (.iload 5, 2) := by decide +kernel
theorem dX6_readWord_29 : decode cX6_readWord 29 = .ok (.invokevirtual 51, 3) := by decide +kernel
theorem dX6_readWord_32 : decode cX6_readWord 32 = .ok (.invokestatic 62, 3) := by decide +kernel
theorem dX6_readWord_35 : decode cX6_readWord 35 = .ok (.ifCond .eq 22, 3) := by decide +kernel
theorem dX6_readWord_38 : decode cX6_readWord 38 = .ok (.lload_n 3, 1) := by decide +kernel
theorem dX6_readWord_39 : decode cX6_readWord 39 = .ok (.bipush 8, 2) := by decide +kernel
theorem dX6_readWord_41 : decode cX6_readWord 41 = .ok (.lshl, 1) := by decide +kernel
theorem dX6_readWord_42 : decode cX6_readWord 42 = .ok (.aload_n 1, 1) := by decide +kernel
theorem dX6_readWord_43 : decode cX6_readWord 43 = .ok (.iload 5, 2) := by decide +kernel
theorem dX6_readWord_45 : decode cX6_readWord 45 = .ok (.invokevirtual 51, 3) := by decide +kernel
theorem dX6_readWord_48 : decode cX6_readWord 48 = .ok (.i2l, 1) := by decide +kernel
theorem dX6_readWord_49 : decode cX6_readWord 49 = .ok (.lor, 1) := by decide +kernel
theorem dX6_readWord_50 : decode cX6_readWord 50 = .ok (.lstore_n 3, 1) := by decide +kernel
theorem dX6_readWord_51 : decode cX6_readWord 51 = .ok (.iinc 5 1, 3) := by decide +kernel
theorem dX6_readWord_54 : decode cX6_readWord 54 = .ok (.goto (-49), 3) := by decide +kernel
theorem dX6_readWord_57 : decode cX6_readWord 57 = .ok (.iload 5, 2) := by decide +kernel
theorem dX6_readWord_59 : decode cX6_readWord 59 = .ok (.iload_n 2, 1) := by decide +kernel
theorem dX6_readWord_60 : decode cX6_readWord 60 = .ok (.isub, 1) := by decide +kernel
theorem dX6_readWord_61 : decode cX6_readWord 61 = .ok (.bipush 8, 2) := by decide +kernel
theorem dX6_readWord_63 : decode cX6_readWord 63 = .ok (.if_icmp .le 7, 3) := by decide +kernel
theorem dX6_readWord_66 : decode cX6_readWord 66 = .ok (.iconst 1, 1) := by decide +kernel
theorem dX6_readWord_67 : decode cX6_readWord 67 = .ok (.goto 4, 3) := by decide +kernel
theorem dX6_readWord_70 : decode cX6_readWord 70 = .ok (.iconst 0, 1) := by decide +kernel
theorem dX6_readWord_71 : decode cX6_readWord 71 = .ok (.istore 6, 2) := by decide +kernel
theorem dX6_readWord_73 : decode cX6_readWord 73 = .ok (.aload_n 0, 1) := by decide +kernel
theorem dX6_readWord_74 : decode cX6_readWord 74 = .ok (.iload 6, 2) := by decide +kernel
theorem dX6_readWord_76 : decode cX6_readWord 76 = .ok (.ifCond .eq 9, 3) := by decide +kernel
theorem dX6_readWord_79 : decode cX6_readWord 79 = .ok (.getstatic 40, 3) := by decide +kernel
theorem dX6_readWord_82 : decode cX6_readWord 82 = .ok (.goto 10, 3) := by decide +kernel
theorem dX6_readWord_85 : decode cX6_readWord 85 = .ok (.lload_n 3, 1) := by decide +kernel
theorem dX6_readWord_86 : decode cX6_readWord 86 = .ok (.getstatic 72, 3) := by decide +kernel
theorem dX6_readWord_89 : decode cX6_readWord 89 = .ok (.invokestatic 68, 3) := by decide +kernel
theorem dX6_readWord_92 : decode cX6_readWord 92 = .ok (.iload_n 2, 1) := by decide +kernel
theorem dX6_readWord_93 : decode cX6_readWord 93 = .ok (.lload_n 3, 1) := by decide +kernel
theorem dX6_readWord_94 : decode cX6_readWord 94 = .ok (.invokevirtual 47, 3) := by decide +kernel
theorem dX6_readWord_97 : decode cX6_readWord 97 = .ok (.iload 5, 2) := by decide +kernel
theorem dX6_readWord_99 : decode cX6_readWord 99 = .ok (.ireturn, 1) := by decide +kernel
theorem dX6_valueAt_0 : decode cX6_valueAt 0 = .ok (.iload_n 1, 1) := by decide +kernel
theorem dX6_valueAt_1 : decode cX6_valueAt 1 = .ok (.ifCond .lt 27, 3) := by decide +kernel
theorem dX6_valueAt_4 : decode cX6_valueAt 4 = .ok (.iload_n 1, 1) := by decide +kernel
theorem dX6_valueAt_5 : decode cX6_valueAt 5 = .ok (.aload_n 0, 1) := by decide +kernel
theorem dX6_valueAt_6 : decode cX6_valueAt 6 = .ok (.getfield 23, 3) := by decide +kernel
theorem dX6_valueAt_9 : decode cX6_valueAt 9 = .ok (.if_icmp .ge 19, 3) := by decide +kernel
theorem dX6_valueAt_12 : decode cX6_valueAt 12 = .ok (.iload_n 1, 1) := by decide +kernel
theorem dX6_valueAt_13 : decode cX6_valueAt 13 = .ok (.sipush 400, 3) := by decide +kernel
theorem dX6_valueAt_16 : decode cX6_valueAt 16 = .ok (.if_icmp .gt 12, 3) := by decide +kernel
theorem dX6_valueAt_19 : decode cX6_valueAt 19 = .ok (.aload_n 0, 1) := by decide +kernel
theorem dX6_valueAt_20 : decode cX6_valueAt 20 = .ok (.getfield 19, 3) := by decide +kernel
theorem dX6_valueAt_23 : decode cX6_valueAt 23 = .ok (.iload_n 1, 1) := by decide +kernel
theorem dX6_valueAt_24 : decode cX6_valueAt 24 = .ok (.laload, 1) := by decide +kernel
theorem dX6_valueAt_25 : decode cX6_valueAt 25 = .ok (.goto 4, 3) := by decide +kernel
theorem dX6_valueAt_28 : decode cX6_valueAt 28 = .ok (.lconst 0, 1) := by decide +kernel
theorem dX6_valueAt_29 : decode cX6_valueAt 29 = .ok (.lreturn, 1) := by decide +kernel
theorem dX7_advise_0 : decode cX7_advise 0 = .ok (.aload_n 0, 1) := by decide +kernel
theorem dX7_advise_1 : decode cX7_advise 1 = .ok (.iload_n 1, 1) := by decide +kernel
theorem dX7_advise_2 : decode cX7_advise 2 = .ok (.invokevirtual 150, 3) := by decide +kernel
theorem dX7_advise_5 : decode cX7_advise 5 = .ok (.iload_n 2, 1) := by decide +kernel
theorem dX7_advise_6 : decode cX7_advise 6 = .ok (.iconst 1, 1) := by decide +kernel
theorem dX7_advise_7 : decode cX7_advise 7 = .ok (.if_icmp .lt 9, 3) := by decide +kernel
theorem dX7_advise_10 : decode cX7_advise 10 = .ok (.iload_n 2, 1) := by decide +kernel
theorem dX7_advise_11 : decode cX7_advise 11 = .ok (.bipush 50, 2) := by decide +kernel
theorem dX7_advise_13 : decode cX7_advise 13 = .ok (.if_icmp .le 13, 3) := by decide +kernel
theorem dX7_advise_16 : decode cX7_advise 16 = .ok (.new 83, 3) := by decide +kernel
theorem dX7_advise_19 : decode cX7_advise 19 = .ok (.dup, 1) := by decide +kernel
theorem dX7_advise_20 : decode cX7_advise 20 = .ok (.ldc 220, 2) := by decide +kernel
theorem dX7_advise_22 : decode cX7_advise 22 = .ok (.invokespecial 87, 3) := by decide +kernel
theorem dX7_advise_25 : decode cX7_advise 25 = .ok (.athrow, 1) := by decide +kernel
theorem dX7_advise_26 : decode cX7_advise 26 = .ok (.aload_n 0, 1) := by decide +kernel
theorem dX7_advise_27 : decode cX7_advise 27 = .ok (.getfield 24, 3) := by decide +kernel
theorem dX7_advise_30 : decode cX7_advise 30 = .ok (.invokevirtual 222, 3) := by decide +kernel
theorem dX7_advise_33 : decode cX7_advise 33 = .ok (.aload_n 0, 1) := by decide +kernel
theorem dX7_advise_34 : decode cX7_advise 34 = .ok (.getfield 24, 3) := by decide +kernel
theorem dX7_advise_37 : decode cX7_advise 37 = .ok (.iload_n 1, 1) := by decide +kernel
theorem dX7_advise_38 : decode cX7_advise 38 = .ok (.invokevirtual 153, 3) := by decide +kernel
theorem dX7_advise_41 : decode cX7_advise 41 = .ok (.ldc2_w 225, 3) := by decide +kernel
theorem dX7_advise_44 : decode cX7_advise 44 = .ok (.lxor, 1) := by decide +kernel
theorem dX7_advise_45 : decode cX7_advise 45 = .ok (.land, 1) := by decide +kernel
theorem dX7_advise_46 : decode cX7_advise 46 = .ok (.lstore_n 3, 1) := by decide +kernel
theorem dX7_advise_47 : decode cX7_advise 47 = .ok (.aload_n 0, 1) := by decide +kernel
theorem dX7_advise_48 : decode cX7_advise 48 = .ok (.iload_n 1, 1) := by decide +kernel
theorem dX7_advise_49 : decode cX7_advise 49 = .ok (.lload_n 3, 1) := by decide +kernel
theorem dX7_advise_50 : decode cX7_advise 50 = .ok (.aload_n 0, 1) := by decide +kernel
theorem dX7_advise_51 : decode cX7_advise 51 = .ok (.getfield 24, 3) := by decide +kernel
theorem dX7_advise_54 : decode cX7_advise 54 = .ok (.iload_n 2, 1) := by decide +kernel
theorem dX7_advise_55 : decode cX7_advise 55 = .ok (.invokevirtual 227, 3) := by decide +kernel
theorem dX7_advise_58 : decode cX7_advise 58 = .ok (.land, 1) := by decide +kernel
theorem dX7_advise_59 : decode cX7_advise 59 = .ok (.iconst 0, 1) := by decide +kernel
theorem dX7_advise_60 : decode cX7_advise 60 = .ok (.invokevirtual 216, 3) := by decide +kernel
theorem dX7_advise_63 : decode cX7_advise 63 = .ok (.ireturn, 1) := by decide +kernel
theorem dX7_bestFor_0 : decode cX7_bestFor 0 = .ok (.iconst (-1), 1) := by decide +kernel
theorem dX7_bestFor_1 : decode cX7_bestFor 1 = .ok (.istore 5, 2) := by decide +kernel
theorem dX7_bestFor_3 : decode cX7_bestFor 3 = .ok (.aload_n 0, 1) := by decide +kernel
theorem dX7_bestFor_4 : decode cX7_bestFor 4 = .ok (.getfield 33, 3) := by decide +kernel
theorem dX7_bestFor_7 : decode cX7_bestFor 7 = .ok (.iload_n 1, 1) := by decide +kernel
theorem dX7_bestFor_8 : decode cX7_bestFor 8 = .ok (.invokevirtual 163, 3) := by decide +kernel
theorem dX7_bestFor_11 : decode cX7_bestFor 11 = .ok (.istore 6, 2) := by decide +kernel
theorem dX7_bestFor_13 : decode cX7_bestFor 13 = .ok (.iconst 0, 1) := by decide +kernel
theorem dX7_bestFor_14 : decode cX7_bestFor 14 = .ok (.istore 7, 2) := by decide +kernel
theorem dX7_bestFor_16 : decode cX7_bestFor 16 = .ok (.iload 7, 2) := by decide +kernel
theorem dX7_bestFor_18 : decode cX7_bestFor 18 = .ok (.aload_n 0, 1) := by decide +kernel
theorem dX7_bestFor_19 : decode cX7_bestFor 19 = .ok (.getfield 24, 3) := by decide +kernel
theorem dX7_bestFor_22 : decode cX7_bestFor 22 = .ok (.invokevirtual 116, 3) := by decide +kernel
theorem dX7_bestFor_25 : decode cX7_bestFor 25 = .ok (.if_icmp .ge 81, 3) := by decide +kernel
theorem dX7_bestFor_28 : decode cX7_bestFor 28 = .ok (.lload_n 2, 1) := by decide +kernel
theorem dX7_bestFor_29 : decode cX7_bestFor 29 = .ok (.iload 7, 2) := by decide +kernel
theorem dX7_bestFor_31 : decode cX7_bestFor 31 = .ok (.invokestatic 213, 3) := by decide +kernel
theorem dX7_bestFor_34 : decode cX7_bestFor 34 = .ok (.land, 1) := by decide +kernel
theorem dX7_bestFor_35 : decode cX7_bestFor 35 = .ok (.lconst 0, 1) := by decide +kernel
theorem dX7_bestFor_36 : decode cX7_bestFor 36 = .ok (.lcmp, 1) := by decide +kernel
theorem dX7_bestFor_37 : decode cX7_bestFor 37 = .ok (.ifCond .eq 63, 3) := by decide +kernel
theorem dX7_bestFor_40 : decode cX7_bestFor 40 = .ok (.aload_n 0, 1) := by decide +kernel
theorem dX7_bestFor_41 : decode cX7_bestFor 41 = .ok (.getfield 37, 3) := by decide +kernel
theorem dX7_bestFor_44 : decode cX7_bestFor 44 = .ok (.iload 4, 2) := by decide +kernel
theorem dX7_bestFor_46 : decode cX7_bestFor 46 = .ok (.ifCond .eq 11, 3) := by decide +kernel
theorem dX7_bestFor_49 : decode cX7_bestFor 49 = .ok (.iload 7, 2) := by decide +kernel
theorem dX7_bestFor_51 : decode cX7_bestFor 51 = .ok (.invokestatic 213, 3) := by decide +kernel
theorem dX7_bestFor_54 : decode cX7_bestFor 54 = .ok (.goto 4, 3) := by decide +kernel
theorem dX7_bestFor_57 : decode cX7_bestFor 57 = .ok (.lconst 0, 1) := by decide +kernel
theorem dX7_bestFor_58 : decode cX7_bestFor 58 = .ok (.iload 4, 2) := by decide +kernel
theorem dX7_bestFor_60 : decode cX7_bestFor 60 = .ok (.ifCond .eq 7, 3) := by decide +kernel
theorem dX7_bestFor_63 : decode cX7_bestFor 63 = .ok (.lconst 0, 1) := by decide +kernel
theorem dX7_bestFor_64 : decode cX7_bestFor 64 = .ok (.goto 8, 3) := by decide +kernel
theorem dX7_bestFor_67 : decode cX7_bestFor 67 = .ok (.iload 7, 2) := by decide +kernel
theorem dX7_bestFor_69 : decode cX7_bestFor 69 = .ok (.invokestatic 213, 3) := by decide +kernel
theorem dX7_bestFor_72 : decode cX7_bestFor 72 = .ok (.invokevirtual 109, 3) := by decide +kernel
theorem dX7_bestFor_75 : decode cX7_bestFor 75 = .ok (.aload_n 0, 1) := by decide +kernel
theorem dX7_bestFor_76 : decode cX7_bestFor 76 = .ok (.getfield 37, 3) := by decide +kernel
theorem dX7_bestFor_79 : decode cX7_bestFor 79 = .ok (.iload_n 1, 1) := by decide +kernel
theorem dX7_bestFor_80 : decode cX7_bestFor 80 = .ok (.invokevirtual 163, 3) := by decide +kernel
theorem dX7_bestFor_83 : decode cX7_bestFor 83 = .ok (.istore 8, 2) := by decide +kernel
theorem dX7_bestFor_85 : decode cX7_bestFor 85 = .ok (.iload 8, 2) := by decide +kernel
theorem dX7_bestFor_87 : decode cX7_bestFor 87 = .ok (.iload 6, 2) := by decide +kernel
theorem dX7_bestFor_89 : decode cX7_bestFor 89 = .ok (.if_icmp .le 11, 3) := by decide +kernel
theorem dX7_bestFor_92 : decode cX7_bestFor 92 = .ok (.iload 8, 2) := by decide +kernel
theorem dX7_bestFor_94 : decode cX7_bestFor 94 = .ok (.istore 6, 2) := by decide +kernel
theorem dX7_bestFor_96 : decode cX7_bestFor 96 = .ok (.iload 7, 2) := by decide +kernel
theorem dX7_bestFor_98 : decode cX7_bestFor 98 = .ok (.istore 5, 2) := by decide +kernel
theorem dX7_bestFor_100 : decode cX7_bestFor 100 = .ok (.iinc 7 1, 3) := by decide +kernel
theorem dX7_bestFor_103 : decode cX7_bestFor 103 = .ok (.goto (-87), 3) := by decide +kernel
theorem dX7_bestFor_106 : decode cX7_bestFor 106 = .ok (.iload 5, 2) := by decide +kernel
theorem dX7_bestFor_108 : decode cX7_bestFor 108 = .ok (.ireturn, 1) := by decide +kernel
theorem dX7_bit_0 : decode cX7_bit 0 = .ok (.lconst 1, 1) := by decide +kernel
theorem dX7_bit_1 : decode cX7_bit 1 = .ok (.iload_n 0, 1) := by decide +kernel
theorem dX7_bit_2 : decode cX7_bit 2 = .ok (.lshl, 1) := by decide +kernel
theorem dX7_bit_3 : decode cX7_bit 3 = .ok (.lreturn, 1) := by decide +kernel
theorem dX7_byteAt_0 : decode cX7_byteAt 0 = .ok (.iload_n 1, 1) := by decide +kernel
theorem dX7_byteAt_1 : decode cX7_byteAt 1 = .ok (.ifCond .lt 14, 3) := by decide +kernel
theorem dX7_byteAt_4 : decode cX7_byteAt 4 = .ok (.iload_n 1, 1) := by decide +kernel
theorem dX7_byteAt_5 : decode cX7_byteAt 5 = .ok (.aload_n 0, 1) := by decide +kernel
theorem dX7_byteAt_6 : decode cX7_byteAt 6 = .ok (.getfield 18, 3) := by decide +kernel
theorem dX7_byteAt_9 : decode cX7_byteAt 9 = .ok (.invokevirtual 69, 3) := by decide +kernel
theorem dX7_byteAt_12 : decode cX7_byteAt 12 = .ok (.if_icmp .lt 14, 3) := by decide +kernel
theorem dX7_byteAt_15 : decode cX7_byteAt 15 = .ok (.new 145, 3) := by decide +kernel
theorem dX7_byteAt_18 : decode cX7_byteAt 18 = .ok (.dup, 1) := by decide +kernel
theorem dX7_byteAt_19 : decode cX7_byteAt 19 = .ok (.ldc_w 261, 3) := by decide +kernel
theorem dX7_byteAt_22 : decode cX7_byteAt 22 = .ok (.invokespecial 149, 3) := by decide +kernel
theorem dX7_byteAt_25 : decode cX7_byteAt 25 = .ok (.athrow, 1) := by decide +kernel
theorem dX7_byteAt_26 : decode cX7_byteAt 26 = .ok (.aload_n 0, 1) := by decide +kernel
theorem dX7_byteAt_27 : decode cX7_byteAt 27 = .ok (.getfield 18, 3) := by decide +kernel
theorem dX7_byteAt_30 : decode cX7_byteAt 30 = .ok (.iload_n 1, 1) := by decide +kernel
theorem dX7_byteAt_31 : decode cX7_byteAt 31 = .ok (.invokevirtual 263, 3) := by decide +kernel
theorem dX7_byteAt_34 : decode cX7_byteAt 34 = .ok (.ireturn, 1) := by decide +kernel
theorem dX7_concede_0 : decode cX7_concede 0 = .ok (.aload_n 0, 1) := by decide +kernel
theorem dX7_concede_1 : decode cX7_concede 1 = .ok (.iload_n 1, 1) := by decide +kernel
theorem dX7_concede_2 : decode cX7_concede 2 = .ok (.invokevirtual 150, 3) := by decide +kernel
theorem dX7_concede_5 : decode cX7_concede 5 = .ok (.aload_n 0, 1) := by decide +kernel
theorem dX7_concede_6 : decode cX7_concede 6 = .ok (.iload_n 1, 1) := by decide +kernel
theorem dX7_concede_7 : decode cX7_concede 7 = .ok (.aload_n 0, 1) := by decide +kernel
theorem dX7_concede_8 : decode cX7_concede 8 = .ok (.getfield 24, 3) := by decide +kernel
theorem dX7_concede_11 : decode cX7_concede 11 = .ok (.iload_n 1, 1) := by decide +kernel
theorem dX7_concede_12 : decode cX7_concede 12 = .ok (.invokevirtual 153, 3) := by decide +kernel
theorem dX7_concede_15 : decode cX7_concede 15 = .ok (.iconst 1, 1) := by decide +kernel
theorem dX7_concede_16 : decode cX7_concede 16 = .ok (.invokevirtual 216, 3) := by decide +kernel
theorem dX7_concede_19 : decode cX7_concede 19 = .ok (.ireturn, 1) := by decide +kernel
theorem dX7_conceding_0 : decode cX7_conceding 0 = .ok (.aload_n 0, 1) := by decide +kernel
theorem dX7_conceding_1 : decode cX7_conceding 1 = .ok (.iload_n 1, 1) := by decide +kernel
theorem dX7_conceding_2 : decode cX7_conceding 2 = .ok (.invokevirtual 168, 3) := by decide +kernel
theorem dX7_conceding_5 : decode cX7_conceding 5 = .ok (.aload_n 0, 1) := by decide +kernel
theorem dX7_conceding_6 : decode cX7_conceding 6 = .ok (.iload_n 2, 1) := by decide +kernel
theorem dX7_conceding_7 : decode cX7_conceding 7 = .ok (.invokevirtual 150, 3) := by decide +kernel
theorem dX7_conceding_10 : decode cX7_conceding 10 = .ok (.aload_n 0, 1) := by decide +kernel
theorem dX7_conceding_11 : decode cX7_conceding 11 = .ok (.getfield 37, 3) := by decide +kernel
theorem dX7_conceding_14 : decode cX7_conceding 14 = .ok (.iload_n 1, 1) := by decide +kernel
theorem dX7_conceding_15 : decode cX7_conceding 15 = .ok (.invokestatic 213, 3) := by decide +kernel
theorem dX7_conceding_18 : decode cX7_conceding 18 = .ok (.lconst 0, 1) := by decide +kernel
theorem dX7_conceding_19 : decode cX7_conceding 19 = .ok (.invokevirtual 109, 3) := by decide +kernel
theorem dX7_conceding_22 : decode cX7_conceding 22 = .ok (.aload_n 0, 1) := by decide +kernel
theorem dX7_conceding_23 : decode cX7_conceding 23 = .ok (.getfield 37, 3) := by decide +kernel
theorem dX7_conceding_26 : decode cX7_conceding 26 = .ok (.iload_n 2, 1) := by decide +kernel
theorem dX7_conceding_27 : decode cX7_conceding 27 = .ok (.invokevirtual 163, 3) := by decide +kernel
theorem dX7_conceding_30 : decode cX7_conceding 30 = .ok (.ireturn, 1) := by decide +kernel
theorem dX7_count_0 : decode cX7_count 0 = .ok (.iload_n 1, 1) := by decide +kernel
theorem dX7_count_1 : decode cX7_count 1 = .ok (.tableswitch 183 0 11 #[63, 71, 79, 91, 103, 115, 126, 137, 148, 159, 167, 175], 63) := by decide +kernel
theorem dX7_count_64 : decode cX7_count 64 = .ok (.aload_n 0, 1) := by decide +kernel
theorem dX7_count_65 : decode cX7_count 65 = .ok (.getfield 24, 3) := by decide +kernel
theorem dX7_count_68 : decode cX7_count 68 = .ok (.invokevirtual 113, 3) := by decide +kernel
theorem dX7_count_71 : decode cX7_count 71 = .ok (.ireturn, 1) := by decide +kernel
theorem dX7_count_72 : decode cX7_count 72 = .ok (.aload_n 0, 1) := by decide +kernel
theorem dX7_count_73 : decode cX7_count 73 = .ok (.getfield 24, 3) := by decide +kernel
theorem dX7_count_76 : decode cX7_count 76 = .ok (.invokevirtual 116, 3) := by decide +kernel
theorem dX7_count_79 : decode cX7_count 79 = .ok (.ireturn, 1) := by decide +kernel
theorem dX7_count_80 : decode cX7_count 80 = .ok (.aload_n 0, 1) := by decide +kernel
theorem dX7_count_81 : decode cX7_count 81 = .ok (.getfield 24, 3) := by decide +kernel
theorem dX7_count_84 : decode cX7_count 84 = .ok (.iconst 0, 1) := by decide +kernel
theorem dX7_count_85 : decode cX7_count 85 = .ok (.invokevirtual 119, 3) := by decide +kernel
theorem dX7_count_88 : decode cX7_count 88 = .ok (.invokestatic 123, 3) := by decide +kernel
theorem dX7_count_91 : decode cX7_count 91 = .ok (.ireturn, 1) := by decide +kernel
theorem dX7_count_92 : decode cX7_count 92 = .ok (.aload_n 0, 1) := by decide +kernel
theorem dX7_count_93 : decode cX7_count 93 = .ok (.getfield 24, 3) := by decide +kernel
theorem dX7_count_96 : decode cX7_count 96 = .ok (.iconst 1, 1) := by decide +kernel
theorem dX7_count_97 : decode cX7_count 97 = .ok (.invokevirtual 119, 3) := by decide +kernel
theorem dX7_count_100 : decode cX7_count 100 = .ok (.invokestatic 123, 3) := by decide +kernel
theorem dX7_count_103 : decode cX7_count 103 = .ok (.ireturn, 1) := by decide +kernel
theorem dX7_count_104 : decode cX7_count 104 = .ok (.aload_n 0, 1) := by decide +kernel
theorem dX7_count_105 : decode cX7_count 105 = .ok (.getfield 24, 3) := by decide +kernel
theorem dX7_count_108 : decode cX7_count 108 = .ok (.iconst 2, 1) := by decide +kernel
theorem dX7_count_109 : decode cX7_count 109 = .ok (.invokevirtual 119, 3) := by decide +kernel
theorem dX7_count_112 : decode cX7_count 112 = .ok (.invokestatic 123, 3) := by decide +kernel
theorem dX7_count_115 : decode cX7_count 115 = .ok (.ireturn, 1) := by decide +kernel
theorem dX7_count_116 : decode cX7_count 116 = .ok (.aload_n 0, 1) := by decide +kernel
theorem dX7_count_117 : decode cX7_count 117 = .ok (.getfield 33, 3) := by decide +kernel
theorem dX7_count_120 : decode cX7_count 120 = .ok (.invokevirtual 129, 3) := by decide +kernel
theorem dX7_count_123 : decode cX7_count 123 = .ok (.invokestatic 123, 3) := by decide +kernel
theorem dX7_count_126 : decode cX7_count 126 = .ok (.ireturn, 1) := by decide +kernel
theorem dX7_count_127 : decode cX7_count 127 = .ok (.aload_n 0, 1) := by decide +kernel
theorem dX7_count_128 : decode cX7_count 128 = .ok (.getfield 33, 3) := by decide +kernel
theorem dX7_count_131 : decode cX7_count 131 = .ok (.invokevirtual 133, 3) := by decide +kernel
theorem dX7_count_134 : decode cX7_count 134 = .ok (.invokestatic 123, 3) := by decide +kernel
theorem dX7_count_137 : decode cX7_count 137 = .ok (.ireturn, 1) := by decide +kernel
theorem dX7_count_138 : decode cX7_count 138 = .ok (.aload_n 0, 1) := by decide +kernel
theorem dX7_count_139 : decode cX7_count 139 = .ok (.getfield 33, 3) := by decide +kernel
theorem dX7_count_142 : decode cX7_count 142 = .ok (.invokevirtual 136, 3) := by decide +kernel
theorem dX7_count_145 : decode cX7_count 145 = .ok (.invokestatic 123, 3) := by decide +kernel
theorem dX7_count_148 : decode cX7_count 148 = .ok (.ireturn, 1) := by decide +kernel
theorem dX7_count_149 : decode cX7_count 149 = .ok (.aload_n 0, 1) := by decide +kernel
theorem dX7_count_150 : decode cX7_count 150 = .ok (.getfield 24, 3) := by decide +kernel
theorem dX7_count_153 : decode cX7_count 153 = .ok (.invokevirtual 139, 3) := by decide +kernel
theorem dX7_count_156 : decode cX7_count 156 = .ok (.invokestatic 123, 3) := by decide +kernel
theorem dX7_count_159 : decode cX7_count 159 = .ok (.ireturn, 1) := by decide +kernel
theorem dX7_count_160 : decode cX7_count 160 = .ok (.aload_n 0, 1) := by decide +kernel
theorem dX7_count_161 : decode cX7_count 161 = .ok (.getfield 33, 3) := by decide +kernel
theorem dX7_count_164 : decode cX7_count 164 = .ok (.invokevirtual 142, 3) := by decide +kernel
theorem dX7_count_167 : decode cX7_count 167 = .ok (.ireturn, 1) := by decide +kernel
theorem dX7_count_168 : decode cX7_count 168 = .ok (.aload_n 0, 1) := by decide +kernel
theorem dX7_count_169 : decode cX7_count 169 = .ok (.getfield 14, 3) := by decide +kernel
theorem dX7_count_172 : decode cX7_count 172 = .ok (.invokevirtual 69, 3) := by decide +kernel
theorem dX7_count_175 : decode cX7_count 175 = .ok (.ireturn, 1) := by decide +kernel
theorem dX7_count_176 : decode cX7_count 176 = .ok (.aload_n 0, 1) := by decide +kernel
theorem dX7_count_177 : decode cX7_count 177 = .ok (.getfield 18, 3) := by decide +kernel
theorem dX7_count_180 : decode cX7_count 180 = .ok (.invokevirtual 69, 3) := by decide +kernel
theorem dX7_count_183 : decode cX7_count 183 = .ok (.ireturn, 1) := by decide +kernel
theorem dX7_count_184 : decode cX7_count 184 = .ok (.new 145, 3) := by decide +kernel
theorem dX7_count_187 : decode cX7_count 187 = .ok (.dup, 1) := by decide +kernel
theorem dX7_count_188 : decode cX7_count 188 = .ok (.ldc 147, 2) := by decide +kernel
theorem dX7_count_190 : decode cX7_count 190 = .ok (.invokespecial 149, 3) := by decide +kernel
theorem dX7_count_193 : decode cX7_count 193 = .ok (.athrow, 1) := by decide +kernel
theorem dX7_defends_0 : decode cX7_defends 0 = .ok (.aload_n 0, 1) := by decide +kernel
theorem dX7_defends_1 : decode cX7_defends 1 = .ok (.iload_n 1, 1) := by decide +kernel
theorem dX7_defends_2 : decode cX7_defends 2 = .ok (.invokevirtual 168, 3) := by decide +kernel
theorem dX7_defends_5 : decode cX7_defends 5 = .ok (.aload_n 0, 1) := by decide +kernel
theorem dX7_defends_6 : decode cX7_defends 6 = .ok (.iload_n 2, 1) := by decide +kernel
theorem dX7_defends_7 : decode cX7_defends 7 = .ok (.invokevirtual 168, 3) := by decide +kernel
theorem dX7_defends_10 : decode cX7_defends 10 = .ok (.aload_n 0, 1) := by decide +kernel
theorem dX7_defends_11 : decode cX7_defends 11 = .ok (.getfield 24, 3) := by decide +kernel
theorem dX7_defends_14 : decode cX7_defends 14 = .ok (.iload_n 1, 1) := by decide +kernel
theorem dX7_defends_15 : decode cX7_defends 15 = .ok (.invokevirtual 183, 3) := by decide +kernel
theorem dX7_defends_18 : decode cX7_defends 18 = .ok (.istore_n 3, 1) := by decide +kernel
theorem dX7_defends_19 : decode cX7_defends 19 = .ok (.aload_n 0, 1) := by decide +kernel
theorem dX7_defends_20 : decode cX7_defends 20 = .ok (.getfield 24, 3) := by decide +kernel
theorem dX7_defends_23 : decode cX7_defends 23 = .ok (.iload_n 1, 1) := by decide +kernel
theorem dX7_defends_24 : decode cX7_defends 24 = .ok (.invokevirtual 199, 3) := by decide +kernel
theorem dX7_defends_27 : decode cX7_defends 27 = .ok (.ifCond .eq 41, 3) := by decide +kernel
theorem dX7_defends_30 : decode cX7_defends 30 = .ok (.aload_n 0, 1) := by decide +kernel
theorem dX7_defends_31 : decode cX7_defends 31 = .ok (.getfield 33, 3) := by decide +kernel
theorem dX7_defends_34 : decode cX7_defends 34 = .ok (.iload_n 1, 1) := by decide +kernel
theorem dX7_defends_35 : decode cX7_defends 35 = .ok (.invokevirtual 186, 3) := by decide +kernel
theorem dX7_defends_38 : decode cX7_defends 38 = .ok (.ifCond .eq 30, 3) := by decide +kernel
theorem dX7_defends_41 : decode cX7_defends 41 = .ok (.aload_n 0, 1) := by decide +kernel
theorem dX7_defends_42 : decode cX7_defends 42 = .ok (.getfield 24, 3) := by decide +kernel
theorem dX7_defends_45 : decode cX7_defends 45 = .ok (.iload_n 3, 1) := by decide +kernel
theorem dX7_defends_46 : decode cX7_defends 46 = .ok (.invokevirtual 199, 3) := by decide +kernel
theorem dX7_defends_49 : decode cX7_defends 49 = .ok (.ifCond .eq 19, 3) := by decide +kernel
theorem dX7_defends_52 : decode cX7_defends 52 = .ok (.aload_n 0, 1) := by decide +kernel
theorem dX7_defends_53 : decode cX7_defends 53 = .ok (.getfield 24, 3) := by decide +kernel
theorem dX7_defends_56 : decode cX7_defends 56 = .ok (.iload_n 3, 1) := by decide +kernel
theorem dX7_defends_57 : decode cX7_defends 57 = .ok (.invokevirtual 183, 3) := by decide +kernel
theorem dX7_defends_60 : decode cX7_defends 60 = .ok (.iload_n 2, 1) := by decide +kernel
theorem dX7_defends_61 : decode cX7_defends 61 = .ok (.if_icmp .ne 7, 3) := by decide +kernel
theorem dX7_defends_64 : decode cX7_defends 64 = .ok (.iconst 1, 1) := by decide +kernel
theorem dX7_defends_65 : decode cX7_defends 65 = .ok (.goto 4, 3) := by decide +kernel
theorem dX7_defends_68 : decode cX7_defends 68 = .ok (.iconst 0, 1) := by decide +kernel
theorem dX7_defends_69 : decode cX7_defends 69 = .ok (.ireturn, 1) := by decide +kernel
theorem dX7_digest_0 : decode cX7_digest 0 = .ok (.ldc2_w 266, 3) := by decide +kernel
theorem dX7_digest_3 : decode cX7_digest 3 = .ok (.lstore_n 1, 1) := by decide +kernel
theorem dX7_digest_4 : decode cX7_digest 4 = .ok (.iconst 0, 1) := by decide +kernel
theorem dX7_digest_5 : decode cX7_digest 5 = .ok (.istore_n 3, 1) := by decide +kernel
theorem dX7_digest_6 : decode cX7_digest 6 = .ok (.iload_n 3, 1) := by decide +kernel
theorem dX7_digest_7 : decode cX7_digest 7 = .ok (.bipush 12, 2) := by decide +kernel
theorem dX7_digest_9 : decode cX7_digest 9 = .ok (.if_icmp .ge 22, 3) := by decide +kernel
theorem dX7_digest_12 : decode cX7_digest 12 = .ok (.lload_n 1, 1) := by decide +kernel
theorem dX7_digest_13 : decode cX7_digest 13 = .ok (.ldc2_w 268, 3) := by decide +kernel
theorem dX7_digest_16 : decode cX7_digest 16 = .ok (.lmul, 1) := by decide +kernel
theorem dX7_digest_17 : decode cX7_digest 17 = .ok (.aload_n 0, 1) := by decide +kernel
theorem dX7_digest_18 : decode cX7_digest 18 = .ok (.iload_n 3, 1) := by decide +kernel
theorem dX7_digest_19 : decode cX7_digest 19 = .ok (.invokevirtual 270, 3) := by decide +kernel
theorem dX7_digest_22 : decode cX7_digest 22 = .ok (.i2l, 1) := by decide +kernel
theorem dX7_digest_23 : decode cX7_digest 23 = .ok (.ladd, 1) := by decide +kernel
theorem dX7_digest_24 : decode cX7_digest 24 = .ok (.lstore_n 1, 1) := by decide +kernel
theorem dX7_digest_25 : decode cX7_digest 25 = .ok (.iinc 3 1, 3) := by decide +kernel
theorem dX7_digest_28 : decode cX7_digest 28 = .ok (.goto (-22), 3) := by decide +kernel
theorem dX7_digest_31 : decode cX7_digest 31 = .ok (.iconst 0, 1) := by decide +kernel
theorem dX7_digest_32 : decode cX7_digest 32 = .ok (.istore_n 3, 1) := by decide +kernel
theorem dX7_digest_33 : decode cX7_digest 33 = .ok (.iload_n 3, 1) := by decide +kernel
theorem dX7_digest_34 : decode cX7_digest 34 = .ok (.aload_n 0, 1) := by decide +kernel
theorem dX7_digest_35 : decode cX7_digest 35 = .ok (.getfield 24, 3) := by decide +kernel
theorem dX7_digest_38 : decode cX7_digest 38 = .ok (.invokevirtual 113, 3) := by decide +kernel
theorem dX7_digest_41 : decode cX7_digest 41 = .ok (.if_icmp .ge 40, 3) := by decide +kernel
theorem dX7_digest_44 : decode cX7_digest 44 = .ok (.iconst 0, 1) := by decide +kernel
theorem dX7_digest_45 : decode cX7_digest 45 = .ok (.istore 4, 2) := by decide +kernel
theorem dX7_digest_47 : decode cX7_digest 47 = .ok (.iload 4, 2) := by decide +kernel
theorem dX7_digest_49 : decode cX7_digest 49 = .ok (.bipush 7, 2) := by decide +kernel
theorem dX7_digest_51 : decode cX7_digest 51 = .ok (.if_icmp .ge 24, 3) := by decide +kernel
theorem dX7_digest_54 : decode cX7_digest 54 = .ok (.lload_n 1, 1) := by decide +kernel
theorem dX7_digest_55 : decode cX7_digest 55 = .ok (.ldc2_w 268, 3) := by decide +kernel
theorem dX7_digest_58 : decode cX7_digest 58 = .ok (.lmul, 1) := by decide +kernel
theorem dX7_digest_59 : decode cX7_digest 59 = .ok (.aload_n 0, 1) := by decide +kernel
theorem dX7_digest_60 : decode cX7_digest 60 = .ok (.iload_n 3, 1) := by decide +kernel
theorem dX7_digest_61 : decode cX7_digest 61 = .ok (.iload 4, 2) := by decide +kernel
theorem dX7_digest_63 : decode cX7_digest 63 = .ok (.invokevirtual 273, 3) := by decide +kernel
theorem dX7_digest_66 : decode cX7_digest 66 = .ok (.i2l, 1) := by decide +kernel
theorem dX7_digest_67 : decode cX7_digest 67 = .ok (.ladd, 1) := by decide +kernel
theorem dX7_digest_68 : decode cX7_digest 68 = .ok (.lstore_n 1, 1) := by decide +kernel
theorem dX7_digest_69 : decode cX7_digest 69 = .ok (.iinc 4 1, 3) := by decide +kernel
theorem dX7_digest_72 : decode cX7_digest 72 = .ok (.goto (-25), 3) := by decide +kernel
theorem dX7_digest_75 : decode cX7_digest 75 = .ok (.iinc 3 1, 3) := by decide +kernel
theorem dX7_digest_78 : decode cX7_digest 78 = .ok (.goto (-45), 3) := by decide +kernel
theorem dX7_digest_81 : decode cX7_digest 81 = .ok (.iconst 0, 1) := by decide +kernel
theorem dX7_digest_82 : decode cX7_digest 82 = .ok (.istore_n 3, 1) := by decide +kernel
theorem dX7_digest_83 : decode cX7_digest 83 = .ok (.iload_n 3, 1) := by decide +kernel
theorem dX7_digest_84 : decode cX7_digest 84 = .ok (.aload_n 0, 1) := by decide +kernel
theorem dX7_digest_85 : decode cX7_digest 85 = .ok (.getfield 24, 3) := by decide +kernel
theorem dX7_digest_88 : decode cX7_digest 88 = .ok (.invokevirtual 116, 3) := by decide +kernel
theorem dX7_digest_91 : decode cX7_digest 91 = .ok (.if_icmp .ge 66, 3) := by decide +kernel
theorem dX7_digest_94 : decode cX7_digest 94 = .ok (.iconst 0, 1) := by decide +kernel
theorem dX7_digest_95 : decode cX7_digest 95 = .ok (.istore 4, 2) := by decide +kernel
theorem dX7_digest_97 : decode cX7_digest 97 = .ok (.iload 4, 2) := by decide +kernel
theorem dX7_digest_99 : decode cX7_digest 99 = .ok (.bipush 11, 2) := by decide +kernel
theorem dX7_digest_101 : decode cX7_digest 101 = .ok (.if_icmp .ge 24, 3) := by decide +kernel
theorem dX7_digest_104 : decode cX7_digest 104 = .ok (.lload_n 1, 1) := by decide +kernel
theorem dX7_digest_105 : decode cX7_digest 105 = .ok (.ldc2_w 268, 3) := by decide +kernel
theorem dX7_digest_108 : decode cX7_digest 108 = .ok (.lmul, 1) := by decide +kernel
theorem dX7_digest_109 : decode cX7_digest 109 = .ok (.aload_n 0, 1) := by decide +kernel
theorem dX7_digest_110 : decode cX7_digest 110 = .ok (.iload_n 3, 1) := by decide +kernel
theorem dX7_digest_111 : decode cX7_digest 111 = .ok (.iload 4, 2) := by decide +kernel
theorem dX7_digest_113 : decode cX7_digest 113 = .ok (.invokevirtual 277, 3) := by decide +kernel
theorem dX7_digest_116 : decode cX7_digest 116 = .ok (.i2l, 1) := by decide +kernel
theorem dX7_digest_117 : decode cX7_digest 117 = .ok (.ladd, 1) := by decide +kernel
theorem dX7_digest_118 : decode cX7_digest 118 = .ok (.lstore_n 1, 1) := by decide +kernel
theorem dX7_digest_119 : decode cX7_digest 119 = .ok (.iinc 4 1, 3) := by decide +kernel
theorem dX7_digest_122 : decode cX7_digest 122 = .ok (.goto (-25), 3) := by decide +kernel
theorem dX7_digest_125 : decode cX7_digest 125 = .ok (.lload_n 1, 1) := by decide +kernel
theorem dX7_digest_126 : decode cX7_digest 126 = .ok (.ldc2_w 268, 3) := by decide +kernel
theorem dX7_digest_129 : decode cX7_digest 129 = .ok (.lmul, 1) := by decide +kernel
theorem dX7_digest_130 : decode cX7_digest 130 = .ok (.aload_n 0, 1) := by decide +kernel
theorem dX7_digest_131 : decode cX7_digest 131 = .ok (.iload_n 3, 1) := by decide +kernel
theorem dX7_digest_132 : decode cX7_digest 132 = .ok (.invokevirtual 280, 3) := by decide +kernel
theorem dX7_digest_135 : decode cX7_digest 135 = .ok (.i2l, 1) := by decide +kernel
theorem dX7_digest_136 : decode cX7_digest 136 = .ok (.ladd, 1) := by decide +kernel
theorem dX7_digest_137 : decode cX7_digest 137 = .ok (.lstore_n 1, 1) := by decide +kernel
theorem dX7_digest_138 : decode cX7_digest 138 = .ok (.lload_n 1, 1) := by decide +kernel
theorem dX7_digest_139 : decode cX7_digest 139 = .ok (.ldc2_w 268, 3) := by decide +kernel
theorem dX7_digest_142 : decode cX7_digest 142 = .ok (.lmul, 1) := by decide +kernel
theorem dX7_digest_143 : decode cX7_digest 143 = .ok (.aload_n 0, 1) := by decide +kernel
theorem dX7_digest_144 : decode cX7_digest 144 = .ok (.iload_n 3, 1) := by decide +kernel
theorem dX7_digest_145 : decode cX7_digest 145 = .ok (.invokevirtual 283, 3) := by decide +kernel
theorem dX7_digest_148 : decode cX7_digest 148 = .ok (.i2l, 1) := by decide +kernel
theorem dX7_digest_149 : decode cX7_digest 149 = .ok (.ladd, 1) := by decide +kernel
theorem dX7_digest_150 : decode cX7_digest 150 = .ok (.lstore_n 1, 1) := by decide +kernel
theorem dX7_digest_151 : decode cX7_digest 151 = .ok (.iinc 3 1, 3) := by decide +kernel
theorem dX7_digest_154 : decode cX7_digest 154 = .ok (.goto (-71), 3) := by decide +kernel
theorem dX7_digest_157 : decode cX7_digest 157 = .ok (.iconst 0, 1) := by decide +kernel
theorem dX7_digest_158 : decode cX7_digest 158 = .ok (.istore_n 3, 1) := by decide +kernel
theorem dX7_digest_159 : decode cX7_digest 159 = .ok (.iload_n 3, 1) := by decide +kernel
theorem dX7_digest_160 : decode cX7_digest 160 = .ok (.aload_n 0, 1) := by decide +kernel
theorem dX7_digest_161 : decode cX7_digest 161 = .ok (.getfield 18, 3) := by decide +kernel
theorem dX7_digest_164 : decode cX7_digest 164 = .ok (.invokevirtual 69, 3) := by decide +kernel
theorem dX7_digest_167 : decode cX7_digest 167 = .ok (.if_icmp .ge 25, 3) := by decide +kernel
theorem dX7_digest_170 : decode cX7_digest 170 = .ok (.lload_n 1, 1) := by decide +kernel
theorem dX7_digest_171 : decode cX7_digest 171 = .ok (.ldc2_w 268, 3) := by decide +kernel
theorem dX7_digest_174 : decode cX7_digest 174 = .ok (.lmul, 1) := by decide +kernel
theorem dX7_digest_175 : decode cX7_digest 175 = .ok (.aload_n 0, 1) := by decide +kernel
theorem dX7_digest_176 : decode cX7_digest 176 = .ok (.getfield 18, 3) := by decide +kernel
theorem dX7_digest_179 : decode cX7_digest 179 = .ok (.iload_n 3, 1) := by decide +kernel
theorem dX7_digest_180 : decode cX7_digest 180 = .ok (.invokevirtual 263, 3) := by decide +kernel
theorem dX7_digest_183 : decode cX7_digest 183 = .ok (.i2l, 1) := by decide +kernel
theorem dX7_digest_184 : decode cX7_digest 184 = .ok (.ladd, 1) := by decide +kernel
theorem dX7_digest_185 : decode cX7_digest 185 = .ok (.lstore_n 1, 1) := by decide +kernel
theorem dX7_digest_186 : decode cX7_digest 186 = .ok (.iinc 3 1, 3) := by decide +kernel
theorem dX7_digest_189 : decode cX7_digest 189 = .ok (.goto (-30), 3) := by decide +kernel
theorem dX7_digest_192 : decode cX7_digest 192 = .ok (.lload_n 1, 1) := by decide +kernel
theorem dX7_digest_193 : decode cX7_digest 193 = .ok (.lreturn, 1) := by decide +kernel
theorem dX7_errorAt_0 : decode cX7_errorAt 0 = .ok (.aload_n 0, 1) := by decide +kernel
theorem dX7_errorAt_1 : decode cX7_errorAt 1 = .ok (.getfield 65, 3) := by decide +kernel
theorem dX7_errorAt_4 : decode cX7_errorAt 4 = .ok (.ireturn, 1) := by decide +kernel
theorem dX7_far_0 : decode cX7_far 0 = .ok (.aload_n 0, 1) := by decide +kernel
theorem dX7_far_1 : decode cX7_far 1 = .ok (.iload_n 1, 1) := by decide +kernel
theorem dX7_far_2 : decode cX7_far 2 = .ok (.invokevirtual 168, 3) := by decide +kernel
theorem dX7_far_5 : decode cX7_far 5 = .ok (.iconst 0, 1) := by decide +kernel
theorem dX7_far_6 : decode cX7_far 6 = .ok (.istore_n 2, 1) := by decide +kernel
theorem dX7_far_7 : decode cX7_far 7 = .ok (.aload_n 0, 1) := by decide +kernel
theorem dX7_far_8 : decode cX7_far 8 = .ok (.getfield 24, 3) := by decide +kernel
theorem dX7_far_11 : decode cX7_far 11 = .ok (.iload_n 1, 1) := by decide +kernel
theorem dX7_far_12 : decode cX7_far 12 = .ok (.invokevirtual 183, 3) := by decide +kernel
theorem dX7_far_15 : decode cX7_far 15 = .ok (.istore_n 3, 1) := by decide +kernel
theorem dX7_far_16 : decode cX7_far 16 = .ok (.iload_n 3, 1) := by decide +kernel
theorem dX7_far_17 : decode cX7_far 17 = .ok (.iconst (-1), 1) := by decide +kernel
theorem dX7_far_18 : decode cX7_far 18 = .ok (.if_icmp .eq 24, 3) := by decide +kernel
theorem dX7_far_21 : decode cX7_far 21 = .ok (.iload_n 2, 1) := by decide +kernel
theorem dX7_far_22 : decode cX7_far 22 = .ok (.bipush 40, 2) := by decide +kernel
theorem dX7_far_24 : decode cX7_far 24 = .ok (.if_icmp .ge 18, 3) := by decide +kernel
theorem dX7_far_27 : decode cX7_far 27 = .ok (.iinc 2 1, 3) := by decide +kernel
theorem dX7_far_30 : decode cX7_far 30 = .ok (.aload_n 0, 1) := by decide +kernel
theorem dX7_far_31 : decode cX7_far 31 = .ok (.getfield 24, 3) := by decide +kernel
theorem dX7_far_34 : decode cX7_far 34 = .ok (.iload_n 3, 1) := by decide +kernel
theorem dX7_far_35 : decode cX7_far 35 = .ok (.invokevirtual 183, 3) := by decide +kernel
theorem dX7_far_38 : decode cX7_far 38 = .ok (.istore_n 3, 1) := by decide +kernel
theorem dX7_far_39 : decode cX7_far 39 = .ok (.goto (-23), 3) := by decide +kernel
theorem dX7_far_42 : decode cX7_far 42 = .ok (.iload_n 2, 1) := by decide +kernel
theorem dX7_far_43 : decode cX7_far 43 = .ok (.ireturn, 1) := by decide +kernel
theorem dX7_feed_0 : decode cX7_feed 0 = .ok (.aload_n 0, 1) := by decide +kernel
theorem dX7_feed_1 : decode cX7_feed 1 = .ok (.getfield 14, 3) := by decide +kernel
theorem dX7_feed_4 : decode cX7_feed 4 = .ok (.invokevirtual 69, 3) := by decide +kernel
theorem dX7_feed_7 : decode cX7_feed 7 = .ok (.bipush 20, 2) := by decide +kernel
theorem dX7_feed_9 : decode cX7_feed 9 = .ok (.iadd, 1) := by decide +kernel
theorem dX7_feed_10 : decode cX7_feed 10 = .ok (.sipush 2000, 3) := by decide +kernel
theorem dX7_feed_13 : decode cX7_feed 13 = .ok (.if_icmp .le 13, 3) := by decide +kernel
theorem dX7_feed_16 : decode cX7_feed 16 = .ok (.new 73, 3) := by decide +kernel
theorem dX7_feed_19 : decode cX7_feed 19 = .ok (.dup, 1) := by decide +kernel
theorem dX7_feed_20 : decode cX7_feed 20 = .ok (.ldc 75, 2) := by decide +kernel
theorem dX7_feed_22 : decode cX7_feed 22 = .ok (.invokespecial 77, 3) := by decide +kernel
theorem dX7_feed_25 : decode cX7_feed 25 = .ok (.athrow, 1) := by decide +kernel
theorem dX7_feed_26 : decode cX7_feed 26 = .ok (.aload_n 0, 1) := by decide +kernel
theorem dX7_feed_27 : decode cX7_feed 27 = .ok (.getfield 14, 3) := by decide +kernel
theorem dX7_feed_30 : decode cX7_feed 30 = .ok (.iload_n 1, 1) := by decide +kernel
theorem dX7_feed_31 : decode cX7_feed 31 = .ok (.invokevirtual 80, 3) := by decide +kernel
theorem dX7_feed_34 : decode cX7_feed 34 = .ok (.aload_n 0, 1) := by decide +kernel
theorem dX7_feed_35 : decode cX7_feed 35 = .ok (.getfield 14, 3) := by decide +kernel
theorem dX7_feed_38 : decode cX7_feed 38 = .ok (.iload_n 2, 1) := by decide +kernel
theorem dX7_feed_39 : decode cX7_feed 39 = .ok (.invokevirtual 80, 3) := by decide +kernel
theorem dX7_feed_42 : decode cX7_feed 42 = .ok (.aload_n 0, 1) := by decide +kernel
theorem dX7_feed_43 : decode cX7_feed 43 = .ok (.getfield 14, 3) := by decide +kernel
theorem dX7_feed_46 : decode cX7_feed 46 = .ok (.iload_n 3, 1) := by decide +kernel
theorem dX7_feed_47 : decode cX7_feed 47 = .ok (.invokevirtual 80, 3) := by decide +kernel
theorem dX7_feed_50 : decode cX7_feed 50 = .ok (.aload_n 0, 1) := by decide +kernel
theorem dX7_feed_51 : decode cX7_feed 51 = .ok (.getfield 14, 3) := by decide +kernel
theorem dX7_feed_54 : decode cX7_feed 54 = .ok (.iload 4, 2) := by decide +kernel
theorem dX7_feed_56 : decode cX7_feed 56 = .ok (.invokevirtual 80, 3) := by decide +kernel
theorem dX7_feed_59 : decode cX7_feed 59 = .ok (.aload_n 0, 1) := by decide +kernel
theorem dX7_feed_60 : decode cX7_feed 60 = .ok (.getfield 14, 3) := by decide +kernel
theorem dX7_feed_63 : decode cX7_feed 63 = .ok (.iload 5, 2) := by decide +kernel
theorem dX7_feed_65 : decode cX7_feed 65 = .ok (.invokevirtual 80, 3) := by decide +kernel
theorem dX7_feed_68 : decode cX7_feed 68 = .ok (.aload_n 0, 1) := by decide +kernel
theorem dX7_feed_69 : decode cX7_feed 69 = .ok (.getfield 14, 3) := by decide +kernel
theorem dX7_feed_72 : decode cX7_feed 72 = .ok (.invokevirtual 69, 3) := by decide +kernel
theorem dX7_feed_75 : decode cX7_feed 75 = .ok (.ireturn, 1) := by decide +kernel
theorem dX7_frees_0 : decode cX7_frees 0 = .ok (.aload_n 0, 1) := by decide +kernel
theorem dX7_frees_1 : decode cX7_frees 1 = .ok (.iload_n 1, 1) := by decide +kernel
theorem dX7_frees_2 : decode cX7_frees 2 = .ok (.invokevirtual 168, 3) := by decide +kernel
theorem dX7_frees_5 : decode cX7_frees 5 = .ok (.aload_n 0, 1) := by decide +kernel
theorem dX7_frees_6 : decode cX7_frees 6 = .ok (.getfield 33, 3) := by decide +kernel
theorem dX7_frees_9 : decode cX7_frees 9 = .ok (.iload_n 1, 1) := by decide +kernel
theorem dX7_frees_10 : decode cX7_frees 10 = .ok (.invokevirtual 186, 3) := by decide +kernel
theorem dX7_frees_13 : decode cX7_frees 13 = .ok (.ifCond .eq 5, 3) := by decide +kernel
theorem dX7_frees_16 : decode cX7_frees 16 = .ok (.iconst 0, 1) := by decide +kernel
theorem dX7_frees_17 : decode cX7_frees 17 = .ok (.ireturn, 1) := by decide +kernel
theorem dX7_frees_18 : decode cX7_frees 18 = .ok (.aload_n 0, 1) := by decide +kernel
theorem dX7_frees_19 : decode cX7_frees 19 = .ok (.iload_n 1, 1) := by decide +kernel
theorem dX7_frees_20 : decode cX7_frees 20 = .ok (.invokevirtual 233, 3) := by decide +kernel
theorem dX7_frees_23 : decode cX7_frees 23 = .ok (.istore_n 2, 1) := by decide +kernel
theorem dX7_frees_24 : decode cX7_frees 24 = .ok (.iload_n 2, 1) := by decide +kernel
theorem dX7_frees_25 : decode cX7_frees 25 = .ok (.iconst (-1), 1) := by decide +kernel
theorem dX7_frees_26 : decode cX7_frees 26 = .ok (.if_icmp .eq 9, 3) := by decide +kernel
theorem dX7_frees_29 : decode cX7_frees 29 = .ok (.iconst 1, 1) := by decide +kernel
theorem dX7_frees_30 : decode cX7_frees 30 = .ok (.iload_n 2, 1) := by decide +kernel
theorem dX7_frees_31 : decode cX7_frees 31 = .ok (.iadd, 1) := by decide +kernel
theorem dX7_frees_32 : decode cX7_frees 32 = .ok (.goto 8, 3) := by decide +kernel
theorem dX7_frees_35 : decode cX7_frees 35 = .ok (.aload_n 0, 1) := by decide +kernel
theorem dX7_frees_36 : decode cX7_frees 36 = .ok (.iload_n 1, 1) := by decide +kernel
theorem dX7_frees_37 : decode cX7_frees 37 = .ok (.invokevirtual 236, 3) := by decide +kernel
theorem dX7_frees_40 : decode cX7_frees 40 = .ok (.ireturn, 1) := by decide +kernel
theorem dX7_give_0 : decode cX7_give 0 = .ok (.aload_n 0, 1) := by decide +kernel
theorem dX7_give_1 : decode cX7_give 1 = .ok (.iload_n 1, 1) := by decide +kernel
theorem dX7_give_2 : decode cX7_give 2 = .ok (.invokevirtual 150, 3) := by decide +kernel
theorem dX7_give_5 : decode cX7_give 5 = .ok (.iload_n 2, 1) := by decide +kernel
theorem dX7_give_6 : decode cX7_give 6 = .ok (.iconst 1, 1) := by decide +kernel
theorem dX7_give_7 : decode cX7_give 7 = .ok (.if_icmp .lt 10, 3) := by decide +kernel
theorem dX7_give_10 : decode cX7_give 10 = .ok (.iload_n 2, 1) := by decide +kernel
theorem dX7_give_11 : decode cX7_give 11 = .ok (.sipush 3600, 3) := by decide +kernel
theorem dX7_give_14 : decode cX7_give 14 = .ok (.if_icmp .le 13, 3) := by decide +kernel
theorem dX7_give_17 : decode cX7_give 17 = .ok (.new 83, 3) := by decide +kernel
theorem dX7_give_20 : decode cX7_give 20 = .ok (.dup, 1) := by decide +kernel
theorem dX7_give_21 : decode cX7_give 21 = .ok (.ldc 207, 2) := by decide +kernel
theorem dX7_give_23 : decode cX7_give 23 = .ok (.invokespecial 87, 3) := by decide +kernel
theorem dX7_give_26 : decode cX7_give 26 = .ok (.athrow, 1) := by decide +kernel
theorem dX7_give_27 : decode cX7_give 27 = .ok (.aload_n 0, 1) := by decide +kernel
theorem dX7_give_28 : decode cX7_give 28 = .ok (.getfield 24, 3) := by decide +kernel
theorem dX7_give_31 : decode cX7_give 31 = .ok (.iload_n 1, 1) := by decide +kernel
theorem dX7_give_32 : decode cX7_give 32 = .ok (.iload_n 2, 1) := by decide +kernel
theorem dX7_give_33 : decode cX7_give 33 = .ok (.invokevirtual 209, 3) := by decide +kernel
theorem dX7_give_36 : decode cX7_give 36 = .ok (.aload_n 0, 1) := by decide +kernel
theorem dX7_give_37 : decode cX7_give 37 = .ok (.getfield 24, 3) := by decide +kernel
theorem dX7_give_40 : decode cX7_give 40 = .ok (.iload_n 1, 1) := by decide +kernel
theorem dX7_give_41 : decode cX7_give 41 = .ok (.invokevirtual 156, 3) := by decide +kernel
theorem dX7_give_44 : decode cX7_give 44 = .ok (.ireturn, 1) := by decide +kernel
theorem dX7_init_0 : decode cX7_init 0 = .ok (.aload_n 0, 1) := by decide +kernel
theorem dX7_init_1 : decode cX7_init 1 = .ok (.invokespecial 1, 3) := by decide +kernel
theorem dX7_init_4 : decode cX7_init 4 = .ok (.aload_n 0, 1) := by decide +kernel
theorem dX7_init_5 : decode cX7_init 5 = .ok (.new 7, 3) := by decide +kernel
theorem dX7_init_8 : decode cX7_init 8 = .ok (.dup, 1) := by decide +kernel
theorem dX7_init_9 : decode cX7_init 9 = .ok (.sipush 2000, 3) := by decide +kernel
theorem dX7_init_12 : decode cX7_init 12 = .ok (.invokespecial 11, 3) := by decide +kernel
theorem dX7_init_15 : decode cX7_init 15 = .ok (.putfield 14, 3) := by decide +kernel
theorem dX7_init_18 : decode cX7_init 18 = .ok (.aload_n 0, 1) := by decide +kernel
theorem dX7_init_19 : decode cX7_init 19 = .ok (.new 7, 3) := by decide +kernel
theorem dX7_init_22 : decode cX7_init 22 = .ok (.dup, 1) := by decide +kernel
theorem dX7_init_23 : decode cX7_init 23 = .ok (.sipush 920, 3) := by decide +kernel
theorem dX7_init_26 : decode cX7_init 26 = .ok (.invokespecial 11, 3) := by decide +kernel
theorem dX7_init_29 : decode cX7_init 29 = .ok (.putfield 18, 3) := by decide +kernel
theorem dX7_init_32 : decode cX7_init 32 = .ok (.aload_n 0, 1) := by decide +kernel
theorem dX7_init_33 : decode cX7_init 33 = .ok (.new 21, 3) := by decide +kernel
theorem dX7_init_36 : decode cX7_init 36 = .ok (.dup, 1) := by decide +kernel
theorem dX7_init_37 : decode cX7_init 37 = .ok (.invokespecial 23, 3) := by decide +kernel
theorem dX7_init_40 : decode cX7_init 40 = .ok (.putfield 24, 3) := by decide +kernel
theorem dX7_init_43 : decode cX7_init 43 = .ok (.aload_n 0, 1) := by decide +kernel
theorem dX7_init_44 : decode cX7_init 44 = .ok (.new 28, 3) := by decide +kernel
theorem dX7_init_47 : decode cX7_init 47 = .ok (.dup, 1) := by decide +kernel
theorem dX7_init_48 : decode cX7_init 48 = .ok (.aload_n 0, 1) := by decide +kernel
theorem dX7_init_49 : decode cX7_init 49 = .ok (.getfield 24, 3) := by decide +kernel
theorem dX7_init_52 : decode cX7_init 52 = .ok (.invokespecial 30, 3) := by decide +kernel
theorem dX7_init_55 : decode cX7_init 55 = .ok (.putfield 33, 3) := by decide +kernel
theorem dX7_init_58 : decode cX7_init 58 = .ok (.aload_n 0, 1) := by decide +kernel
theorem dX7_init_59 : decode cX7_init 59 = .ok (.new 28, 3) := by decide +kernel
theorem dX7_init_62 : decode cX7_init 62 = .ok (.dup, 1) := by decide +kernel
theorem dX7_init_63 : decode cX7_init 63 = .ok (.aload_n 0, 1) := by decide +kernel
theorem dX7_init_64 : decode cX7_init 64 = .ok (.getfield 24, 3) := by decide +kernel
theorem dX7_init_67 : decode cX7_init 67 = .ok (.invokespecial 30, 3) := by decide +kernel
theorem dX7_init_70 : decode cX7_init 70 = .ok (.putfield 37, 3) := by decide +kernel
theorem dX7_init_73 : decode cX7_init 73 = .ok (.aload_n 0, 1) := by decide +kernel
theorem dX7_init_74 : decode cX7_init 74 = .ok (.new 40, 3) := by decide +kernel
theorem dX7_init_77 : decode cX7_init 77 = .ok (.dup, 1) := by decide +kernel
theorem dX7_init_78 : decode cX7_init 78 = .ok (.invokespecial 42, 3) := by decide +kernel
theorem dX7_init_81 : decode cX7_init 81 = .ok (.putfield 43, 3) := by decide +kernel
theorem dX7_init_84 : decode cX7_init 84 = .ok (.aload_n 0, 1) := by decide +kernel
theorem dX7_init_85 : decode cX7_init 85 = .ok (.new 47, 3) := by decide +kernel
theorem dX7_init_88 : decode cX7_init 88 = .ok (.dup, 1) := by decide +kernel
theorem dX7_init_89 : decode cX7_init 89 = .ok (.aload_n 0, 1) := by decide +kernel
theorem dX7_init_90 : decode cX7_init 90 = .ok (.getfield 43, 3) := by decide +kernel
theorem dX7_init_93 : decode cX7_init 93 = .ok (.invokespecial 49, 3) := by decide +kernel
theorem dX7_init_96 : decode cX7_init 96 = .ok (.putfield 52, 3) := by decide +kernel
theorem dX7_init_99 : decode cX7_init 99 = .ok (.aload_n 0, 1) := by decide +kernel
theorem dX7_init_100 : decode cX7_init 100 = .ok (.new 56, 3) := by decide +kernel
theorem dX7_init_103 : decode cX7_init 103 = .ok (.dup, 1) := by decide +kernel
theorem dX7_init_104 : decode cX7_init 104 = .ok (.aload_n 0, 1) := by decide +kernel
theorem dX7_init_105 : decode cX7_init 105 = .ok (.getfield 43, 3) := by decide +kernel
theorem dX7_init_108 : decode cX7_init 108 = .ok (.aload_n 0, 1) := by decide +kernel
theorem dX7_init_109 : decode cX7_init 109 = .ok (.getfield 24, 3) := by decide +kernel
theorem dX7_init_112 : decode cX7_init 112 = .ok (.aload_n 0, 1) := by decide +kernel
theorem dX7_init_113 : decode cX7_init 113 = .ok (.getfield 33, 3) := by decide +kernel
theorem dX7_init_116 : decode cX7_init 116 = .ok (.invokespecial 58, 3) := by decide +kernel
theorem dX7_init_119 : decode cX7_init 119 = .ok (.putfield 61, 3) := by decide +kernel
theorem dX7_init_122 : decode cX7_init 122 = .ok (.aload_n 0, 1) := by decide +kernel
theorem dX7_init_123 : decode cX7_init 123 = .ok (.iconst (-1), 1) := by decide +kernel
theorem dX7_init_124 : decode cX7_init 124 = .ok (.putfield 65, 3) := by decide +kernel
theorem dX7_init_127 : decode cX7_init 127 = .ok (.return_, 1) := by decide +kernel
theorem dX7_item_0 : decode cX7_item 0 = .ok (.aload_n 0, 1) := by decide +kernel
theorem dX7_item_1 : decode cX7_item 1 = .ok (.iload_n 1, 1) := by decide +kernel
theorem dX7_item_2 : decode cX7_item 2 = .ok (.invokevirtual 168, 3) := by decide +kernel
theorem dX7_item_5 : decode cX7_item 5 = .ok (.iload_n 2, 1) := by decide +kernel
theorem dX7_item_6 : decode cX7_item 6 = .ok (.tableswitch 220 0 10 #[58, 67, 76, 85, 94, 103, 135, 144, 161, 178, 199], 58) := by decide +kernel
theorem dX7_item_64 : decode cX7_item 64 = .ok (.aload_n 0, 1) := by decide +kernel
theorem dX7_item_65 : decode cX7_item 65 = .ok (.getfield 24, 3) := by decide +kernel
theorem dX7_item_68 : decode cX7_item 68 = .ok (.iload_n 1, 1) := by decide +kernel
theorem dX7_item_69 : decode cX7_item 69 = .ok (.invokevirtual 171, 3) := by decide +kernel
theorem dX7_item_72 : decode cX7_item 72 = .ok (.ireturn, 1) := by decide +kernel
theorem dX7_item_73 : decode cX7_item 73 = .ok (.aload_n 0, 1) := by decide +kernel
theorem dX7_item_74 : decode cX7_item 74 = .ok (.getfield 24, 3) := by decide +kernel
theorem dX7_item_77 : decode cX7_item 77 = .ok (.iload_n 1, 1) := by decide +kernel
theorem dX7_item_78 : decode cX7_item 78 = .ok (.invokevirtual 174, 3) := by decide +kernel
theorem dX7_item_81 : decode cX7_item 81 = .ok (.ireturn, 1) := by decide +kernel
theorem dX7_item_82 : decode cX7_item 82 = .ok (.aload_n 0, 1) := by decide +kernel
theorem dX7_item_83 : decode cX7_item 83 = .ok (.getfield 24, 3) := by decide +kernel
theorem dX7_item_86 : decode cX7_item 86 = .ok (.iload_n 1, 1) := by decide +kernel
theorem dX7_item_87 : decode cX7_item 87 = .ok (.invokevirtual 177, 3) := by decide +kernel
theorem dX7_item_90 : decode cX7_item 90 = .ok (.ireturn, 1) := by decide +kernel
theorem dX7_item_91 : decode cX7_item 91 = .ok (.aload_n 0, 1) := by decide +kernel
theorem dX7_item_92 : decode cX7_item 92 = .ok (.getfield 24, 3) := by decide +kernel
theorem dX7_item_95 : decode cX7_item 95 = .ok (.iload_n 1, 1) := by decide +kernel
theorem dX7_item_96 : decode cX7_item 96 = .ok (.invokevirtual 180, 3) := by decide +kernel
theorem dX7_item_99 : decode cX7_item 99 = .ok (.ireturn, 1) := by decide +kernel
theorem dX7_item_100 : decode cX7_item 100 = .ok (.aload_n 0, 1) := by decide +kernel
theorem dX7_item_101 : decode cX7_item 101 = .ok (.getfield 24, 3) := by decide +kernel
theorem dX7_item_104 : decode cX7_item 104 = .ok (.iload_n 1, 1) := by decide +kernel
theorem dX7_item_105 : decode cX7_item 105 = .ok (.invokevirtual 183, 3) := by decide +kernel
theorem dX7_item_108 : decode cX7_item 108 = .ok (.ireturn, 1) := by decide +kernel
theorem dX7_item_109 : decode cX7_item 109 = .ok (.aload_n 0, 1) := by decide +kernel
theorem dX7_item_110 : decode cX7_item 110 = .ok (.getfield 33, 3) := by decide +kernel
theorem dX7_item_113 : decode cX7_item 113 = .ok (.iload_n 1, 1) := by decide +kernel
theorem dX7_item_114 : decode cX7_item 114 = .ok (.invokevirtual 186, 3) := by decide +kernel
theorem dX7_item_117 : decode cX7_item 117 = .ok (.ifCond .eq 7, 3) := by decide +kernel
theorem dX7_item_120 : decode cX7_item 120 = .ok (.iconst 1, 1) := by decide +kernel
theorem dX7_item_121 : decode cX7_item 121 = .ok (.goto 19, 3) := by decide +kernel
theorem dX7_item_124 : decode cX7_item 124 = .ok (.aload_n 0, 1) := by decide +kernel
theorem dX7_item_125 : decode cX7_item 125 = .ok (.getfield 33, 3) := by decide +kernel
theorem dX7_item_128 : decode cX7_item 128 = .ok (.iload_n 1, 1) := by decide +kernel
theorem dX7_item_129 : decode cX7_item 129 = .ok (.invokevirtual 190, 3) := by decide +kernel
theorem dX7_item_132 : decode cX7_item 132 = .ok (.ifCond .eq 7, 3) := by decide +kernel
theorem dX7_item_135 : decode cX7_item 135 = .ok (.iconst 2, 1) := by decide +kernel
theorem dX7_item_136 : decode cX7_item 136 = .ok (.goto 4, 3) := by decide +kernel
theorem dX7_item_139 : decode cX7_item 139 = .ok (.iconst 0, 1) := by decide +kernel
theorem dX7_item_140 : decode cX7_item 140 = .ok (.ireturn, 1) := by decide +kernel
theorem dX7_item_141 : decode cX7_item 141 = .ok (.aload_n 0, 1) := by decide +kernel
theorem dX7_item_142 : decode cX7_item 142 = .ok (.getfield 33, 3) := by decide +kernel
theorem dX7_item_145 : decode cX7_item 145 = .ok (.iload_n 1, 1) := by decide +kernel
theorem dX7_item_146 : decode cX7_item 146 = .ok (.invokevirtual 193, 3) := by decide +kernel
theorem dX7_item_149 : decode cX7_item 149 = .ok (.ireturn, 1) := by decide +kernel
theorem dX7_item_150 : decode cX7_item 150 = .ok (.aload_n 0, 1) := by decide +kernel
theorem dX7_item_151 : decode cX7_item 151 = .ok (.getfield 24, 3) := by decide +kernel
theorem dX7_item_154 : decode cX7_item 154 = .ok (.iload_n 1, 1) := by decide +kernel
theorem dX7_item_155 : decode cX7_item 155 = .ok (.invokevirtual 196, 3) := by decide +kernel
theorem dX7_item_158 : decode cX7_item 158 = .ok (.ifCond .eq 7, 3) := by decide +kernel
theorem dX7_item_161 : decode cX7_item 161 = .ok (.iconst 1, 1) := by decide +kernel
theorem dX7_item_162 : decode cX7_item 162 = .ok (.goto 4, 3) := by decide +kernel
theorem dX7_item_165 : decode cX7_item 165 = .ok (.iconst 0, 1) := by decide +kernel
theorem dX7_item_166 : decode cX7_item 166 = .ok (.ireturn, 1) := by decide +kernel
theorem dX7_item_167 : decode cX7_item 167 = .ok (.aload_n 0, 1) := by decide +kernel
theorem dX7_item_168 : decode cX7_item 168 = .ok (.getfield 24, 3) := by decide +kernel
theorem dX7_item_171 : decode cX7_item 171 = .ok (.iload_n 1, 1) := by decide +kernel
theorem dX7_item_172 : decode cX7_item 172 = .ok (.invokevirtual 199, 3) := by decide +kernel
theorem dX7_item_175 : decode cX7_item 175 = .ok (.ifCond .eq 7, 3) := by decide +kernel
theorem dX7_item_178 : decode cX7_item 178 = .ok (.iconst 1, 1) := by decide +kernel
theorem dX7_item_179 : decode cX7_item 179 = .ok (.goto 4, 3) := by decide +kernel
theorem dX7_item_182 : decode cX7_item 182 = .ok (.iconst 0, 1) := by decide +kernel
theorem dX7_item_183 : decode cX7_item 183 = .ok (.ireturn, 1) := by decide +kernel
theorem dX7_item_184 : decode cX7_item 184 = .ok (.aload_n 0, 1) := by decide +kernel
theorem dX7_item_185 : decode cX7_item 185 = .ok (.getfield 24, 3) := by decide +kernel
theorem dX7_item_188 : decode cX7_item 188 = .ok (.iload_n 1, 1) := by decide +kernel
theorem dX7_item_189 : decode cX7_item 189 = .ok (.invokevirtual 202, 3) := by decide +kernel
theorem dX7_item_192 : decode cX7_item 192 = .ok (.aload_n 0, 1) := by decide +kernel
theorem dX7_item_193 : decode cX7_item 193 = .ok (.getfield 24, 3) := by decide +kernel
theorem dX7_item_196 : decode cX7_item 196 = .ok (.iconst 1, 1) := by decide +kernel
theorem dX7_item_197 : decode cX7_item 197 = .ok (.invokevirtual 119, 3) := by decide +kernel
theorem dX7_item_200 : decode cX7_item 200 = .ok (.land, 1) := by decide +kernel
theorem dX7_item_201 : decode cX7_item 201 = .ok (.invokestatic 123, 3) := by decide +kernel
theorem dX7_item_204 : decode cX7_item 204 = .ok (.ireturn, 1) := by decide +kernel
theorem dX7_item_205 : decode cX7_item 205 = .ok (.aload_n 0, 1) := by decide +kernel
theorem dX7_item_206 : decode cX7_item 206 = .ok (.getfield 24, 3) := by decide +kernel
theorem dX7_item_209 : decode cX7_item 209 = .ok (.iload_n 1, 1) := by decide +kernel
theorem dX7_item_210 : decode cX7_item 210 = .ok (.invokevirtual 202, 3) := by decide +kernel
theorem dX7_item_213 : decode cX7_item 213 = .ok (.aload_n 0, 1) := by decide +kernel
theorem dX7_item_214 : decode cX7_item 214 = .ok (.getfield 24, 3) := by decide +kernel
theorem dX7_item_217 : decode cX7_item 217 = .ok (.iconst 2, 1) := by decide +kernel
theorem dX7_item_218 : decode cX7_item 218 = .ok (.invokevirtual 119, 3) := by decide +kernel
theorem dX7_item_221 : decode cX7_item 221 = .ok (.land, 1) := by decide +kernel
theorem dX7_item_222 : decode cX7_item 222 = .ok (.invokestatic 123, 3) := by decide +kernel
theorem dX7_item_225 : decode cX7_item 225 = .ok (.ireturn, 1) := by decide +kernel
theorem dX7_item_226 : decode cX7_item 226 = .ok (.new 145, 3) := by decide +kernel
theorem dX7_item_229 : decode cX7_item 229 = .ok (.dup, 1) := by decide +kernel
theorem dX7_item_230 : decode cX7_item 230 = .ok (.ldc 205, 2) := by decide +kernel
theorem dX7_item_232 : decode cX7_item 232 = .ok (.invokespecial 149, 3) := by decide +kernel
theorem dX7_item_235 : decode cX7_item 235 = .ok (.athrow, 1) := by decide +kernel
theorem dX7_leader_0 : decode cX7_leader 0 = .ok (.iconst (-1), 1) := by decide +kernel
theorem dX7_leader_1 : decode cX7_leader 1 = .ok (.istore_n 1, 1) := by decide +kernel
theorem dX7_leader_2 : decode cX7_leader 2 = .ok (.iconst 0, 1) := by decide +kernel
theorem dX7_leader_3 : decode cX7_leader 3 = .ok (.istore_n 2, 1) := by decide +kernel
theorem dX7_leader_4 : decode cX7_leader 4 = .ok (.iload_n 2, 1) := by decide +kernel
theorem dX7_leader_5 : decode cX7_leader 5 = .ok (.aload_n 0, 1) := by decide +kernel
theorem dX7_leader_6 : decode cX7_leader 6 = .ok (.getfield 24, 3) := by decide +kernel
theorem dX7_leader_9 : decode cX7_leader 9 = .ok (.invokevirtual 113, 3) := by decide +kernel
theorem dX7_leader_12 : decode cX7_leader 12 = .ok (.if_icmp .ge 35, 3) := by decide +kernel
theorem dX7_leader_15 : decode cX7_leader 15 = .ok (.iload_n 1, 1) := by decide +kernel
theorem dX7_leader_16 : decode cX7_leader 16 = .ok (.iconst (-1), 1) := by decide +kernel
theorem dX7_leader_17 : decode cX7_leader 17 = .ok (.if_icmp .eq 22, 3) := by decide +kernel
theorem dX7_leader_20 : decode cX7_leader 20 = .ok (.aload_n 0, 1) := by decide +kernel
theorem dX7_leader_21 : decode cX7_leader 21 = .ok (.getfield 33, 3) := by decide +kernel
theorem dX7_leader_24 : decode cX7_leader 24 = .ok (.iload_n 2, 1) := by decide +kernel
theorem dX7_leader_25 : decode cX7_leader 25 = .ok (.invokevirtual 160, 3) := by decide +kernel
theorem dX7_leader_28 : decode cX7_leader 28 = .ok (.aload_n 0, 1) := by decide +kernel
theorem dX7_leader_29 : decode cX7_leader 29 = .ok (.getfield 33, 3) := by decide +kernel
theorem dX7_leader_32 : decode cX7_leader 32 = .ok (.iload_n 1, 1) := by decide +kernel
theorem dX7_leader_33 : decode cX7_leader 33 = .ok (.invokevirtual 160, 3) := by decide +kernel
theorem dX7_leader_36 : decode cX7_leader 36 = .ok (.if_icmp .le 5, 3) := by decide +kernel
theorem dX7_leader_39 : decode cX7_leader 39 = .ok (.iload_n 2, 1) := by decide +kernel
theorem dX7_leader_40 : decode cX7_leader 40 = .ok (.istore_n 1, 1) := by decide +kernel
theorem dX7_leader_41 : decode cX7_leader 41 = .ok (.iinc 2 1, 3) := by decide +kernel
theorem dX7_leader_44 : decode cX7_leader 44 = .ok (.goto (-40), 3) := by decide +kernel
theorem dX7_leader_47 : decode cX7_leader 47 = .ok (.iload_n 1, 1) := by decide +kernel
theorem dX7_leader_48 : decode cX7_leader 48 = .ok (.ireturn, 1) := by decide +kernel
theorem dX7_least_0 : decode cX7_least 0 = .ok (.aload_n 0, 1) := by decide +kernel
theorem dX7_least_1 : decode cX7_least 1 = .ok (.iload_n 1, 1) := by decide +kernel
theorem dX7_least_2 : decode cX7_least 2 = .ok (.invokevirtual 168, 3) := by decide +kernel
theorem dX7_least_5 : decode cX7_least 5 = .ok (.aload_n 0, 1) := by decide +kernel
theorem dX7_least_6 : decode cX7_least 6 = .ok (.getfield 24, 3) := by decide +kernel
theorem dX7_least_9 : decode cX7_least 9 = .ok (.iload_n 1, 1) := by decide +kernel
theorem dX7_least_10 : decode cX7_least 10 = .ok (.invokevirtual 230, 3) := by decide +kernel
theorem dX7_least_13 : decode cX7_least 13 = .ok (.ireturn, 1) := by decide +kernel
theorem dX7_needItem_0 : decode cX7_needItem 0 = .ok (.aload_n 0, 1) := by decide +kernel
theorem dX7_needItem_1 : decode cX7_needItem 1 = .ok (.getfield 24, 3) := by decide +kernel
theorem dX7_needItem_4 : decode cX7_needItem 4 = .ok (.iload_n 1, 1) := by decide +kernel
theorem dX7_needItem_5 : decode cX7_needItem 5 = .ok (.invokevirtual 291, 3) := by decide +kernel
theorem dX7_needItem_8 : decode cX7_needItem 8 = .ok (.ifCond .ne 14, 3) := by decide +kernel
theorem dX7_needItem_11 : decode cX7_needItem 11 = .ok (.new 145, 3) := by decide +kernel
theorem dX7_needItem_14 : decode cX7_needItem 14 = .ok (.dup, 1) := by decide +kernel
theorem dX7_needItem_15 : decode cX7_needItem 15 = .ok (.ldc_w 294, 3) := by decide +kernel
theorem dX7_needItem_18 : decode cX7_needItem 18 = .ok (.invokespecial 149, 3) := by decide +kernel
theorem dX7_needItem_21 : decode cX7_needItem 21 = .ok (.athrow, 1) := by decide +kernel
theorem dX7_needItem_22 : decode cX7_needItem 22 = .ok (.return_, 1) := by decide +kernel
theorem dX7_needSpeaker_0 : decode cX7_needSpeaker 0 = .ok (.aload_n 0, 1) := by decide +kernel
theorem dX7_needSpeaker_1 : decode cX7_needSpeaker 1 = .ok (.getfield 24, 3) := by decide +kernel
theorem dX7_needSpeaker_4 : decode cX7_needSpeaker 4 = .ok (.iload_n 1, 1) := by decide +kernel
theorem dX7_needSpeaker_5 : decode cX7_needSpeaker 5 = .ok (.invokevirtual 286, 3) := by decide +kernel
theorem dX7_needSpeaker_8 : decode cX7_needSpeaker 8 = .ok (.ifCond .ne 14, 3) := by decide +kernel
theorem dX7_needSpeaker_11 : decode cX7_needSpeaker 11 = .ok (.new 145, 3) := by decide +kernel
theorem dX7_needSpeaker_14 : decode cX7_needSpeaker 14 = .ok (.dup, 1) := by decide +kernel
theorem dX7_needSpeaker_15 : decode cX7_needSpeaker 15 = .ok (.ldc_w 289, 3) := by decide +kernel
theorem dX7_needSpeaker_18 : decode cX7_needSpeaker 18 = .ok (.invokespecial 149, 3) := by decide +kernel
theorem dX7_needSpeaker_21 : decode cX7_needSpeaker 21 = .ok (.athrow, 1) := by decide +kernel
theorem dX7_needSpeaker_22 : decode cX7_needSpeaker 22 = .ok (.return_, 1) := by decide +kernel
theorem dX7_oneThatFrees_0 : decode cX7_oneThatFrees 0 = .ok (.iconst 0, 1) := by decide +kernel
theorem dX7_oneThatFrees_1 : decode cX7_oneThatFrees 1 = .ok (.istore_n 2, 1) := by decide +kernel
theorem dX7_oneThatFrees_2 : decode cX7_oneThatFrees 2 = .ok (.iload_n 2, 1) := by decide +kernel
theorem dX7_oneThatFrees_3 : decode cX7_oneThatFrees 3 = .ok (.aload_n 0, 1) := by decide +kernel
theorem dX7_oneThatFrees_4 : decode cX7_oneThatFrees 4 = .ok (.getfield 24, 3) := by decide +kernel
theorem dX7_oneThatFrees_7 : decode cX7_oneThatFrees 7 = .ok (.invokevirtual 116, 3) := by decide +kernel
theorem dX7_oneThatFrees_10 : decode cX7_oneThatFrees 10 = .ok (.if_icmp .ge 39, 3) := by decide +kernel
theorem dX7_oneThatFrees_13 : decode cX7_oneThatFrees 13 = .ok (.iload_n 2, 1) := by decide +kernel
theorem dX7_oneThatFrees_14 : decode cX7_oneThatFrees 14 = .ok (.iload_n 1, 1) := by decide +kernel
theorem dX7_oneThatFrees_15 : decode cX7_oneThatFrees 15 = .ok (.if_icmp .eq 28, 3) := by decide +kernel
theorem dX7_oneThatFrees_18 : decode cX7_oneThatFrees 18 = .ok (.aload_n 0, 1) := by decide +kernel
theorem dX7_oneThatFrees_19 : decode cX7_oneThatFrees 19 = .ok (.getfield 37, 3) := by decide +kernel
theorem dX7_oneThatFrees_22 : decode cX7_oneThatFrees 22 = .ok (.iload_n 2, 1) := by decide +kernel
theorem dX7_oneThatFrees_23 : decode cX7_oneThatFrees 23 = .ok (.invokestatic 213, 3) := by decide +kernel
theorem dX7_oneThatFrees_26 : decode cX7_oneThatFrees 26 = .ok (.lconst 0, 1) := by decide +kernel
theorem dX7_oneThatFrees_27 : decode cX7_oneThatFrees 27 = .ok (.invokevirtual 109, 3) := by decide +kernel
theorem dX7_oneThatFrees_30 : decode cX7_oneThatFrees 30 = .ok (.aload_n 0, 1) := by decide +kernel
theorem dX7_oneThatFrees_31 : decode cX7_oneThatFrees 31 = .ok (.getfield 37, 3) := by decide +kernel
theorem dX7_oneThatFrees_34 : decode cX7_oneThatFrees 34 = .ok (.iload_n 1, 1) := by decide +kernel
theorem dX7_oneThatFrees_35 : decode cX7_oneThatFrees 35 = .ok (.invokevirtual 186, 3) := by decide +kernel
theorem dX7_oneThatFrees_38 : decode cX7_oneThatFrees 38 = .ok (.ifCond .eq 5, 3) := by decide +kernel
theorem dX7_oneThatFrees_41 : decode cX7_oneThatFrees 41 = .ok (.iload_n 2, 1) := by decide +kernel
theorem dX7_oneThatFrees_42 : decode cX7_oneThatFrees 42 = .ok (.ireturn, 1) := by decide +kernel
theorem dX7_oneThatFrees_43 : decode cX7_oneThatFrees 43 = .ok (.iinc 2 1, 3) := by decide +kernel
theorem dX7_oneThatFrees_46 : decode cX7_oneThatFrees 46 = .ok (.goto (-44), 3) := by decide +kernel
theorem dX7_oneThatFrees_49 : decode cX7_oneThatFrees 49 = .ok (.iconst (-1), 1) := by decide +kernel
theorem dX7_oneThatFrees_50 : decode cX7_oneThatFrees 50 = .ok (.ireturn, 1) := by decide +kernel
theorem dX7_pairThatFrees_0 : decode cX7_pairThatFrees 0 = .ok (.iconst 0, 1) := by decide +kernel
theorem dX7_pairThatFrees_1 : decode cX7_pairThatFrees 1 = .ok (.istore_n 2, 1) := by decide +kernel
theorem dX7_pairThatFrees_2 : decode cX7_pairThatFrees 2 = .ok (.iload_n 2, 1) := by decide +kernel
theorem dX7_pairThatFrees_3 : decode cX7_pairThatFrees 3 = .ok (.aload_n 0, 1) := by decide +kernel
theorem dX7_pairThatFrees_4 : decode cX7_pairThatFrees 4 = .ok (.getfield 24, 3) := by decide +kernel
theorem dX7_pairThatFrees_7 : decode cX7_pairThatFrees 7 = .ok (.invokevirtual 116, 3) := by decide +kernel
theorem dX7_pairThatFrees_10 : decode cX7_pairThatFrees 10 = .ok (.if_icmp .ge 79, 3) := by decide +kernel
theorem dX7_pairThatFrees_13 : decode cX7_pairThatFrees 13 = .ok (.iload_n 2, 1) := by decide +kernel
theorem dX7_pairThatFrees_14 : decode cX7_pairThatFrees 14 = .ok (.iconst 1, 1) := by decide +kernel
theorem dX7_pairThatFrees_15 : decode cX7_pairThatFrees 15 = .ok (.iadd, 1) := by decide +kernel
theorem dX7_pairThatFrees_16 : decode cX7_pairThatFrees 16 = .ok (.istore_n 3, 1) := by decide +kernel
theorem dX7_pairThatFrees_17 : decode cX7_pairThatFrees 17 = .ok (.iload_n 3, 1) := by decide +kernel
theorem dX7_pairThatFrees_18 : decode cX7_pairThatFrees 18 = .ok (.aload_n 0, 1) := by decide +kernel
theorem dX7_pairThatFrees_19 : decode cX7_pairThatFrees 19 = .ok (.getfield 24, 3) := by decide +kernel
theorem dX7_pairThatFrees_22 : decode cX7_pairThatFrees 22 = .ok (.invokevirtual 116, 3) := by decide +kernel
theorem dX7_pairThatFrees_25 : decode cX7_pairThatFrees 25 = .ok (.if_icmp .ge 58, 3) := by decide +kernel
theorem dX7_pairThatFrees_28 : decode cX7_pairThatFrees 28 = .ok (.iload_n 2, 1) := by decide +kernel
theorem dX7_pairThatFrees_29 : decode cX7_pairThatFrees 29 = .ok (.iload_n 1, 1) := by decide +kernel
theorem dX7_pairThatFrees_30 : decode cX7_pairThatFrees 30 = .ok (.if_icmp .eq 47, 3) := by decide +kernel
theorem dX7_pairThatFrees_33 : decode cX7_pairThatFrees 33 = .ok (.iload_n 3, 1) := by decide +kernel
theorem dX7_pairThatFrees_34 : decode cX7_pairThatFrees 34 = .ok (.iload_n 1, 1) := by decide +kernel
theorem dX7_pairThatFrees_35 : decode cX7_pairThatFrees 35 = .ok (.if_icmp .eq 42, 3) := by decide +kernel
theorem dX7_pairThatFrees_38 : decode cX7_pairThatFrees 38 = .ok (.aload_n 0, 1) := by decide +kernel
theorem dX7_pairThatFrees_39 : decode cX7_pairThatFrees 39 = .ok (.getfield 37, 3) := by decide +kernel
theorem dX7_pairThatFrees_42 : decode cX7_pairThatFrees 42 = .ok (.iload_n 2, 1) := by decide +kernel
theorem dX7_pairThatFrees_43 : decode cX7_pairThatFrees 43 = .ok (.invokestatic 213, 3) := by decide +kernel
theorem dX7_pairThatFrees_46 : decode cX7_pairThatFrees 46 = .ok (.iload_n 3, 1) := by decide +kernel
theorem dX7_pairThatFrees_47 : decode cX7_pairThatFrees 47 = .ok (.invokestatic 213, 3) := by decide +kernel
theorem dX7_pairThatFrees_50 : decode cX7_pairThatFrees 50 = .ok (.lor, 1) := by decide +kernel
theorem dX7_pairThatFrees_51 : decode cX7_pairThatFrees 51 = .ok (.lconst 0, 1) := by decide +kernel
theorem dX7_pairThatFrees_52 : decode cX7_pairThatFrees 52 = .ok (.invokevirtual 109, 3) := by decide +kernel
theorem dX7_pairThatFrees_55 : decode cX7_pairThatFrees 55 = .ok (.aload_n 0, 1) := by decide +kernel
theorem dX7_pairThatFrees_56 : decode cX7_pairThatFrees 56 = .ok (.getfield 37, 3) := by decide +kernel
theorem dX7_pairThatFrees_59 : decode cX7_pairThatFrees 59 = .ok (.iload_n 1, 1) := by decide +kernel
theorem dX7_pairThatFrees_60 : decode cX7_pairThatFrees 60 = .ok (.invokevirtual 186, 3) := by decide +kernel
theorem dX7_pairThatFrees_63 : decode cX7_pairThatFrees 63 = .ok (.ifCond .eq 14, 3) := by decide +kernel
theorem dX7_pairThatFrees_66 : decode cX7_pairThatFrees 66 = .ok (.bipush 100, 2) := by decide +kernel
theorem dX7_pairThatFrees_68 : decode cX7_pairThatFrees 68 = .ok (.iconst 1, 1) := by decide +kernel
theorem dX7_pairThatFrees_69 : decode cX7_pairThatFrees 69 = .ok (.iload_n 2, 1) := by decide +kernel
theorem dX7_pairThatFrees_70 : decode cX7_pairThatFrees 70 = .ok (.iadd, 1) := by decide +kernel
theorem dX7_pairThatFrees_71 : decode cX7_pairThatFrees 71 = .ok (.imul, 1) := by decide +kernel
theorem dX7_pairThatFrees_72 : decode cX7_pairThatFrees 72 = .ok (.iconst 1, 1) := by decide +kernel
theorem dX7_pairThatFrees_73 : decode cX7_pairThatFrees 73 = .ok (.iadd, 1) := by decide +kernel
theorem dX7_pairThatFrees_74 : decode cX7_pairThatFrees 74 = .ok (.iload_n 3, 1) := by decide +kernel
theorem dX7_pairThatFrees_75 : decode cX7_pairThatFrees 75 = .ok (.iadd, 1) := by decide +kernel
theorem dX7_pairThatFrees_76 : decode cX7_pairThatFrees 76 = .ok (.ireturn, 1) := by decide +kernel
theorem dX7_pairThatFrees_77 : decode cX7_pairThatFrees 77 = .ok (.iinc 3 1, 3) := by decide +kernel
theorem dX7_pairThatFrees_80 : decode cX7_pairThatFrees 80 = .ok (.goto (-63), 3) := by decide +kernel
theorem dX7_pairThatFrees_83 : decode cX7_pairThatFrees 83 = .ok (.iinc 2 1, 3) := by decide +kernel
theorem dX7_pairThatFrees_86 : decode cX7_pairThatFrees 86 = .ok (.goto (-84), 3) := by decide +kernel
theorem dX7_pairThatFrees_89 : decode cX7_pairThatFrees 89 = .ok (.iconst (-1), 1) := by decide +kernel
theorem dX7_pairThatFrees_90 : decode cX7_pairThatFrees 90 = .ok (.ireturn, 1) := by decide +kernel
theorem dX7_share_0 : decode cX7_share 0 = .ok (.aload_n 0, 1) := by decide +kernel
theorem dX7_share_1 : decode cX7_share 1 = .ok (.getfield 24, 3) := by decide +kernel
theorem dX7_share_4 : decode cX7_share 4 = .ok (.iconst 0, 1) := by decide +kernel
theorem dX7_share_5 : decode cX7_share 5 = .ok (.invokevirtual 119, 3) := by decide +kernel
theorem dX7_share_8 : decode cX7_share 8 = .ok (.lstore_n 1, 1) := by decide +kernel
theorem dX7_share_9 : decode cX7_share 9 = .ok (.lload_n 1, 1) := by decide +kernel
theorem dX7_share_10 : decode cX7_share 10 = .ok (.invokestatic 123, 3) := by decide +kernel
theorem dX7_share_13 : decode cX7_share 13 = .ok (.istore_n 3, 1) := by decide +kernel
theorem dX7_share_14 : decode cX7_share 14 = .ok (.iload_n 3, 1) := by decide +kernel
theorem dX7_share_15 : decode cX7_share 15 = .ok (.ifCond .ne 5, 3) := by decide +kernel
theorem dX7_share_18 : decode cX7_share 18 = .ok (.dconst 0, 1) := by decide +kernel
theorem dX7_share_19 : decode cX7_share 19 = .ok (.dreturn, 1) := by decide +kernel
theorem dX7_share_20 : decode cX7_share 20 = .ok (.lload_n 1, 1) := by decide +kernel
theorem dX7_share_21 : decode cX7_share 21 = .ok (.aload_n 0, 1) := by decide +kernel
theorem dX7_share_22 : decode cX7_share 22 = .ok (.getfield 33, 3) := by decide +kernel
theorem dX7_share_25 : decode cX7_share 25 = .ok (.invokevirtual 129, 3) := by decide +kernel
theorem dX7_share_28 : decode cX7_share 28 = .ok (.land, 1) := by decide +kernel
theorem dX7_share_29 : decode cX7_share 29 = .ok (.invokestatic 123, 3) := by decide +kernel
theorem dX7_share_32 : decode cX7_share 32 = .ok (.i2d, 1) := by decide +kernel
theorem dX7_share_33 : decode cX7_share 33 = .ok (.iload_n 3, 1) := by decide +kernel
theorem dX7_share_34 : decode cX7_share 34 = .ok (.i2d, 1) := by decide +kernel
theorem dX7_share_35 : decode cX7_share 35 = .ok (.ddiv, 1) := by decide +kernel
theorem dX7_share_36 : decode cX7_share 36 = .ok (.dreturn, 1) := by decide +kernel
theorem dX7_sheet_0 : decode cX7_sheet 0 = .ok (.aload_n 0, 1) := by decide +kernel
theorem dX7_sheet_1 : decode cX7_sheet 1 = .ok (.getfield 18, 3) := by decide +kernel
theorem dX7_sheet_4 : decode cX7_sheet 4 = .ok (.iconst 0, 1) := by decide +kernel
theorem dX7_sheet_5 : decode cX7_sheet 5 = .ok (.invokevirtual 88, 3) := by decide +kernel
theorem dX7_sheet_8 : decode cX7_sheet 8 = .ok (.iconst 0, 1) := by decide +kernel
theorem dX7_sheet_9 : decode cX7_sheet 9 = .ok (.istore_n 1, 1) := by decide +kernel
theorem dX7_sheet_10 : decode cX7_sheet 10 = .ok (.iload_n 1, 1) := by decide +kernel
theorem dX7_sheet_11 : decode cX7_sheet 11 = .ok (.aload_n 0, 1) := by decide +kernel
theorem dX7_sheet_12 : decode cX7_sheet 12 = .ok (.getfield 24, 3) := by decide +kernel
theorem dX7_sheet_15 : decode cX7_sheet 15 = .ok (.invokevirtual 116, 3) := by decide +kernel
theorem dX7_sheet_18 : decode cX7_sheet 18 = .ok (.if_icmp .ge 91, 3) := by decide +kernel
theorem dX7_sheet_21 : decode cX7_sheet 21 = .ok (.aload_n 0, 1) := by decide +kernel
theorem dX7_sheet_22 : decode cX7_sheet 22 = .ok (.getfield 18, 3) := by decide +kernel
theorem dX7_sheet_25 : decode cX7_sheet 25 = .ok (.aload_n 0, 1) := by decide +kernel
theorem dX7_sheet_26 : decode cX7_sheet 26 = .ok (.getfield 24, 3) := by decide +kernel
theorem dX7_sheet_29 : decode cX7_sheet 29 = .ok (.iload_n 1, 1) := by decide +kernel
theorem dX7_sheet_30 : decode cX7_sheet 30 = .ok (.invokevirtual 239, 3) := by decide +kernel
theorem dX7_sheet_33 : decode cX7_sheet 33 = .ok (.invokevirtual 242, 3) := by decide +kernel
theorem dX7_sheet_36 : decode cX7_sheet 36 = .ok (.aload_n 0, 1) := by decide +kernel
theorem dX7_sheet_37 : decode cX7_sheet 37 = .ok (.getfield 18, 3) := by decide +kernel
theorem dX7_sheet_40 : decode cX7_sheet 40 = .ok (.bipush 32, 2) := by decide +kernel
theorem dX7_sheet_42 : decode cX7_sheet 42 = .ok (.invokevirtual 246, 3) := by decide +kernel
theorem dX7_sheet_45 : decode cX7_sheet 45 = .ok (.aload_n 0, 1) := by decide +kernel
theorem dX7_sheet_46 : decode cX7_sheet 46 = .ok (.getfield 18, 3) := by decide +kernel
theorem dX7_sheet_49 : decode cX7_sheet 49 = .ok (.aload_n 0, 1) := by decide +kernel
theorem dX7_sheet_50 : decode cX7_sheet 50 = .ok (.getfield 24, 3) := by decide +kernel
theorem dX7_sheet_53 : decode cX7_sheet 53 = .ok (.aload_n 0, 1) := by decide +kernel
theorem dX7_sheet_54 : decode cX7_sheet 54 = .ok (.getfield 24, 3) := by decide +kernel
theorem dX7_sheet_57 : decode cX7_sheet 57 = .ok (.iload_n 1, 1) := by decide +kernel
theorem dX7_sheet_58 : decode cX7_sheet 58 = .ok (.invokevirtual 174, 3) := by decide +kernel
theorem dX7_sheet_61 : decode cX7_sheet 61 = .ok (.invokevirtual 249, 3) := by decide +kernel
theorem dX7_sheet_64 : decode cX7_sheet 64 = .ok (.invokevirtual 242, 3) := by decide +kernel
theorem dX7_sheet_67 : decode cX7_sheet 67 = .ok (.aload_n 0, 1) := by decide +kernel
theorem dX7_sheet_68 : decode cX7_sheet 68 = .ok (.getfield 18, 3) := by decide +kernel
theorem dX7_sheet_71 : decode cX7_sheet 71 = .ok (.bipush 32, 2) := by decide +kernel
theorem dX7_sheet_73 : decode cX7_sheet 73 = .ok (.invokevirtual 246, 3) := by decide +kernel
theorem dX7_sheet_76 : decode cX7_sheet 76 = .ok (.aload_n 0, 1) := by decide +kernel
theorem dX7_sheet_77 : decode cX7_sheet 77 = .ok (.getfield 18, 3) := by decide +kernel
theorem dX7_sheet_80 : decode cX7_sheet 80 = .ok (.aload_n 0, 1) := by decide +kernel
theorem dX7_sheet_81 : decode cX7_sheet 81 = .ok (.getfield 33, 3) := by decide +kernel
theorem dX7_sheet_84 : decode cX7_sheet 84 = .ok (.iload_n 1, 1) := by decide +kernel
theorem dX7_sheet_85 : decode cX7_sheet 85 = .ok (.invokevirtual 252, 3) := by decide +kernel
theorem dX7_sheet_88 : decode cX7_sheet 88 = .ok (.invokevirtual 256, 3) := by decide +kernel
theorem dX7_sheet_91 : decode cX7_sheet 91 = .ok (.invokevirtual 242, 3) := by decide +kernel
theorem dX7_sheet_94 : decode cX7_sheet 94 = .ok (.aload_n 0, 1) := by decide +kernel
theorem dX7_sheet_95 : decode cX7_sheet 95 = .ok (.getfield 18, 3) := by decide +kernel
theorem dX7_sheet_98 : decode cX7_sheet 98 = .ok (.bipush 10, 2) := by decide +kernel
theorem dX7_sheet_100 : decode cX7_sheet 100 = .ok (.invokevirtual 246, 3) := by decide +kernel
theorem dX7_sheet_103 : decode cX7_sheet 103 = .ok (.iinc 1 1, 3) := by decide +kernel
theorem dX7_sheet_106 : decode cX7_sheet 106 = .ok (.goto (-96), 3) := by decide +kernel
theorem dX7_sheet_109 : decode cX7_sheet 109 = .ok (.aload_n 0, 1) := by decide +kernel
theorem dX7_sheet_110 : decode cX7_sheet 110 = .ok (.getfield 18, 3) := by decide +kernel
theorem dX7_sheet_113 : decode cX7_sheet 113 = .ok (.invokevirtual 69, 3) := by decide +kernel
theorem dX7_sheet_116 : decode cX7_sheet 116 = .ok (.ireturn, 1) := by decide +kernel
theorem dX7_speaker_0 : decode cX7_speaker 0 = .ok (.aload_n 0, 1) := by decide +kernel
theorem dX7_speaker_1 : decode cX7_speaker 1 = .ok (.iload_n 1, 1) := by decide +kernel
theorem dX7_speaker_2 : decode cX7_speaker 2 = .ok (.invokevirtual 150, 3) := by decide +kernel
theorem dX7_speaker_5 : decode cX7_speaker 5 = .ok (.aload_n 0, 1) := by decide +kernel
theorem dX7_speaker_6 : decode cX7_speaker 6 = .ok (.getfield 24, 3) := by decide +kernel
theorem dX7_speaker_9 : decode cX7_speaker 9 = .ok (.iload_n 1, 1) := by decide +kernel
theorem dX7_speaker_10 : decode cX7_speaker 10 = .ok (.invokevirtual 153, 3) := by decide +kernel
theorem dX7_speaker_13 : decode cX7_speaker 13 = .ok (.lstore_n 3, 1) := by decide +kernel
theorem dX7_speaker_14 : decode cX7_speaker 14 = .ok (.iload_n 2, 1) := by decide +kernel
theorem dX7_speaker_15 : decode cX7_speaker 15 = .ok (.tableswitch 123 0 6 #[41, 50, 59, 68, 82, 96, 110], 41) := by decide +kernel
theorem dX7_speaker_56 : decode cX7_speaker 56 = .ok (.aload_n 0, 1) := by decide +kernel
theorem dX7_speaker_57 : decode cX7_speaker 57 = .ok (.getfield 24, 3) := by decide +kernel
theorem dX7_speaker_60 : decode cX7_speaker 60 = .ok (.iload_n 1, 1) := by decide +kernel
theorem dX7_speaker_61 : decode cX7_speaker 61 = .ok (.invokevirtual 156, 3) := by decide +kernel
theorem dX7_speaker_64 : decode cX7_speaker 64 = .ok (.ireturn, 1) := by decide +kernel
theorem dX7_speaker_65 : decode cX7_speaker 65 = .ok (.aload_n 0, 1) := by decide +kernel
theorem dX7_speaker_66 : decode cX7_speaker 66 = .ok (.getfield 33, 3) := by decide +kernel
theorem dX7_speaker_69 : decode cX7_speaker 69 = .ok (.iload_n 1, 1) := by decide +kernel
theorem dX7_speaker_70 : decode cX7_speaker 70 = .ok (.invokevirtual 160, 3) := by decide +kernel
theorem dX7_speaker_73 : decode cX7_speaker 73 = .ok (.ireturn, 1) := by decide +kernel
theorem dX7_speaker_74 : decode cX7_speaker 74 = .ok (.aload_n 0, 1) := by decide +kernel
theorem dX7_speaker_75 : decode cX7_speaker 75 = .ok (.getfield 33, 3) := by decide +kernel
theorem dX7_speaker_78 : decode cX7_speaker 78 = .ok (.iload_n 1, 1) := by decide +kernel
theorem dX7_speaker_79 : decode cX7_speaker 79 = .ok (.invokevirtual 163, 3) := by decide +kernel
theorem dX7_speaker_82 : decode cX7_speaker 82 = .ok (.ireturn, 1) := by decide +kernel
theorem dX7_speaker_83 : decode cX7_speaker 83 = .ok (.lload_n 3, 1) := by decide +kernel
theorem dX7_speaker_84 : decode cX7_speaker 84 = .ok (.aload_n 0, 1) := by decide +kernel
theorem dX7_speaker_85 : decode cX7_speaker 85 = .ok (.getfield 24, 3) := by decide +kernel
theorem dX7_speaker_88 : decode cX7_speaker 88 = .ok (.iconst 0, 1) := by decide +kernel
theorem dX7_speaker_89 : decode cX7_speaker 89 = .ok (.invokevirtual 119, 3) := by decide +kernel
theorem dX7_speaker_92 : decode cX7_speaker 92 = .ok (.land, 1) := by decide +kernel
theorem dX7_speaker_93 : decode cX7_speaker 93 = .ok (.invokestatic 123, 3) := by decide +kernel
theorem dX7_speaker_96 : decode cX7_speaker 96 = .ok (.ireturn, 1) := by decide +kernel
theorem dX7_speaker_97 : decode cX7_speaker 97 = .ok (.lload_n 3, 1) := by decide +kernel
theorem dX7_speaker_98 : decode cX7_speaker 98 = .ok (.aload_n 0, 1) := by decide +kernel
theorem dX7_speaker_99 : decode cX7_speaker 99 = .ok (.getfield 24, 3) := by decide +kernel
theorem dX7_speaker_102 : decode cX7_speaker 102 = .ok (.iconst 1, 1) := by decide +kernel
theorem dX7_speaker_103 : decode cX7_speaker 103 = .ok (.invokevirtual 119, 3) := by decide +kernel
theorem dX7_speaker_106 : decode cX7_speaker 106 = .ok (.land, 1) := by decide +kernel
theorem dX7_speaker_107 : decode cX7_speaker 107 = .ok (.invokestatic 123, 3) := by decide +kernel
theorem dX7_speaker_110 : decode cX7_speaker 110 = .ok (.ireturn, 1) := by decide +kernel
theorem dX7_speaker_111 : decode cX7_speaker 111 = .ok (.lload_n 3, 1) := by decide +kernel
theorem dX7_speaker_112 : decode cX7_speaker 112 = .ok (.aload_n 0, 1) := by decide +kernel
theorem dX7_speaker_113 : decode cX7_speaker 113 = .ok (.getfield 24, 3) := by decide +kernel
theorem dX7_speaker_116 : decode cX7_speaker 116 = .ok (.iconst 2, 1) := by decide +kernel
theorem dX7_speaker_117 : decode cX7_speaker 117 = .ok (.invokevirtual 119, 3) := by decide +kernel
theorem dX7_speaker_120 : decode cX7_speaker 120 = .ok (.land, 1) := by decide +kernel
theorem dX7_speaker_121 : decode cX7_speaker 121 = .ok (.invokestatic 123, 3) := by decide +kernel
theorem dX7_speaker_124 : decode cX7_speaker 124 = .ok (.ireturn, 1) := by decide +kernel
theorem dX7_speaker_125 : decode cX7_speaker 125 = .ok (.lload_n 3, 1) := by decide +kernel
theorem dX7_speaker_126 : decode cX7_speaker 126 = .ok (.aload_n 0, 1) := by decide +kernel
theorem dX7_speaker_127 : decode cX7_speaker 127 = .ok (.getfield 24, 3) := by decide +kernel
theorem dX7_speaker_130 : decode cX7_speaker 130 = .ok (.invokevirtual 139, 3) := by decide +kernel
theorem dX7_speaker_133 : decode cX7_speaker 133 = .ok (.land, 1) := by decide +kernel
theorem dX7_speaker_134 : decode cX7_speaker 134 = .ok (.invokestatic 123, 3) := by decide +kernel
theorem dX7_speaker_137 : decode cX7_speaker 137 = .ok (.ireturn, 1) := by decide +kernel
theorem dX7_speaker_138 : decode cX7_speaker 138 = .ok (.new 145, 3) := by decide +kernel
theorem dX7_speaker_141 : decode cX7_speaker 141 = .ok (.dup, 1) := by decide +kernel
theorem dX7_speaker_142 : decode cX7_speaker 142 = .ok (.ldc 166, 2) := by decide +kernel
theorem dX7_speaker_144 : decode cX7_speaker 144 = .ok (.invokespecial 149, 3) := by decide +kernel
theorem dX7_speaker_147 : decode cX7_speaker 147 = .ok (.athrow, 1) := by decide +kernel
theorem dX7_tell_0 : decode cX7_tell 0 = .ok (.aload_n 0, 1) := by decide +kernel
theorem dX7_tell_1 : decode cX7_tell 1 = .ok (.getfield 43, 3) := by decide +kernel
theorem dX7_tell_4 : decode cX7_tell 4 = .ok (.aload_n 0, 1) := by decide +kernel
theorem dX7_tell_5 : decode cX7_tell 5 = .ok (.getfield 14, 3) := by decide +kernel
theorem dX7_tell_8 : decode cX7_tell 8 = .ok (.invokevirtual 91, 3) := by decide +kernel
theorem dX7_tell_11 : decode cX7_tell 11 = .ok (.aload_n 0, 1) := by decide +kernel
theorem dX7_tell_12 : decode cX7_tell 12 = .ok (.getfield 14, 3) := by decide +kernel
theorem dX7_tell_15 : decode cX7_tell 15 = .ok (.iconst 0, 1) := by decide +kernel
theorem dX7_tell_16 : decode cX7_tell 16 = .ok (.invokevirtual 88, 3) := by decide +kernel
theorem dX7_tell_19 : decode cX7_tell 19 = .ok (.aload_n 0, 1) := by decide +kernel
theorem dX7_tell_20 : decode cX7_tell 20 = .ok (.aload_n 0, 1) := by decide +kernel
theorem dX7_tell_21 : decode cX7_tell 21 = .ok (.getfield 52, 3) := by decide +kernel
theorem dX7_tell_24 : decode cX7_tell 24 = .ok (.invokevirtual 95, 3) := by decide +kernel
theorem dX7_tell_27 : decode cX7_tell 27 = .ok (.putfield 65, 3) := by decide +kernel
theorem dX7_tell_30 : decode cX7_tell 30 = .ok (.aload_n 0, 1) := by decide +kernel
theorem dX7_tell_31 : decode cX7_tell 31 = .ok (.getfield 65, 3) := by decide +kernel
theorem dX7_tell_34 : decode cX7_tell 34 = .ok (.iconst (-1), 1) := by decide +kernel
theorem dX7_tell_35 : decode cX7_tell 35 = .ok (.if_icmp .eq 5, 3) := by decide +kernel
theorem dX7_tell_38 : decode cX7_tell 38 = .ok (.iconst 1, 1) := by decide +kernel
theorem dX7_tell_39 : decode cX7_tell 39 = .ok (.ireturn, 1) := by decide +kernel
theorem dX7_tell_40 : decode cX7_tell 40 = .ok (.aload_n 0, 1) := by decide +kernel
theorem dX7_tell_41 : decode cX7_tell 41 = .ok (.getfield 24, 3) := by decide +kernel
theorem dX7_tell_44 : decode cX7_tell 44 = .ok (.invokevirtual 98, 3) := by decide +kernel
theorem dX7_tell_47 : decode cX7_tell 47 = .ok (.aload_n 0, 1) := by decide +kernel
theorem dX7_tell_48 : decode cX7_tell 48 = .ok (.getfield 61, 3) := by decide +kernel
theorem dX7_tell_51 : decode cX7_tell 51 = .ok (.invokevirtual 101, 3) := by decide +kernel
theorem dX7_tell_54 : decode cX7_tell 54 = .ok (.istore_n 1, 1) := by decide +kernel
theorem dX7_tell_55 : decode cX7_tell 55 = .ok (.iload_n 1, 1) := by decide +kernel
theorem dX7_tell_56 : decode cX7_tell 56 = .ok (.ifCond .eq 21, 3) := by decide +kernel
theorem dX7_tell_59 : decode cX7_tell 59 = .ok (.aload_n 0, 1) := by decide +kernel
theorem dX7_tell_60 : decode cX7_tell 60 = .ok (.aload_n 0, 1) := by decide +kernel
theorem dX7_tell_61 : decode cX7_tell 61 = .ok (.getfield 61, 3) := by decide +kernel
theorem dX7_tell_64 : decode cX7_tell 64 = .ok (.invokevirtual 104, 3) := by decide +kernel
theorem dX7_tell_67 : decode cX7_tell 67 = .ok (.putfield 65, 3) := by decide +kernel
theorem dX7_tell_70 : decode cX7_tell 70 = .ok (.aload_n 0, 1) := by decide +kernel
theorem dX7_tell_71 : decode cX7_tell 71 = .ok (.getfield 24, 3) := by decide +kernel
theorem dX7_tell_74 : decode cX7_tell 74 = .ok (.invokevirtual 106, 3) := by decide +kernel
theorem dX7_tell_77 : decode cX7_tell 77 = .ok (.aload_n 0, 1) := by decide +kernel
theorem dX7_tell_78 : decode cX7_tell 78 = .ok (.getfield 33, 3) := by decide +kernel
theorem dX7_tell_81 : decode cX7_tell 81 = .ok (.lconst 0, 1) := by decide +kernel
theorem dX7_tell_82 : decode cX7_tell 82 = .ok (.lconst 0, 1) := by decide +kernel
theorem dX7_tell_83 : decode cX7_tell 83 = .ok (.invokevirtual 109, 3) := by decide +kernel
theorem dX7_tell_86 : decode cX7_tell 86 = .ok (.iload_n 1, 1) := by decide +kernel
theorem dX7_tell_87 : decode cX7_tell 87 = .ok (.ireturn, 1) := by decide +kernel
theorem dX7_trim_0 : decode cX7_trim 0 = .ok (.iload_n 1, 1) := by decide +kernel
theorem dX7_trim_1 : decode cX7_trim 1 = .ok (.ifCond .lt 14, 3) := by decide +kernel
theorem dX7_trim_4 : decode cX7_trim 4 = .ok (.iload_n 1, 1) := by decide +kernel
theorem dX7_trim_5 : decode cX7_trim 5 = .ok (.aload_n 0, 1) := by decide +kernel
theorem dX7_trim_6 : decode cX7_trim 6 = .ok (.getfield 14, 3) := by decide +kernel
theorem dX7_trim_9 : decode cX7_trim 9 = .ok (.invokevirtual 69, 3) := by decide +kernel
theorem dX7_trim_12 : decode cX7_trim 12 = .ok (.if_icmp .le 13, 3) := by decide +kernel
theorem dX7_trim_15 : decode cX7_trim 15 = .ok (.new 83, 3) := by decide +kernel
theorem dX7_trim_18 : decode cX7_trim 18 = .ok (.dup, 1) := by decide +kernel
theorem dX7_trim_19 : decode cX7_trim 19 = .ok (.ldc 85, 2) := by decide +kernel
theorem dX7_trim_21 : decode cX7_trim 21 = .ok (.invokespecial 87, 3) := by decide +kernel
theorem dX7_trim_24 : decode cX7_trim 24 = .ok (.athrow, 1) := by decide +kernel
theorem dX7_trim_25 : decode cX7_trim 25 = .ok (.aload_n 0, 1) := by decide +kernel
theorem dX7_trim_26 : decode cX7_trim 26 = .ok (.getfield 14, 3) := by decide +kernel
theorem dX7_trim_29 : decode cX7_trim 29 = .ok (.iload_n 1, 1) := by decide +kernel
theorem dX7_trim_30 : decode cX7_trim 30 = .ok (.invokevirtual 88, 3) := by decide +kernel
theorem dX7_trim_33 : decode cX7_trim 33 = .ok (.iload_n 1, 1) := by decide +kernel
theorem dX7_trim_34 : decode cX7_trim 34 = .ok (.ireturn, 1) := by decide +kernel
theorem dX7_why_0 : decode cX7_why 0 = .ok (.aload_n 0, 1) := by decide +kernel
theorem dX7_why_1 : decode cX7_why 1 = .ok (.iload_n 1, 1) := by decide +kernel
theorem dX7_why_2 : decode cX7_why 2 = .ok (.invokevirtual 168, 3) := by decide +kernel
theorem dX7_why_5 : decode cX7_why 5 = .ok (.aload_n 0, 1) := by decide +kernel
theorem dX7_why_6 : decode cX7_why 6 = .ok (.getfield 33, 3) := by decide +kernel
theorem dX7_why_9 : decode cX7_why 9 = .ok (.iload_n 1, 1) := by decide +kernel
theorem dX7_why_10 : decode cX7_why 10 = .ok (.invokevirtual 190, 3) := by decide +kernel
theorem dX7_why_13 : decode cX7_why 13 = .ok (.ifCond .ne 5, 3) := by decide +kernel
theorem dX7_why_16 : decode cX7_why 16 = .ok (.iconst (-1), 1) := by decide +kernel
theorem dX7_why_17 : decode cX7_why 17 = .ok (.ireturn, 1) := by decide +kernel
theorem dX7_why_18 : decode cX7_why 18 = .ok (.iconst 0, 1) := by decide +kernel
theorem dX7_why_19 : decode cX7_why 19 = .ok (.istore_n 2, 1) := by decide +kernel
theorem dX7_why_20 : decode cX7_why 20 = .ok (.iload_n 2, 1) := by decide +kernel
theorem dX7_why_21 : decode cX7_why 21 = .ok (.aload_n 0, 1) := by decide +kernel
theorem dX7_why_22 : decode cX7_why 22 = .ok (.getfield 24, 3) := by decide +kernel
theorem dX7_why_25 : decode cX7_why 25 = .ok (.invokevirtual 116, 3) := by decide +kernel
theorem dX7_why_28 : decode cX7_why 28 = .ok (.if_icmp .ge 45, 3) := by decide +kernel
theorem dX7_why_31 : decode cX7_why 31 = .ok (.aload_n 0, 1) := by decide +kernel
theorem dX7_why_32 : decode cX7_why 32 = .ok (.getfield 24, 3) := by decide +kernel
theorem dX7_why_35 : decode cX7_why 35 = .ok (.iload_n 2, 1) := by decide +kernel
theorem dX7_why_36 : decode cX7_why 36 = .ok (.invokevirtual 183, 3) := by decide +kernel
theorem dX7_why_39 : decode cX7_why 39 = .ok (.iload_n 1, 1) := by decide +kernel
theorem dX7_why_40 : decode cX7_why 40 = .ok (.if_icmp .ne 27, 3) := by decide +kernel
theorem dX7_why_43 : decode cX7_why 43 = .ok (.aload_n 0, 1) := by decide +kernel
theorem dX7_why_44 : decode cX7_why 44 = .ok (.getfield 24, 3) := by decide +kernel
theorem dX7_why_47 : decode cX7_why 47 = .ok (.iload_n 2, 1) := by decide +kernel
theorem dX7_why_48 : decode cX7_why 48 = .ok (.invokevirtual 199, 3) := by decide +kernel
theorem dX7_why_51 : decode cX7_why 51 = .ok (.ifCond .eq 16, 3) := by decide +kernel
theorem dX7_why_54 : decode cX7_why 54 = .ok (.aload_n 0, 1) := by decide +kernel
theorem dX7_why_55 : decode cX7_why 55 = .ok (.getfield 33, 3) := by decide +kernel
theorem dX7_why_58 : decode cX7_why 58 = .ok (.iload_n 2, 1) := by decide +kernel
theorem dX7_why_59 : decode cX7_why 59 = .ok (.invokevirtual 186, 3) := by decide +kernel
theorem dX7_why_62 : decode cX7_why 62 = .ok (.ifCond .eq 5, 3) := by decide +kernel
theorem dX7_why_65 : decode cX7_why 65 = .ok (.iload_n 2, 1) := by decide +kernel
theorem dX7_why_66 : decode cX7_why 66 = .ok (.ireturn, 1) := by decide +kernel
theorem dX7_why_67 : decode cX7_why 67 = .ok (.iinc 2 1, 3) := by decide +kernel
theorem dX7_why_70 : decode cX7_why 70 = .ok (.goto (-50), 3) := by decide +kernel
theorem dX7_why_73 : decode cX7_why 73 = .ok (.aload_n 0, 1) := by decide +kernel
theorem dX7_why_74 : decode cX7_why 74 = .ok (.getfield 24, 3) := by decide +kernel
theorem dX7_why_77 : decode cX7_why 77 = .ok (.iload_n 1, 1) := by decide +kernel
theorem dX7_why_78 : decode cX7_why 78 = .ok (.invokevirtual 196, 3) := by decide +kernel
theorem dX7_why_81 : decode cX7_why 81 = .ok (.ifCond .eq 8, 3) := by decide +kernel
theorem dX7_why_84 : decode cX7_why 84 = .ok (.bipush (-2), 2) := by decide +kernel
theorem dX7_why_86 : decode cX7_why 86 = .ok (.goto 5, 3) := by decide +kernel
theorem dX7_why_89 : decode cX7_why 89 = .ok (.bipush (-3), 2) := by decide +kernel
theorem dX7_why_91 : decode cX7_why 91 = .ok (.ireturn, 1) := by decide +kernel
theorem dX8_add_0 : decode cX8_add 0 = .ok (.aload_n 0, 1) := by decide +kernel
theorem dX8_add_1 : decode cX8_add 1 = .ok (.getfield 23, 3) := by decide +kernel
theorem dX8_add_4 : decode cX8_add 4 = .ok (.aload_n 0, 1) := by decide +kernel
theorem dX8_add_5 : decode cX8_add 5 = .ok (.getfield 54, 3) := by decide +kernel
theorem dX8_add_8 : decode cX8_add 8 = .ok (.lload_n 1, 1) := by decide +kernel
theorem dX8_add_9 : decode cX8_add 9 = .ok (.lastore, 1) := by decide +kernel
theorem dX8_add_10 : decode cX8_add 10 = .ok (.aload_n 0, 1) := by decide +kernel
theorem dX8_add_11 : decode cX8_add 11 = .ok (.getfield 26, 3) := by decide +kernel
theorem dX8_add_14 : decode cX8_add 14 = .ok (.aload_n 0, 1) := by decide +kernel
theorem dX8_add_15 : decode cX8_add 15 = .ok (.getfield 54, 3) := by decide +kernel
theorem dX8_add_18 : decode cX8_add 18 = .ok (.iload_n 3, 1) := by decide +kernel
theorem dX8_add_19 : decode cX8_add 19 = .ok (.iastore, 1) := by decide +kernel
theorem dX8_add_20 : decode cX8_add 20 = .ok (.aload_n 0, 1) := by decide +kernel
theorem dX8_add_21 : decode cX8_add 21 = .ok (.getfield 29, 3) := by decide +kernel
theorem dX8_add_24 : decode cX8_add 24 = .ok (.aload_n 0, 1) := by decide +kernel
theorem dX8_add_25 : decode cX8_add 25 = .ok (.getfield 54, 3) := by decide +kernel
theorem dX8_add_28 : decode cX8_add 28 = .ok (.iload 4, 2) := by decide +kernel
theorem dX8_add_30 : decode cX8_add 30 = .ok (.iastore, 1) := by decide +kernel
theorem dX8_add_31 : decode cX8_add 31 = .ok (.aload_n 0, 1) := by decide +kernel
theorem dX8_add_32 : decode cX8_add 32 = .ok (.getfield 32, 3) := by decide +kernel
theorem dX8_add_35 : decode cX8_add 35 = .ok (.aload_n 0, 1) := by decide +kernel
theorem dX8_add_36 : decode cX8_add 36 = .ok (.getfield 54, 3) := by decide +kernel
theorem dX8_add_39 : decode cX8_add 39 = .ok (.iload 5, 2) := by decide +kernel
theorem dX8_add_41 : decode cX8_add 41 = .ok (.iastore, 1) := by decide +kernel
theorem dX8_add_42 : decode cX8_add 42 = .ok (.aload_n 0, 1) := by decide +kernel
theorem dX8_add_43 : decode cX8_add 43 = .ok (.getfield 35, 3) := by decide +kernel
theorem dX8_add_46 : decode cX8_add 46 = .ok (.aload_n 0, 1) := by decide +kernel
theorem dX8_add_47 : decode cX8_add 47 = .ok (.getfield 54, 3) := by decide +kernel
theorem dX8_add_50 : decode cX8_add 50 = .ok (.iload 6, 2) := by decide +kernel
theorem dX8_add_52 : decode cX8_add 52 = .ok (.iastore, 1) := by decide +kernel
theorem dX8_add_53 : decode cX8_add 53 = .ok (.aload_n 0, 1) := by decide +kernel
theorem dX8_add_54 : decode cX8_add 54 = .ok (.getfield 38, 3) := by decide +kernel
theorem dX8_add_57 : decode cX8_add 57 = .ok (.aload_n 0, 1) := by decide +kernel
theorem dX8_add_58 : decode cX8_add 58 = .ok (.getfield 54, 3) := by decide +kernel
theorem dX8_add_61 : decode cX8_add 61 = .ok (.iload 7, 2) := by decide +kernel
theorem dX8_add_63 : decode cX8_add 63 = .ok (.iastore, 1) := by decide +kernel
theorem dX8_add_64 : decode cX8_add 64 = .ok (.aload_n 0, 1) := by decide +kernel
theorem dX8_add_65 : decode cX8_add 65 = .ok (.getfield 41, 3) := by decide +kernel
theorem dX8_add_68 : decode cX8_add 68 = .ok (.aload_n 0, 1) := by decide +kernel
theorem dX8_add_69 : decode cX8_add 69 = .ok (.getfield 54, 3) := by decide +kernel
theorem dX8_add_72 : decode cX8_add 72 = .ok (.iconst 0, 1) := by decide +kernel
theorem dX8_add_73 : decode cX8_add 73 = .ok (.iastore, 1) := by decide +kernel
theorem dX8_add_74 : decode cX8_add 74 = .ok (.aload_n 0, 1) := by decide +kernel
theorem dX8_add_75 : decode cX8_add 75 = .ok (.dup, 1) := by decide +kernel
theorem dX8_add_76 : decode cX8_add 76 = .ok (.getfield 54, 3) := by decide +kernel
theorem dX8_add_79 : decode cX8_add 79 = .ok (.iconst 1, 1) := by decide +kernel
theorem dX8_add_80 : decode cX8_add 80 = .ok (.iadd, 1) := by decide +kernel
theorem dX8_add_81 : decode cX8_add 81 = .ok (.putfield 54, 3) := by decide +kernel
theorem dX8_add_84 : decode cX8_add 84 = .ok (.return_, 1) := by decide +kernel
theorem dX8_become_0 : decode cX8_become 0 = .ok (.aload_n 0, 1) := by decide +kernel
theorem dX8_become_1 : decode cX8_become 1 = .ok (.aload_n 1, 1) := by decide +kernel
theorem dX8_become_2 : decode cX8_become 2 = .ok (.getfield 50, 3) := by decide +kernel
theorem dX8_become_5 : decode cX8_become 5 = .ok (.putfield 50, 3) := by decide +kernel
theorem dX8_become_8 : decode cX8_become 8 = .ok (.aload_n 0, 1) := by decide +kernel
theorem dX8_become_9 : decode cX8_become 9 = .ok (.aload_n 1, 1) := by decide +kernel
theorem dX8_become_10 : decode cX8_become 10 = .ok (.getfield 54, 3) := by decide +kernel
theorem dX8_become_13 : decode cX8_become 13 = .ok (.putfield 54, 3) := by decide +kernel
theorem dX8_become_16 : decode cX8_become 16 = .ok (.aload_n 1, 1) := by decide +kernel
theorem dX8_become_17 : decode cX8_become 17 = .ok (.getfield 15, 3) := by decide +kernel
theorem dX8_become_20 : decode cX8_become 20 = .ok (.iconst 0, 1) := by decide +kernel
theorem dX8_become_21 : decode cX8_become 21 = .ok (.aload_n 0, 1) := by decide +kernel
theorem dX8_become_22 : decode cX8_become 22 = .ok (.getfield 15, 3) := by decide +kernel
theorem dX8_become_25 : decode cX8_become 25 = .ok (.iconst 0, 1) := by decide +kernel
theorem dX8_become_26 : decode cX8_become 26 = .ok (.bipush 6, 2) := by decide +kernel
theorem dX8_become_28 : decode cX8_become 28 = .ok (.invokestatic 44, 3) := by decide +kernel
theorem dX8_become_31 : decode cX8_become 31 = .ok (.aload_n 1, 1) := by decide +kernel
theorem dX8_become_32 : decode cX8_become 32 = .ok (.getfield 23, 3) := by decide +kernel
theorem dX8_become_35 : decode cX8_become 35 = .ok (.iconst 0, 1) := by decide +kernel
theorem dX8_become_36 : decode cX8_become 36 = .ok (.aload_n 0, 1) := by decide +kernel
theorem dX8_become_37 : decode cX8_become 37 = .ok (.getfield 23, 3) := by decide +kernel
theorem dX8_become_40 : decode cX8_become 40 = .ok (.iconst 0, 1) := by decide +kernel
theorem dX8_become_41 : decode cX8_become 41 = .ok (.bipush 40, 2) := by decide +kernel
theorem dX8_become_43 : decode cX8_become 43 = .ok (.invokestatic 44, 3) := by decide +kernel
theorem dX8_become_46 : decode cX8_become 46 = .ok (.aload_n 0, 1) := by decide +kernel
theorem dX8_become_47 : decode cX8_become 47 = .ok (.aload_n 1, 1) := by decide +kernel
theorem dX8_become_48 : decode cX8_become 48 = .ok (.getfield 19, 3) := by decide +kernel
theorem dX8_become_51 : decode cX8_become 51 = .ok (.aload_n 0, 1) := by decide +kernel
theorem dX8_become_52 : decode cX8_become 52 = .ok (.getfield 19, 3) := by decide +kernel
theorem dX8_become_55 : decode cX8_become 55 = .ok (.invokevirtual 57, 3) := by decide +kernel
theorem dX8_become_58 : decode cX8_become 58 = .ok (.aload_n 0, 1) := by decide +kernel
theorem dX8_become_59 : decode cX8_become 59 = .ok (.aload_n 1, 1) := by decide +kernel
theorem dX8_become_60 : decode cX8_become 60 = .ok (.getfield 26, 3) := by decide +kernel
theorem dX8_become_63 : decode cX8_become 63 = .ok (.aload_n 0, 1) := by decide +kernel
theorem dX8_become_64 : decode cX8_become 64 = .ok (.getfield 26, 3) := by decide +kernel
theorem dX8_become_67 : decode cX8_become 67 = .ok (.invokevirtual 57, 3) := by decide +kernel
theorem dX8_become_70 : decode cX8_become 70 = .ok (.aload_n 0, 1) := by decide +kernel
theorem dX8_become_71 : decode cX8_become 71 = .ok (.aload_n 1, 1) := by decide +kernel
theorem dX8_become_72 : decode cX8_become 72 = .ok (.getfield 29, 3) := by decide +kernel
theorem dX8_become_75 : decode cX8_become 75 = .ok (.aload_n 0, 1) := by decide +kernel
theorem dX8_become_76 : decode cX8_become 76 = .ok (.getfield 29, 3) := by decide +kernel
theorem dX8_become_79 : decode cX8_become 79 = .ok (.invokevirtual 57, 3) := by decide +kernel
theorem dX8_become_82 : decode cX8_become 82 = .ok (.aload_n 0, 1) := by decide +kernel
theorem dX8_become_83 : decode cX8_become 83 = .ok (.aload_n 1, 1) := by decide +kernel
theorem dX8_become_84 : decode cX8_become 84 = .ok (.getfield 32, 3) := by decide +kernel
theorem dX8_become_87 : decode cX8_become 87 = .ok (.aload_n 0, 1) := by decide +kernel
theorem dX8_become_88 : decode cX8_become 88 = .ok (.getfield 32, 3) := by decide +kernel
theorem dX8_become_91 : decode cX8_become 91 = .ok (.invokevirtual 57, 3) := by decide +kernel
theorem dX8_become_94 : decode cX8_become 94 = .ok (.aload_n 0, 1) := by decide +kernel
theorem dX8_become_95 : decode cX8_become 95 = .ok (.aload_n 1, 1) := by decide +kernel
theorem dX8_become_96 : decode cX8_become 96 = .ok (.getfield 35, 3) := by decide +kernel
theorem dX8_become_99 : decode cX8_become 99 = .ok (.aload_n 0, 1) := by decide +kernel
theorem dX8_become_100 : decode cX8_become 100 = .ok (.getfield 35, 3) := by decide +kernel
theorem dX8_become_103 : decode cX8_become 103 = .ok (.invokevirtual 57, 3) := by decide +kernel
theorem dX8_become_106 : decode cX8_become 106 = .ok (.aload_n 0, 1) := by decide +kernel
theorem dX8_become_107 : decode cX8_become 107 = .ok (.aload_n 1, 1) := by decide +kernel
theorem dX8_become_108 : decode cX8_become 108 = .ok (.getfield 38, 3) := by decide +kernel
theorem dX8_become_111 : decode cX8_become 111 = .ok (.aload_n 0, 1) := by decide +kernel
theorem dX8_become_112 : decode cX8_become 112 = .ok (.getfield 38, 3) := by decide +kernel
theorem dX8_become_115 : decode cX8_become 115 = .ok (.invokevirtual 57, 3) := by decide +kernel
theorem dX8_become_118 : decode cX8_become 118 = .ok (.aload_n 0, 1) := by decide +kernel
theorem dX8_become_119 : decode cX8_become 119 = .ok (.aload_n 1, 1) := by decide +kernel
theorem dX8_become_120 : decode cX8_become 120 = .ok (.getfield 41, 3) := by decide +kernel
theorem dX8_become_123 : decode cX8_become 123 = .ok (.aload_n 0, 1) := by decide +kernel
theorem dX8_become_124 : decode cX8_become 124 = .ok (.getfield 41, 3) := by decide +kernel
theorem dX8_become_127 : decode cX8_become 127 = .ok (.invokevirtual 57, 3) := by decide +kernel
theorem dX8_become_130 : decode cX8_become 130 = .ok (.return_, 1) := by decide +kernel
theorem dX8_copy_0 : decode cX8_copy 0 = .ok (.aload_n 1, 1) := by decide +kernel
theorem dX8_copy_1 : decode cX8_copy 1 = .ok (.iconst 0, 1) := by decide +kernel
theorem dX8_copy_2 : decode cX8_copy 2 = .ok (.aload_n 2, 1) := by decide +kernel
theorem dX8_copy_3 : decode cX8_copy 3 = .ok (.iconst 0, 1) := by decide +kernel
theorem dX8_copy_4 : decode cX8_copy 4 = .ok (.aload_n 1, 1) := by decide +kernel
theorem dX8_copy_5 : decode cX8_copy 5 = .ok (.arraylength, 1) := by decide +kernel
theorem dX8_copy_6 : decode cX8_copy 6 = .ok (.invokestatic 44, 3) := by decide +kernel
theorem dX8_copy_9 : decode cX8_copy 9 = .ok (.return_, 1) := by decide +kernel
theorem dX8_init_0 : decode cX8_init 0 = .ok (.aload_n 0, 1) := by decide +kernel
theorem dX8_init_1 : decode cX8_init 1 = .ok (.aload_n 1, 1) := by decide +kernel
theorem dX8_init_2 : decode cX8_init 2 = .ok (.putfield 3, 3) := by decide +kernel
theorem dX8_init_5 : decode cX8_init 5 = .ok (.aload_n 0, 1) := by decide +kernel
theorem dX8_init_6 : decode cX8_init 6 = .ok (.invokespecial 9, 3) := by decide +kernel
theorem dX8_init_9 : decode cX8_init 9 = .ok (.aload_n 0, 1) := by decide +kernel
theorem dX8_init_10 : decode cX8_init 10 = .ok (.bipush 6, 2) := by decide +kernel
theorem dX8_init_12 : decode cX8_init 12 = .ok (.newarray .long, 2) := by decide +kernel
theorem dX8_init_14 : decode cX8_init 14 = .ok (.putfield 15, 3) := by decide +kernel
theorem dX8_init_17 : decode cX8_init 17 = .ok (.aload_n 0, 1) := by decide +kernel
theorem dX8_init_18 : decode cX8_init 18 = .ok (.bipush 6, 2) := by decide +kernel
theorem dX8_init_20 : decode cX8_init 20 = .ok (.newarray .int, 2) := by decide +kernel
theorem dX8_init_22 : decode cX8_init 22 = .ok (.putfield 19, 3) := by decide +kernel
theorem dX8_init_25 : decode cX8_init 25 = .ok (.aload_n 0, 1) := by decide +kernel
theorem dX8_init_26 : decode cX8_init 26 = .ok (.bipush 40, 2) := by decide +kernel
theorem dX8_init_28 : decode cX8_init 28 = .ok (.newarray .long, 2) := by decide +kernel
theorem dX8_init_30 : decode cX8_init 30 = .ok (.putfield 23, 3) := by decide +kernel
theorem dX8_init_33 : decode cX8_init 33 = .ok (.aload_n 0, 1) := by decide +kernel
theorem dX8_init_34 : decode cX8_init 34 = .ok (.bipush 40, 2) := by decide +kernel
theorem dX8_init_36 : decode cX8_init 36 = .ok (.newarray .int, 2) := by decide +kernel
theorem dX8_init_38 : decode cX8_init 38 = .ok (.putfield 26, 3) := by decide +kernel
theorem dX8_init_41 : decode cX8_init 41 = .ok (.aload_n 0, 1) := by decide +kernel
theorem dX8_init_42 : decode cX8_init 42 = .ok (.bipush 40, 2) := by decide +kernel
theorem dX8_init_44 : decode cX8_init 44 = .ok (.newarray .int, 2) := by decide +kernel
theorem dX8_init_46 : decode cX8_init 46 = .ok (.putfield 29, 3) := by decide +kernel
theorem dX8_init_49 : decode cX8_init 49 = .ok (.aload_n 0, 1) := by decide +kernel
theorem dX8_init_50 : decode cX8_init 50 = .ok (.bipush 40, 2) := by decide +kernel
theorem dX8_init_52 : decode cX8_init 52 = .ok (.newarray .int, 2) := by decide +kernel
theorem dX8_init_54 : decode cX8_init 54 = .ok (.putfield 32, 3) := by decide +kernel
theorem dX8_init_57 : decode cX8_init 57 = .ok (.aload_n 0, 1) := by decide +kernel
theorem dX8_init_58 : decode cX8_init 58 = .ok (.bipush 40, 2) := by decide +kernel
theorem dX8_init_60 : decode cX8_init 60 = .ok (.newarray .int, 2) := by decide +kernel
theorem dX8_init_62 : decode cX8_init 62 = .ok (.putfield 35, 3) := by decide +kernel
theorem dX8_init_65 : decode cX8_init 65 = .ok (.aload_n 0, 1) := by decide +kernel
theorem dX8_init_66 : decode cX8_init 66 = .ok (.bipush 40, 2) := by decide +kernel
theorem dX8_init_68 : decode cX8_init 68 = .ok (.newarray .int, 2) := by decide +kernel
theorem dX8_init_70 : decode cX8_init 70 = .ok (.putfield 38, 3) := by decide +kernel
theorem dX8_init_73 : decode cX8_init 73 = .ok (.aload_n 0, 1) := by decide +kernel
theorem dX8_init_74 : decode cX8_init 74 = .ok (.bipush 40, 2) := by decide +kernel
theorem dX8_init_76 : decode cX8_init 76 = .ok (.newarray .int, 2) := by decide +kernel
theorem dX8_init_78 : decode cX8_init 78 = .ok (.putfield 41, 3) := by decide +kernel
theorem dX8_init_81 : decode cX8_init 81 = .ok (.return_, 1) := by decide +kernel
theorem dX8_isStrong_0 : decode cX8_isStrong 0 = .ok (.aload_n 0, 1) := by decide +kernel
theorem dX8_isStrong_1 : decode cX8_isStrong 1 = .ok (.getfield 26, 3) := by decide +kernel
theorem dX8_isStrong_4 : decode cX8_isStrong 4 = .ok (.iload_n 1, 1) := by decide +kernel
theorem dX8_isStrong_5 : decode cX8_isStrong 5 = .ok (.iaload, 1) := by decide +kernel
theorem dX8_isStrong_6 : decode cX8_isStrong 6 = .ok (.iconst 1, 1) := by decide +kernel
theorem dX8_isStrong_7 : decode cX8_isStrong 7 = .ok (.if_icmp .eq 5, 3) := by decide +kernel
theorem dX8_isStrong_10 : decode cX8_isStrong 10 = .ok (.iconst 0, 1) := by decide +kernel
theorem dX8_isStrong_11 : decode cX8_isStrong 11 = .ok (.ireturn, 1) := by decide +kernel
theorem dX8_isStrong_12 : decode cX8_isStrong 12 = .ok (.aload_n 0, 1) := by decide +kernel
theorem dX8_isStrong_13 : decode cX8_isStrong 13 = .ok (.getfield 26, 3) := by decide +kernel
theorem dX8_isStrong_16 : decode cX8_isStrong 16 = .ok (.aload_n 0, 1) := by decide +kernel
theorem dX8_isStrong_17 : decode cX8_isStrong 17 = .ok (.getfield 38, 3) := by decide +kernel
theorem dX8_isStrong_20 : decode cX8_isStrong 20 = .ok (.iload_n 1, 1) := by decide +kernel
theorem dX8_isStrong_21 : decode cX8_isStrong 21 = .ok (.iaload, 1) := by decide +kernel
theorem dX8_isStrong_22 : decode cX8_isStrong 22 = .ok (.iaload, 1) := by decide +kernel
theorem dX8_isStrong_23 : decode cX8_isStrong 23 = .ok (.ifCond .ne 33, 3) := by decide +kernel
theorem dX8_isStrong_26 : decode cX8_isStrong 26 = .ok (.aload_n 0, 1) := by decide +kernel
theorem dX8_isStrong_27 : decode cX8_isStrong 27 = .ok (.getfield 32, 3) := by decide +kernel
theorem dX8_isStrong_30 : decode cX8_isStrong 30 = .ok (.aload_n 0, 1) := by decide +kernel
theorem dX8_isStrong_31 : decode cX8_isStrong 31 = .ok (.getfield 38, 3) := by decide +kernel
theorem dX8_isStrong_34 : decode cX8_isStrong 34 = .ok (.iload_n 1, 1) := by decide +kernel
theorem dX8_isStrong_35 : decode cX8_isStrong 35 = .ok (.iaload, 1) := by decide +kernel
theorem dX8_isStrong_36 : decode cX8_isStrong 36 = .ok (.iaload, 1) := by decide +kernel
theorem dX8_isStrong_37 : decode cX8_isStrong 37 = .ok (.iconst 2, 1) := by decide +kernel
theorem dX8_isStrong_38 : decode cX8_isStrong 38 = .ok (.aload_n 0, 1) := by decide +kernel
theorem dX8_isStrong_39 : decode cX8_isStrong 39 = .ok (.getfield 32, 3) := by decide +kernel
theorem dX8_isStrong_42 : decode cX8_isStrong 42 = .ok (.iload_n 1, 1) := by decide +kernel
theorem dX8_isStrong_43 : decode cX8_isStrong 43 = .ok (.iaload, 1) := by decide +kernel
theorem dX8_isStrong_44 : decode cX8_isStrong 44 = .ok (.imul, 1) := by decide +kernel
theorem dX8_isStrong_45 : decode cX8_isStrong 45 = .ok (.if_icmp .gt 7, 3) := by decide +kernel
theorem dX8_isStrong_48 : decode cX8_isStrong 48 = .ok (.iconst 1, 1) := by decide +kernel
theorem dX8_isStrong_49 : decode cX8_isStrong 49 = .ok (.goto 32, 3) := by decide +kernel
theorem dX8_isStrong_52 : decode cX8_isStrong 52 = .ok (.iconst 0, 1) := by decide +kernel
theorem dX8_isStrong_53 : decode cX8_isStrong 53 = .ok (.goto 28, 3) := by decide +kernel
theorem dX8_isStrong_56 : decode cX8_isStrong 56 = .ok (.aload_n 0, 1) := by decide +kernel
theorem dX8_isStrong_57 : decode cX8_isStrong 57 = .ok (.getfield 32, 3) := by decide +kernel
theorem dX8_isStrong_60 : decode cX8_isStrong 60 = .ok (.aload_n 0, 1) := by decide +kernel
theorem dX8_isStrong_61 : decode cX8_isStrong 61 = .ok (.getfield 38, 3) := by decide +kernel
theorem dX8_isStrong_64 : decode cX8_isStrong 64 = .ok (.iload_n 1, 1) := by decide +kernel
theorem dX8_isStrong_65 : decode cX8_isStrong 65 = .ok (.iaload, 1) := by decide +kernel
theorem dX8_isStrong_66 : decode cX8_isStrong 66 = .ok (.iaload, 1) := by decide +kernel
theorem dX8_isStrong_67 : decode cX8_isStrong 67 = .ok (.aload_n 0, 1) := by decide +kernel
theorem dX8_isStrong_68 : decode cX8_isStrong 68 = .ok (.getfield 32, 3) := by decide +kernel
theorem dX8_isStrong_71 : decode cX8_isStrong 71 = .ok (.iload_n 1, 1) := by decide +kernel
theorem dX8_isStrong_72 : decode cX8_isStrong 72 = .ok (.iaload, 1) := by decide +kernel
theorem dX8_isStrong_73 : decode cX8_isStrong 73 = .ok (.if_icmp .gt 7, 3) := by decide +kernel
theorem dX8_isStrong_76 : decode cX8_isStrong 76 = .ok (.iconst 1, 1) := by decide +kernel
theorem dX8_isStrong_77 : decode cX8_isStrong 77 = .ok (.goto 4, 3) := by decide +kernel
theorem dX8_isStrong_80 : decode cX8_isStrong 80 = .ok (.iconst 0, 1) := by decide +kernel
theorem dX8_isStrong_81 : decode cX8_isStrong 81 = .ok (.ireturn, 1) := by decide +kernel
theorem dX8_itemOf_0 : decode cX8_itemOf 0 = .ok (.iconst 0, 1) := by decide +kernel
theorem dX8_itemOf_1 : decode cX8_itemOf 1 = .ok (.istore_n 3, 1) := by decide +kernel
theorem dX8_itemOf_2 : decode cX8_itemOf 2 = .ok (.iload_n 3, 1) := by decide +kernel
theorem dX8_itemOf_3 : decode cX8_itemOf 3 = .ok (.aload_n 0, 1) := by decide +kernel
theorem dX8_itemOf_4 : decode cX8_itemOf 4 = .ok (.getfield 54, 3) := by decide +kernel
theorem dX8_itemOf_7 : decode cX8_itemOf 7 = .ok (.if_icmp .ge 22, 3) := by decide +kernel
theorem dX8_itemOf_10 : decode cX8_itemOf 10 = .ok (.aload_n 0, 1) := by decide +kernel
theorem dX8_itemOf_11 : decode cX8_itemOf 11 = .ok (.getfield 23, 3) := by decide +kernel
theorem dX8_itemOf_14 : decode cX8_itemOf 14 = .ok (.iload_n 3, 1) := by decide +kernel
theorem dX8_itemOf_15 : decode cX8_itemOf 15 = .ok (.laload, 1) := by decide +kernel
theorem dX8_itemOf_16 : decode cX8_itemOf 16 = .ok (.lload_n 1, 1) := by decide +kernel
theorem dX8_itemOf_17 : decode cX8_itemOf 17 = .ok (.lcmp, 1) := by decide +kernel
theorem dX8_itemOf_18 : decode cX8_itemOf 18 = .ok (.ifCond .ne 5, 3) := by decide +kernel
theorem dX8_itemOf_21 : decode cX8_itemOf 21 = .ok (.iload_n 3, 1) := by decide +kernel
theorem dX8_itemOf_22 : decode cX8_itemOf 22 = .ok (.ireturn, 1) := by decide +kernel
theorem dX8_itemOf_23 : decode cX8_itemOf 23 = .ok (.iinc 3 1, 3) := by decide +kernel
theorem dX8_itemOf_26 : decode cX8_itemOf 26 = .ok (.goto (-24), 3) := by decide +kernel
theorem dX8_itemOf_29 : decode cX8_itemOf 29 = .ok (.iconst (-1), 1) := by decide +kernel
theorem dX8_itemOf_30 : decode cX8_itemOf 30 = .ok (.ireturn, 1) := by decide +kernel
theorem dX8_speakerOf_0 : decode cX8_speakerOf 0 = .ok (.iconst 0, 1) := by decide +kernel
theorem dX8_speakerOf_1 : decode cX8_speakerOf 1 = .ok (.istore_n 3, 1) := by decide +kernel
theorem dX8_speakerOf_2 : decode cX8_speakerOf 2 = .ok (.iload_n 3, 1) := by decide +kernel
theorem dX8_speakerOf_3 : decode cX8_speakerOf 3 = .ok (.aload_n 0, 1) := by decide +kernel
theorem dX8_speakerOf_4 : decode cX8_speakerOf 4 = .ok (.getfield 50, 3) := by decide +kernel
theorem dX8_speakerOf_7 : decode cX8_speakerOf 7 = .ok (.if_icmp .ge 22, 3) := by decide +kernel
theorem dX8_speakerOf_10 : decode cX8_speakerOf 10 = .ok (.aload_n 0, 1) := by decide +kernel
theorem dX8_speakerOf_11 : decode cX8_speakerOf 11 = .ok (.getfield 15, 3) := by decide +kernel
theorem dX8_speakerOf_14 : decode cX8_speakerOf 14 = .ok (.iload_n 3, 1) := by decide +kernel
theorem dX8_speakerOf_15 : decode cX8_speakerOf 15 = .ok (.laload, 1) := by decide +kernel
theorem dX8_speakerOf_16 : decode cX8_speakerOf 16 = .ok (.lload_n 1, 1) := by decide +kernel
theorem dX8_speakerOf_17 : decode cX8_speakerOf 17 = .ok (.lcmp, 1) := by decide +kernel
theorem dX8_speakerOf_18 : decode cX8_speakerOf 18 = .ok (.ifCond .ne 5, 3) := by decide +kernel
theorem dX8_speakerOf_21 : decode cX8_speakerOf 21 = .ok (.iload_n 3, 1) := by decide +kernel
theorem dX8_speakerOf_22 : decode cX8_speakerOf 22 = .ok (.ireturn, 1) := by decide +kernel
theorem dX8_speakerOf_23 : decode cX8_speakerOf 23 = .ok (.iinc 3 1, 3) := by decide +kernel
theorem dX8_speakerOf_26 : decode cX8_speakerOf 26 = .ok (.goto (-24), 3) := by decide +kernel
theorem dX8_speakerOf_29 : decode cX8_speakerOf 29 = .ok (.iconst (-1), 1) := by decide +kernel
theorem dX8_speakerOf_30 : decode cX8_speakerOf 30 = .ok (.ireturn, 1) := by decide +kernel
theorem dX9_actLine_0 : decode cX9_actLine 0 = .ok (.aload_n 0, 1) := by decide +kernel
theorem dX9_actLine_1 : decode cX9_actLine 1 = .ok (.getfield 168, 3) := by decide +kernel
theorem dX9_actLine_4 : decode cX9_actLine 4 = .ok (.iconst 1, 1) := by decide +kernel
theorem dX9_actLine_5 : decode cX9_actLine 5 = .ok (.iadd, 1) := by decide +kernel
theorem dX9_actLine_6 : decode cX9_actLine 6 = .ok (.istore_n 2, 1) := by decide +kernel
theorem dX9_actLine_7 : decode cX9_actLine 7 = .ok (.aload_n 0, 1) := by decide +kernel
theorem dX9_actLine_8 : decode cX9_actLine 8 = .ok (.iload_n 2, 1) := by decide +kernel
theorem dX9_actLine_9 : decode cX9_actLine 9 = .ok (.invokevirtual 269, 3) := by decide +kernel
theorem dX9_actLine_12 : decode cX9_actLine 12 = .ok (.istore_n 3, 1) := by decide +kernel
theorem dX9_actLine_13 : decode cX9_actLine 13 = .ok (.iload_n 3, 1) := by decide +kernel
theorem dX9_actLine_14 : decode cX9_actLine 14 = .ok (.ifCond .le 5, 3) := by decide +kernel
theorem dX9_actLine_17 : decode cX9_actLine 17 = .ok (.iload_n 3, 1) := by decide +kernel
theorem dX9_actLine_18 : decode cX9_actLine 18 = .ok (.ireturn, 1) := by decide +kernel
theorem dX9_actLine_19 : decode cX9_actLine 19 = .ok (.aload_n 0, 1) := by decide +kernel
theorem dX9_actLine_20 : decode cX9_actLine 20 = .ok (.getfield 48, 3) := by decide +kernel
theorem dX9_actLine_23 : decode cX9_actLine 23 = .ok (.aload_n 0, 1) := by decide +kernel
theorem dX9_actLine_24 : decode cX9_actLine 24 = .ok (.getfield 40, 3) := by decide +kernel
theorem dX9_actLine_27 : decode cX9_actLine 27 = .ok (.aload_n 0, 1) := by decide +kernel
theorem dX9_actLine_28 : decode cX9_actLine 28 = .ok (.getfield 168, 3) := by decide +kernel
theorem dX9_actLine_31 : decode cX9_actLine 31 = .ok (.iconst 3, 1) := by decide +kernel
theorem dX9_actLine_32 : decode cX9_actLine 32 = .ok (.iadd, 1) := by decide +kernel
theorem dX9_actLine_33 : decode cX9_actLine 33 = .ok (.laload, 1) := by decide +kernel
theorem dX9_actLine_34 : decode cX9_actLine 34 = .ok (.invokevirtual 266, 3) := by decide +kernel
theorem dX9_actLine_37 : decode cX9_actLine 37 = .ok (.istore 4, 2) := by decide +kernel
theorem dX9_actLine_39 : decode cX9_actLine 39 = .ok (.iload 4, 2) := by decide +kernel
theorem dX9_actLine_41 : decode cX9_actLine 41 = .ok (.iconst (-1), 1) := by decide +kernel
theorem dX9_actLine_42 : decode cX9_actLine 42 = .ok (.if_icmp .eq 16, 3) := by decide +kernel
theorem dX9_actLine_45 : decode cX9_actLine 45 = .ok (.aload_n 0, 1) := by decide +kernel
theorem dX9_actLine_46 : decode cX9_actLine 46 = .ok (.getfield 48, 3) := by decide +kernel
theorem dX9_actLine_49 : decode cX9_actLine 49 = .ok (.getfield 124, 3) := by decide +kernel
theorem dX9_actLine_52 : decode cX9_actLine 52 = .ok (.iload 4, 2) := by decide +kernel
theorem dX9_actLine_54 : decode cX9_actLine 54 = .ok (.iaload, 1) := by decide +kernel
theorem dX9_actLine_55 : decode cX9_actLine 55 = .ok (.ifCond .eq 15, 3) := by decide +kernel
theorem dX9_actLine_58 : decode cX9_actLine 58 = .ok (.aload_n 0, 1) := by decide +kernel
theorem dX9_actLine_59 : decode cX9_actLine 59 = .ok (.iconst 3, 1) := by decide +kernel
theorem dX9_actLine_60 : decode cX9_actLine 60 = .ok (.aload_n 0, 1) := by decide +kernel
theorem dX9_actLine_61 : decode cX9_actLine 61 = .ok (.getfield 168, 3) := by decide +kernel
theorem dX9_actLine_64 : decode cX9_actLine 64 = .ok (.iconst 3, 1) := by decide +kernel
theorem dX9_actLine_65 : decode cX9_actLine 65 = .ok (.iadd, 1) := by decide +kernel
theorem dX9_actLine_66 : decode cX9_actLine 66 = .ok (.invokevirtual 255, 3) := by decide +kernel
theorem dX9_actLine_69 : decode cX9_actLine 69 = .ok (.ireturn, 1) := by decide +kernel
theorem dX9_actLine_70 : decode cX9_actLine 70 = .ok (.aload_n 0, 1) := by decide +kernel
theorem dX9_actLine_71 : decode cX9_actLine 71 = .ok (.getfield 48, 3) := by decide +kernel
theorem dX9_actLine_74 : decode cX9_actLine 74 = .ok (.aload_n 0, 1) := by decide +kernel
theorem dX9_actLine_75 : decode cX9_actLine 75 = .ok (.getfield 40, 3) := by decide +kernel
theorem dX9_actLine_78 : decode cX9_actLine 78 = .ok (.aload_n 0, 1) := by decide +kernel
theorem dX9_actLine_79 : decode cX9_actLine 79 = .ok (.getfield 168, 3) := by decide +kernel
theorem dX9_actLine_82 : decode cX9_actLine 82 = .ok (.iconst 5, 1) := by decide +kernel
theorem dX9_actLine_83 : decode cX9_actLine 83 = .ok (.iadd, 1) := by decide +kernel
theorem dX9_actLine_84 : decode cX9_actLine 84 = .ok (.laload, 1) := by decide +kernel
theorem dX9_actLine_85 : decode cX9_actLine 85 = .ok (.invokevirtual 266, 3) := by decide +kernel
theorem dX9_actLine_88 : decode cX9_actLine 88 = .ok (.istore 5, 2) := by decide +kernel
theorem dX9_actLine_90 : decode cX9_actLine 90 = .ok (.iload 5, 2) := by decide +kernel
theorem dX9_actLine_92 : decode cX9_actLine 92 = .ok (.iconst (-1), 1) := by decide +kernel
theorem dX9_actLine_93 : decode cX9_actLine 93 = .ok (.if_icmp .ne 15, 3) := by decide +kernel
theorem dX9_actLine_96 : decode cX9_actLine 96 = .ok (.aload_n 0, 1) := by decide +kernel
theorem dX9_actLine_97 : decode cX9_actLine 97 = .ok (.iconst 3, 1) := by decide +kernel
theorem dX9_actLine_98 : decode cX9_actLine 98 = .ok (.aload_n 0, 1) := by decide +kernel
theorem dX9_actLine_99 : decode cX9_actLine 99 = .ok (.getfield 168, 3) := by decide +kernel
theorem dX9_actLine_102 : decode cX9_actLine 102 = .ok (.iconst 5, 1) := by decide +kernel
theorem dX9_actLine_103 : decode cX9_actLine 103 = .ok (.iadd, 1) := by decide +kernel
theorem dX9_actLine_104 : decode cX9_actLine 104 = .ok (.invokevirtual 255, 3) := by decide +kernel
theorem dX9_actLine_107 : decode cX9_actLine 107 = .ok (.ireturn, 1) := by decide +kernel
theorem dX9_actLine_108 : decode cX9_actLine 108 = .ok (.iload_n 1, 1) := by decide +kernel
theorem dX9_actLine_109 : decode cX9_actLine 109 = .ok (.iconst 1, 1) := by decide +kernel
theorem dX9_actLine_110 : decode cX9_actLine 110 = .ok (.if_icmp .ne 39, 3) := by decide +kernel
theorem dX9_actLine_113 : decode cX9_actLine 113 = .ok (.aload_n 0, 1) := by decide +kernel
theorem dX9_actLine_114 : decode cX9_actLine 114 = .ok (.getfield 48, 3) := by decide +kernel
theorem dX9_actLine_117 : decode cX9_actLine 117 = .ok (.getfield 121, 3) := by decide +kernel
theorem dX9_actLine_120 : decode cX9_actLine 120 = .ok (.iload 5, 2) := by decide +kernel
theorem dX9_actLine_122 : decode cX9_actLine 122 = .ok (.iaload, 1) := by decide +kernel
theorem dX9_actLine_123 : decode cX9_actLine 123 = .ok (.aload_n 0, 1) := by decide +kernel
theorem dX9_actLine_124 : decode cX9_actLine 124 = .ok (.getfield 48, 3) := by decide +kernel
theorem dX9_actLine_127 : decode cX9_actLine 127 = .ok (.getfield 121, 3) := by decide +kernel
theorem dX9_actLine_130 : decode cX9_actLine 130 = .ok (.iload 4, 2) := by decide +kernel
theorem dX9_actLine_132 : decode cX9_actLine 132 = .ok (.iaload, 1) := by decide +kernel
theorem dX9_actLine_133 : decode cX9_actLine 133 = .ok (.if_icmp .ne 16, 3) := by decide +kernel
theorem dX9_actLine_136 : decode cX9_actLine 136 = .ok (.aload_n 0, 1) := by decide +kernel
theorem dX9_actLine_137 : decode cX9_actLine 137 = .ok (.bipush 6, 2) := by decide +kernel
theorem dX9_actLine_139 : decode cX9_actLine 139 = .ok (.aload_n 0, 1) := by decide +kernel
theorem dX9_actLine_140 : decode cX9_actLine 140 = .ok (.getfield 168, 3) := by decide +kernel
theorem dX9_actLine_143 : decode cX9_actLine 143 = .ok (.iconst 5, 1) := by decide +kernel
theorem dX9_actLine_144 : decode cX9_actLine 144 = .ok (.iadd, 1) := by decide +kernel
theorem dX9_actLine_145 : decode cX9_actLine 145 = .ok (.invokevirtual 255, 3) := by decide +kernel
theorem dX9_actLine_148 : decode cX9_actLine 148 = .ok (.ireturn, 1) := by decide +kernel
theorem dX9_actLine_149 : decode cX9_actLine 149 = .ok (.aload_n 0, 1) := by decide +kernel
theorem dX9_actLine_150 : decode cX9_actLine 150 = .ok (.dup, 1) := by decide +kernel
theorem dX9_actLine_151 : decode cX9_actLine 151 = .ok (.getfield 168, 3) := by decide +kernel
theorem dX9_actLine_154 : decode cX9_actLine 154 = .ok (.bipush 6, 2) := by decide +kernel
theorem dX9_actLine_156 : decode cX9_actLine 156 = .ok (.iadd, 1) := by decide +kernel
theorem dX9_actLine_157 : decode cX9_actLine 157 = .ok (.putfield 168, 3) := by decide +kernel
theorem dX9_actLine_160 : decode cX9_actLine 160 = .ok (.aload_n 0, 1) := by decide +kernel
theorem dX9_actLine_161 : decode cX9_actLine 161 = .ok (.ldc 222, 2) := by decide +kernel
theorem dX9_actLine_163 : decode cX9_actLine 163 = .ok (.iconst 5, 1) := by decide +kernel
theorem dX9_actLine_164 : decode cX9_actLine 164 = .ok (.invokevirtual 273, 3) := by decide +kernel
theorem dX9_actLine_167 : decode cX9_actLine 167 = .ok (.istore 6, 2) := by decide +kernel
theorem dX9_actLine_169 : decode cX9_actLine 169 = .ok (.iload 6, 2) := by decide +kernel
theorem dX9_actLine_171 : decode cX9_actLine 171 = .ok (.ifCond .ne 13, 3) := by decide +kernel
theorem dX9_actLine_174 : decode cX9_actLine 174 = .ok (.aload_n 0, 1) := by decide +kernel
theorem dX9_actLine_175 : decode cX9_actLine 175 = .ok (.iconst 5, 1) := by decide +kernel
theorem dX9_actLine_176 : decode cX9_actLine 176 = .ok (.aload_n 0, 1) := by decide +kernel
theorem dX9_actLine_177 : decode cX9_actLine 177 = .ok (.getfield 168, 3) := by decide +kernel
theorem dX9_actLine_180 : decode cX9_actLine 180 = .ok (.invokevirtual 255, 3) := by decide +kernel
theorem dX9_actLine_183 : decode cX9_actLine 183 = .ok (.ireturn, 1) := by decide +kernel
theorem dX9_actLine_184 : decode cX9_actLine 184 = .ok (.iconst 1, 1) := by decide +kernel
theorem dX9_actLine_185 : decode cX9_actLine 185 = .ok (.istore 7, 2) := by decide +kernel
theorem dX9_actLine_187 : decode cX9_actLine 187 = .ok (.aload_n 0, 1) := by decide +kernel
theorem dX9_actLine_188 : decode cX9_actLine 188 = .ok (.ldc 224, 2) := by decide +kernel
theorem dX9_actLine_190 : decode cX9_actLine 190 = .ok (.invokevirtual 189, 3) := by decide +kernel
theorem dX9_actLine_193 : decode cX9_actLine 193 = .ok (.ifCond .eq 42, 3) := by decide +kernel
theorem dX9_actLine_196 : decode cX9_actLine 196 = .ok (.aload_n 0, 1) := by decide +kernel
theorem dX9_actLine_197 : decode cX9_actLine 197 = .ok (.invokevirtual 284, 3) := by decide +kernel
theorem dX9_actLine_200 : decode cX9_actLine 200 = .ok (.istore 8, 2) := by decide +kernel
theorem dX9_actLine_202 : decode cX9_actLine 202 = .ok (.iload 8, 2) := by decide +kernel
theorem dX9_actLine_204 : decode cX9_actLine 204 = .ok (.iconst (-1), 1) := by decide +kernel
theorem dX9_actLine_205 : decode cX9_actLine 205 = .ok (.if_icmp .eq 11, 3) := by decide +kernel
theorem dX9_actLine_208 : decode cX9_actLine 208 = .ok (.aload_n 0, 1) := by decide +kernel
theorem dX9_actLine_209 : decode cX9_actLine 209 = .ok (.iconst 3, 1) := by decide +kernel
theorem dX9_actLine_210 : decode cX9_actLine 210 = .ok (.iload 8, 2) := by decide +kernel
theorem dX9_actLine_212 : decode cX9_actLine 212 = .ok (.invokevirtual 255, 3) := by decide +kernel
theorem dX9_actLine_215 : decode cX9_actLine 215 = .ok (.ireturn, 1) := by decide +kernel
theorem dX9_actLine_216 : decode cX9_actLine 216 = .ok (.aload_n 0, 1) := by decide +kernel
theorem dX9_actLine_217 : decode cX9_actLine 217 = .ok (.aload_n 0, 1) := by decide +kernel
theorem dX9_actLine_218 : decode cX9_actLine 218 = .ok (.getfield 61, 3) := by decide +kernel
theorem dX9_actLine_221 : decode cX9_actLine 221 = .ok (.aload_n 0, 1) := by decide +kernel
theorem dX9_actLine_222 : decode cX9_actLine 222 = .ok (.getfield 64, 3) := by decide +kernel
theorem dX9_actLine_225 : decode cX9_actLine 225 = .ok (.invokevirtual 287, 3) := by decide +kernel
theorem dX9_actLine_228 : decode cX9_actLine 228 = .ok (.pop, 1) := by decide +kernel
theorem dX9_actLine_229 : decode cX9_actLine 229 = .ok (.aload_n 0, 1) := by decide +kernel
theorem dX9_actLine_230 : decode cX9_actLine 230 = .ok (.invokevirtual 291, 3) := by decide +kernel
theorem dX9_actLine_233 : decode cX9_actLine 233 = .ok (.istore 7, 2) := by decide +kernel
theorem dX9_actLine_235 : decode cX9_actLine 235 = .ok (.aload_n 0, 1) := by decide +kernel
theorem dX9_actLine_236 : decode cX9_actLine 236 = .ok (.aload_n 0, 1) := by decide +kernel
theorem dX9_actLine_237 : decode cX9_actLine 237 = .ok (.getfield 48, 3) := by decide +kernel
theorem dX9_actLine_240 : decode cX9_actLine 240 = .ok (.getfield 121, 3) := by decide +kernel
theorem dX9_actLine_243 : decode cX9_actLine 243 = .ok (.iload 4, 2) := by decide +kernel
theorem dX9_actLine_245 : decode cX9_actLine 245 = .ok (.iaload, 1) := by decide +kernel
theorem dX9_actLine_246 : decode cX9_actLine 246 = .ok (.iconst 5, 1) := by decide +kernel
theorem dX9_actLine_247 : decode cX9_actLine 247 = .ok (.iload 6, 2) := by decide +kernel
theorem dX9_actLine_249 : decode cX9_actLine 249 = .ok (.iadd, 1) := by decide +kernel
theorem dX9_actLine_250 : decode cX9_actLine 250 = .ok (.invokevirtual 277, 3) := by decide +kernel
theorem dX9_actLine_253 : decode cX9_actLine 253 = .ok (.istore_n 3, 1) := by decide +kernel
theorem dX9_actLine_254 : decode cX9_actLine 254 = .ok (.iload_n 3, 1) := by decide +kernel
theorem dX9_actLine_255 : decode cX9_actLine 255 = .ok (.ifCond .ne 38, 3) := by decide +kernel
theorem dX9_actLine_258 : decode cX9_actLine 258 = .ok (.iload 7, 2) := by decide +kernel
theorem dX9_actLine_260 : decode cX9_actLine 260 = .ok (.ifCond .eq 33, 3) := by decide +kernel
theorem dX9_actLine_263 : decode cX9_actLine 263 = .ok (.aload_n 0, 1) := by decide +kernel
theorem dX9_actLine_264 : decode cX9_actLine 264 = .ok (.getfield 48, 3) := by decide +kernel
theorem dX9_actLine_267 : decode cX9_actLine 267 = .ok (.aload_n 0, 1) := by decide +kernel
theorem dX9_actLine_268 : decode cX9_actLine 268 = .ok (.getfield 40, 3) := by decide +kernel
theorem dX9_actLine_271 : decode cX9_actLine 271 = .ok (.iload_n 2, 1) := by decide +kernel
theorem dX9_actLine_272 : decode cX9_actLine 272 = .ok (.laload, 1) := by decide +kernel
theorem dX9_actLine_273 : decode cX9_actLine 273 = .ok (.iload_n 1, 1) := by decide +kernel
theorem dX9_actLine_274 : decode cX9_actLine 274 = .ok (.aload_n 0, 1) := by decide +kernel
theorem dX9_actLine_275 : decode cX9_actLine 275 = .ok (.getfield 48, 3) := by decide +kernel
theorem dX9_actLine_278 : decode cX9_actLine 278 = .ok (.getfield 121, 3) := by decide +kernel
theorem dX9_actLine_281 : decode cX9_actLine 281 = .ok (.iload 4, 2) := by decide +kernel
theorem dX9_actLine_283 : decode cX9_actLine 283 = .ok (.iaload, 1) := by decide +kernel
theorem dX9_actLine_284 : decode cX9_actLine 284 = .ok (.iload 6, 2) := by decide +kernel
theorem dX9_actLine_286 : decode cX9_actLine 286 = .ok (.iload 4, 2) := by decide +kernel
theorem dX9_actLine_288 : decode cX9_actLine 288 = .ok (.iload 5, 2) := by decide +kernel
theorem dX9_actLine_290 : decode cX9_actLine 290 = .ok (.invokevirtual 280, 3) := by decide +kernel
theorem dX9_actLine_293 : decode cX9_actLine 293 = .ok (.iload_n 3, 1) := by decide +kernel
theorem dX9_actLine_294 : decode cX9_actLine 294 = .ok (.ireturn, 1) := by decide +kernel
theorem dX9_advise_0 : decode cX9_advise 0 = .ok (.aload_n 0, 1) := by decide +kernel
theorem dX9_advise_1 : decode cX9_advise 1 = .ok (.iconst 0, 1) := by decide +kernel
theorem dX9_advise_2 : decode cX9_advise 2 = .ok (.putfield 85, 3) := by decide +kernel
theorem dX9_advise_5 : decode cX9_advise 5 = .ok (.aload_n 0, 1) := by decide +kernel
theorem dX9_advise_6 : decode cX9_advise 6 = .ok (.iload_n 1, 1) := by decide +kernel
theorem dX9_advise_7 : decode cX9_advise 7 = .ok (.invokevirtual 340, 3) := by decide +kernel
theorem dX9_advise_10 : decode cX9_advise 10 = .ok (.ifCond .ne 9, 3) := by decide +kernel
theorem dX9_advise_13 : decode cX9_advise 13 = .ok (.aload_n 0, 1) := by decide +kernel
theorem dX9_advise_14 : decode cX9_advise 14 = .ok (.iconst 1, 1) := by decide +kernel
theorem dX9_advise_15 : decode cX9_advise 15 = .ok (.invokevirtual 312, 3) := by decide +kernel
theorem dX9_advise_18 : decode cX9_advise 18 = .ok (.ireturn, 1) := by decide +kernel
theorem dX9_advise_19 : decode cX9_advise 19 = .ok (.iload_n 2, 1) := by decide +kernel
theorem dX9_advise_20 : decode cX9_advise 20 = .ok (.iconst 1, 1) := by decide +kernel
theorem dX9_advise_21 : decode cX9_advise 21 = .ok (.bipush 50, 2) := by decide +kernel
theorem dX9_advise_23 : decode cX9_advise 23 = .ok (.invokestatic 91, 3) := by decide +kernel
theorem dX9_advise_26 : decode cX9_advise 26 = .ok (.ifCond .ne 9, 3) := by decide +kernel
theorem dX9_advise_29 : decode cX9_advise 29 = .ok (.aload_n 0, 1) := by decide +kernel
theorem dX9_advise_30 : decode cX9_advise 30 = .ok (.iconst 2, 1) := by decide +kernel
theorem dX9_advise_31 : decode cX9_advise 31 = .ok (.invokevirtual 312, 3) := by decide +kernel
theorem dX9_advise_34 : decode cX9_advise 34 = .ok (.ireturn, 1) := by decide +kernel
theorem dX9_advise_35 : decode cX9_advise 35 = .ok (.aload_n 0, 1) := by decide +kernel
theorem dX9_advise_36 : decode cX9_advise 36 = .ok (.iload_n 1, 1) := by decide +kernel
theorem dX9_advise_37 : decode cX9_advise 37 = .ok (.aload_n 0, 1) := by decide +kernel
theorem dX9_advise_38 : decode cX9_advise 38 = .ok (.getfield 55, 3) := by decide +kernel
theorem dX9_advise_41 : decode cX9_advise 41 = .ok (.invokevirtual 337, 3) := by decide +kernel
theorem dX9_advise_44 : decode cX9_advise 44 = .ok (.istore_n 3, 1) := by decide +kernel
theorem dX9_advise_45 : decode cX9_advise 45 = .ok (.iconst (-1), 1) := by decide +kernel
theorem dX9_advise_46 : decode cX9_advise 46 = .ok (.istore 4, 2) := by decide +kernel
theorem dX9_advise_48 : decode cX9_advise 48 = .ok (.iconst 0, 1) := by decide +kernel
theorem dX9_advise_49 : decode cX9_advise 49 = .ok (.istore 5, 2) := by decide +kernel
theorem dX9_advise_51 : decode cX9_advise 51 = .ok (.iload 5, 2) := by decide +kernel
theorem dX9_advise_53 : decode cX9_advise 53 = .ok (.aload_n 0, 1) := by decide +kernel
theorem dX9_advise_54 : decode cX9_advise 54 = .ok (.getfield 48, 3) := by decide +kernel
theorem dX9_advise_57 : decode cX9_advise 57 = .ok (.getfield 95, 3) := by decide +kernel
theorem dX9_advise_60 : decode cX9_advise 60 = .ok (.if_icmp .ge 82, 3) := by decide +kernel
theorem dX9_advise_63 : decode cX9_advise 63 = .ok (.aload_n 0, 1) := by decide +kernel
theorem dX9_advise_64 : decode cX9_advise 64 = .ok (.getfield 48, 3) := by decide +kernel
theorem dX9_advise_67 : decode cX9_advise 67 = .ok (.getfield 121, 3) := by decide +kernel
theorem dX9_advise_70 : decode cX9_advise 70 = .ok (.iload 5, 2) := by decide +kernel
theorem dX9_advise_72 : decode cX9_advise 72 = .ok (.iaload, 1) := by decide +kernel
theorem dX9_advise_73 : decode cX9_advise 73 = .ok (.iload_n 1, 1) := by decide +kernel
theorem dX9_advise_74 : decode cX9_advise 74 = .ok (.if_icmp .eq 62, 3) := by decide +kernel
theorem dX9_advise_77 : decode cX9_advise 77 = .ok (.aload_n 0, 1) := by decide +kernel
theorem dX9_advise_78 : decode cX9_advise 78 = .ok (.iload 5, 2) := by decide +kernel
theorem dX9_advise_80 : decode cX9_advise 80 = .ok (.invokevirtual 363, 3) := by decide +kernel
theorem dX9_advise_83 : decode cX9_advise 83 = .ok (.iload_n 2, 1) := by decide +kernel
theorem dX9_advise_84 : decode cX9_advise 84 = .ok (.if_icmp .le 6, 3) := by decide +kernel
theorem dX9_advise_87 : decode cX9_advise 87 = .ok (.goto 49, 3) := by decide +kernel
theorem dX9_advise_90 : decode cX9_advise 90 = .ok (.aload_n 0, 1) := by decide +kernel
theorem dX9_advise_91 : decode cX9_advise 91 = .ok (.iload 5, 2) := by decide +kernel
theorem dX9_advise_93 : decode cX9_advise 93 = .ok (.putfield 73, 3) := by decide +kernel
theorem dX9_advise_96 : decode cX9_advise 96 = .ok (.aload_n 0, 1) := by decide +kernel
theorem dX9_advise_97 : decode cX9_advise 97 = .ok (.aload_n 0, 1) := by decide +kernel
theorem dX9_advise_98 : decode cX9_advise 98 = .ok (.getfield 61, 3) := by decide +kernel
theorem dX9_advise_101 : decode cX9_advise 101 = .ok (.aload_n 0, 1) := by decide +kernel
theorem dX9_advise_102 : decode cX9_advise 102 = .ok (.getfield 64, 3) := by decide +kernel
theorem dX9_advise_105 : decode cX9_advise 105 = .ok (.invokevirtual 287, 3) := by decide +kernel
theorem dX9_advise_108 : decode cX9_advise 108 = .ok (.pop, 1) := by decide +kernel
theorem dX9_advise_109 : decode cX9_advise 109 = .ok (.aload_n 0, 1) := by decide +kernel
theorem dX9_advise_110 : decode cX9_advise 110 = .ok (.iload_n 1, 1) := by decide +kernel
theorem dX9_advise_111 : decode cX9_advise 111 = .ok (.aload_n 0, 1) := by decide +kernel
theorem dX9_advise_112 : decode cX9_advise 112 = .ok (.getfield 61, 3) := by decide +kernel
theorem dX9_advise_115 : decode cX9_advise 115 = .ok (.invokevirtual 337, 3) := by decide +kernel
theorem dX9_advise_118 : decode cX9_advise 118 = .ok (.istore 6, 2) := by decide +kernel
theorem dX9_advise_120 : decode cX9_advise 120 = .ok (.iload 6, 2) := by decide +kernel
theorem dX9_advise_122 : decode cX9_advise 122 = .ok (.iload_n 3, 1) := by decide +kernel
theorem dX9_advise_123 : decode cX9_advise 123 = .ok (.if_icmp .gt 6, 3) := by decide +kernel
theorem dX9_advise_126 : decode cX9_advise 126 = .ok (.goto 10, 3) := by decide +kernel
theorem dX9_advise_129 : decode cX9_advise 129 = .ok (.iload 6, 2) := by decide +kernel
theorem dX9_advise_131 : decode cX9_advise 131 = .ok (.istore_n 3, 1) := by decide +kernel
theorem dX9_advise_132 : decode cX9_advise 132 = .ok (.iload 5, 2) := by decide +kernel
theorem dX9_advise_134 : decode cX9_advise 134 = .ok (.istore 4, 2) := by decide +kernel
theorem dX9_advise_136 : decode cX9_advise 136 = .ok (.iinc 5 1, 3) := by decide +kernel
theorem dX9_advise_139 : decode cX9_advise 139 = .ok (.goto (-88), 3) := by decide +kernel
theorem dX9_advise_142 : decode cX9_advise 142 = .ok (.aload_n 0, 1) := by decide +kernel
theorem dX9_advise_143 : decode cX9_advise 143 = .ok (.iconst (-1), 1) := by decide +kernel
theorem dX9_advise_144 : decode cX9_advise 144 = .ok (.putfield 73, 3) := by decide +kernel
theorem dX9_advise_147 : decode cX9_advise 147 = .ok (.iload 4, 2) := by decide +kernel
theorem dX9_advise_149 : decode cX9_advise 149 = .ok (.ireturn, 1) := by decide +kernel
theorem dX9_both_0 : decode cX9_both 0 = .ok (.aload_n 0, 1) := by decide +kernel
theorem dX9_both_1 : decode cX9_both 1 = .ok (.iload_n 1, 1) := by decide +kernel
theorem dX9_both_2 : decode cX9_both 2 = .ok (.invokevirtual 234, 3) := by decide +kernel
theorem dX9_both_5 : decode cX9_both 5 = .ok (.ifCond .ne 5, 3) := by decide +kernel
theorem dX9_both_8 : decode cX9_both 8 = .ok (.iconst 0, 1) := by decide +kernel
theorem dX9_both_9 : decode cX9_both 9 = .ok (.ireturn, 1) := by decide +kernel
theorem dX9_both_10 : decode cX9_both 10 = .ok (.aload_n 0, 1) := by decide +kernel
theorem dX9_both_11 : decode cX9_both 11 = .ok (.ldc 237, 2) := by decide +kernel
theorem dX9_both_13 : decode cX9_both 13 = .ok (.invokevirtual 189, 3) := by decide +kernel
theorem dX9_both_16 : decode cX9_both 16 = .ok (.ifCond .eq 13, 3) := by decide +kernel
theorem dX9_both_19 : decode cX9_both 19 = .ok (.aload_n 0, 1) := by decide +kernel
theorem dX9_both_20 : decode cX9_both 20 = .ok (.iload_n 1, 1) := by decide +kernel
theorem dX9_both_21 : decode cX9_both 21 = .ok (.invokevirtual 234, 3) := by decide +kernel
theorem dX9_both_24 : decode cX9_both 24 = .ok (.ifCond .ne (-14), 3) := by decide +kernel
theorem dX9_both_27 : decode cX9_both 27 = .ok (.iconst 0, 1) := by decide +kernel
theorem dX9_both_28 : decode cX9_both 28 = .ok (.ireturn, 1) := by decide +kernel
theorem dX9_both_29 : decode cX9_both 29 = .ok (.iconst 1, 1) := by decide +kernel
theorem dX9_both_30 : decode cX9_both 30 = .ok (.ireturn, 1) := by decide +kernel
theorem dX9_bothHold_0 : decode cX9_bothHold 0 = .ok (.aload_n 0, 1) := by decide +kernel
theorem dX9_bothHold_1 : decode cX9_bothHold 1 = .ok (.invokevirtual 297, 3) := by decide +kernel
theorem dX9_bothHold_4 : decode cX9_bothHold 4 = .ok (.istore_n 1, 1) := by decide +kernel
theorem dX9_bothHold_5 : decode cX9_bothHold 5 = .ok (.aload_n 0, 1) := by decide +kernel
theorem dX9_bothHold_6 : decode cX9_bothHold 6 = .ok (.ldc 237, 2) := by decide +kernel
theorem dX9_bothHold_8 : decode cX9_bothHold 8 = .ok (.invokevirtual 189, 3) := by decide +kernel
theorem dX9_bothHold_11 : decode cX9_bothHold 11 = .ok (.ifCond .eq 13, 3) := by decide +kernel
theorem dX9_bothHold_14 : decode cX9_bothHold 14 = .ok (.iload_n 1, 1) := by decide +kernel
theorem dX9_bothHold_15 : decode cX9_bothHold 15 = .ok (.aload_n 0, 1) := by decide +kernel
theorem dX9_bothHold_16 : decode cX9_bothHold 16 = .ok (.invokevirtual 297, 3) := by decide +kernel
theorem dX9_bothHold_19 : decode cX9_bothHold 19 = .ok (.iand, 1) := by decide +kernel
theorem dX9_bothHold_20 : decode cX9_bothHold 20 = .ok (.istore_n 1, 1) := by decide +kernel
theorem dX9_bothHold_21 : decode cX9_bothHold 21 = .ok (.goto (-16), 3) := by decide +kernel
theorem dX9_bothHold_24 : decode cX9_bothHold 24 = .ok (.iload_n 1, 1) := by decide +kernel
theorem dX9_bothHold_25 : decode cX9_bothHold 25 = .ok (.ireturn, 1) := by decide +kernel
theorem dX9_byteAt_0 : decode cX9_byteAt 0 = .ok (.aload_n 0, 1) := by decide +kernel
theorem dX9_byteAt_1 : decode cX9_byteAt 1 = .ok (.iconst 0, 1) := by decide +kernel
theorem dX9_byteAt_2 : decode cX9_byteAt 2 = .ok (.putfield 85, 3) := by decide +kernel
theorem dX9_byteAt_5 : decode cX9_byteAt 5 = .ok (.iload_n 1, 1) := by decide +kernel
theorem dX9_byteAt_6 : decode cX9_byteAt 6 = .ok (.iconst 0, 1) := by decide +kernel
theorem dX9_byteAt_7 : decode cX9_byteAt 7 = .ok (.aload_n 0, 1) := by decide +kernel
theorem dX9_byteAt_8 : decode cX9_byteAt 8 = .ok (.getfield 331, 3) := by decide +kernel
theorem dX9_byteAt_11 : decode cX9_byteAt 11 = .ok (.iconst 1, 1) := by decide +kernel
theorem dX9_byteAt_12 : decode cX9_byteAt 12 = .ok (.isub, 1) := by decide +kernel
theorem dX9_byteAt_13 : decode cX9_byteAt 13 = .ok (.invokestatic 91, 3) := by decide +kernel
theorem dX9_byteAt_16 : decode cX9_byteAt 16 = .ok (.ifCond .eq 12, 3) := by decide +kernel
theorem dX9_byteAt_19 : decode cX9_byteAt 19 = .ok (.aload_n 0, 1) := by decide +kernel
theorem dX9_byteAt_20 : decode cX9_byteAt 20 = .ok (.getfield 31, 3) := by decide +kernel
theorem dX9_byteAt_23 : decode cX9_byteAt 23 = .ok (.iload_n 1, 1) := by decide +kernel
theorem dX9_byteAt_24 : decode cX9_byteAt 24 = .ok (.iaload, 1) := by decide +kernel
theorem dX9_byteAt_25 : decode cX9_byteAt 25 = .ok (.goto 8, 3) := by decide +kernel
theorem dX9_byteAt_28 : decode cX9_byteAt 28 = .ok (.aload_n 0, 1) := by decide +kernel
theorem dX9_byteAt_29 : decode cX9_byteAt 29 = .ok (.iconst 1, 1) := by decide +kernel
theorem dX9_byteAt_30 : decode cX9_byteAt 30 = .ok (.invokevirtual 312, 3) := by decide +kernel
theorem dX9_byteAt_33 : decode cX9_byteAt 33 = .ok (.ireturn, 1) := by decide +kernel
theorem dX9_carryOut_0 : decode cX9_carryOut 0 = .ok (.aload_n 0, 1) := by decide +kernel
theorem dX9_carryOut_1 : decode cX9_carryOut 1 = .ok (.iconst 0, 1) := by decide +kernel
theorem dX9_carryOut_2 : decode cX9_carryOut 2 = .ok (.putfield 168, 3) := by decide +kernel
theorem dX9_carryOut_5 : decode cX9_carryOut 5 = .ok (.iconst 0, 1) := by decide +kernel
theorem dX9_carryOut_6 : decode cX9_carryOut 6 = .ok (.istore_n 1, 1) := by decide +kernel
theorem dX9_carryOut_7 : decode cX9_carryOut 7 = .ok (.aload_n 0, 1) := by decide +kernel
theorem dX9_carryOut_8 : decode cX9_carryOut 8 = .ok (.getfield 34, 3) := by decide +kernel
theorem dX9_carryOut_11 : decode cX9_carryOut 11 = .ok (.aload_n 0, 1) := by decide +kernel
theorem dX9_carryOut_12 : decode cX9_carryOut 12 = .ok (.getfield 168, 3) := by decide +kernel
theorem dX9_carryOut_15 : decode cX9_carryOut 15 = .ok (.iaload, 1) := by decide +kernel
theorem dX9_carryOut_16 : decode cX9_carryOut 16 = .ok (.ifCond .eq 109, 3) := by decide +kernel
theorem dX9_carryOut_19 : decode cX9_carryOut 19 = .ok (.iload_n 1, 1) := by decide +kernel
theorem dX9_carryOut_20 : decode cX9_carryOut 20 = .ok (.ifCond .ne 105, 3) := by decide +kernel
theorem dX9_carryOut_23 : decode cX9_carryOut 23 = .ok (.aload_n 0, 1) := by decide +kernel
theorem dX9_carryOut_24 : decode cX9_carryOut 24 = .ok (.ldc 187, 2) := by decide +kernel
theorem dX9_carryOut_26 : decode cX9_carryOut 26 = .ok (.invokevirtual 175, 3) := by decide +kernel
theorem dX9_carryOut_29 : decode cX9_carryOut 29 = .ok (.ifCond .eq 11, 3) := by decide +kernel
theorem dX9_carryOut_32 : decode cX9_carryOut 32 = .ok (.aload_n 0, 1) := by decide +kernel
theorem dX9_carryOut_33 : decode cX9_carryOut 33 = .ok (.invokevirtual 300, 3) := by decide +kernel
theorem dX9_carryOut_36 : decode cX9_carryOut 36 = .ok (.istore_n 1, 1) := by decide +kernel
theorem dX9_carryOut_37 : decode cX9_carryOut 37 = .ok (.goto 75, 3) := by decide +kernel
theorem dX9_carryOut_40 : decode cX9_carryOut 40 = .ok (.aload_n 0, 1) := by decide +kernel
theorem dX9_carryOut_41 : decode cX9_carryOut 41 = .ok (.ldc 200, 2) := by decide +kernel
theorem dX9_carryOut_43 : decode cX9_carryOut 43 = .ok (.invokevirtual 175, 3) := by decide +kernel
theorem dX9_carryOut_46 : decode cX9_carryOut 46 = .ok (.ifCond .eq 11, 3) := by decide +kernel
theorem dX9_carryOut_49 : decode cX9_carryOut 49 = .ok (.aload_n 0, 1) := by decide +kernel
theorem dX9_carryOut_50 : decode cX9_carryOut 50 = .ok (.invokevirtual 303, 3) := by decide +kernel
theorem dX9_carryOut_53 : decode cX9_carryOut 53 = .ok (.istore_n 1, 1) := by decide +kernel
theorem dX9_carryOut_54 : decode cX9_carryOut 54 = .ok (.goto 58, 3) := by decide +kernel
theorem dX9_carryOut_57 : decode cX9_carryOut 57 = .ok (.aload_n 0, 1) := by decide +kernel
theorem dX9_carryOut_58 : decode cX9_carryOut 58 = .ok (.ldc 205, 2) := by decide +kernel
theorem dX9_carryOut_60 : decode cX9_carryOut 60 = .ok (.invokevirtual 175, 3) := by decide +kernel
theorem dX9_carryOut_63 : decode cX9_carryOut 63 = .ok (.ifCond .eq 12, 3) := by decide +kernel
theorem dX9_carryOut_66 : decode cX9_carryOut 66 = .ok (.aload_n 0, 1) := by decide +kernel
theorem dX9_carryOut_67 : decode cX9_carryOut 67 = .ok (.iconst 1, 1) := by decide +kernel
theorem dX9_carryOut_68 : decode cX9_carryOut 68 = .ok (.invokevirtual 306, 3) := by decide +kernel
theorem dX9_carryOut_71 : decode cX9_carryOut 71 = .ok (.istore_n 1, 1) := by decide +kernel
theorem dX9_carryOut_72 : decode cX9_carryOut 72 = .ok (.goto 40, 3) := by decide +kernel
theorem dX9_carryOut_75 : decode cX9_carryOut 75 = .ok (.aload_n 0, 1) := by decide +kernel
theorem dX9_carryOut_76 : decode cX9_carryOut 76 = .ok (.ldc 214, 2) := by decide +kernel
theorem dX9_carryOut_78 : decode cX9_carryOut 78 = .ok (.invokevirtual 175, 3) := by decide +kernel
theorem dX9_carryOut_81 : decode cX9_carryOut 81 = .ok (.ifCond .eq 12, 3) := by decide +kernel
theorem dX9_carryOut_84 : decode cX9_carryOut 84 = .ok (.aload_n 0, 1) := by decide +kernel
theorem dX9_carryOut_85 : decode cX9_carryOut 85 = .ok (.iconst 2, 1) := by decide +kernel
theorem dX9_carryOut_86 : decode cX9_carryOut 86 = .ok (.invokevirtual 306, 3) := by decide +kernel
theorem dX9_carryOut_89 : decode cX9_carryOut 89 = .ok (.istore_n 1, 1) := by decide +kernel
theorem dX9_carryOut_90 : decode cX9_carryOut 90 = .ok (.goto 22, 3) := by decide +kernel
theorem dX9_carryOut_93 : decode cX9_carryOut 93 = .ok (.aload_n 0, 1) := by decide +kernel
theorem dX9_carryOut_94 : decode cX9_carryOut 94 = .ok (.aload_n 0, 1) := by decide +kernel
theorem dX9_carryOut_95 : decode cX9_carryOut 95 = .ok (.ldc 218, 2) := by decide +kernel
theorem dX9_carryOut_97 : decode cX9_carryOut 97 = .ok (.invokevirtual 175, 3) := by decide +kernel
theorem dX9_carryOut_100 : decode cX9_carryOut 100 = .ok (.ifCond .eq 7, 3) := by decide +kernel
theorem dX9_carryOut_103 : decode cX9_carryOut 103 = .ok (.iconst 1, 1) := by decide +kernel
theorem dX9_carryOut_104 : decode cX9_carryOut 104 = .ok (.goto 4, 3) := by decide +kernel
theorem dX9_carryOut_107 : decode cX9_carryOut 107 = .ok (.iconst 0, 1) := by decide +kernel
theorem dX9_carryOut_108 : decode cX9_carryOut 108 = .ok (.invokevirtual 309, 3) := by decide +kernel
theorem dX9_carryOut_111 : decode cX9_carryOut 111 = .ok (.istore_n 1, 1) := by decide +kernel
theorem dX9_carryOut_112 : decode cX9_carryOut 112 = .ok (.aload_n 0, 1) := by decide +kernel
theorem dX9_carryOut_113 : decode cX9_carryOut 113 = .ok (.dup, 1) := by decide +kernel
theorem dX9_carryOut_114 : decode cX9_carryOut 114 = .ok (.getfield 168, 3) := by decide +kernel
theorem dX9_carryOut_117 : decode cX9_carryOut 117 = .ok (.iconst 1, 1) := by decide +kernel
theorem dX9_carryOut_118 : decode cX9_carryOut 118 = .ok (.iadd, 1) := by decide +kernel
theorem dX9_carryOut_119 : decode cX9_carryOut 119 = .ok (.putfield 168, 3) := by decide +kernel
theorem dX9_carryOut_122 : decode cX9_carryOut 122 = .ok (.goto (-115), 3) := by decide +kernel
theorem dX9_carryOut_125 : decode cX9_carryOut 125 = .ok (.iload_n 1, 1) := by decide +kernel
theorem dX9_carryOut_126 : decode cX9_carryOut 126 = .ok (.ireturn, 1) := by decide +kernel
theorem dX9_claimLine_0 : decode cX9_claimLine 0 = .ok (.aload_n 0, 1) := by decide +kernel
theorem dX9_claimLine_1 : decode cX9_claimLine 1 = .ok (.getfield 168, 3) := by decide +kernel
theorem dX9_claimLine_4 : decode cX9_claimLine 4 = .ok (.iconst 1, 1) := by decide +kernel
theorem dX9_claimLine_5 : decode cX9_claimLine 5 = .ok (.iadd, 1) := by decide +kernel
theorem dX9_claimLine_6 : decode cX9_claimLine 6 = .ok (.istore_n 1, 1) := by decide +kernel
theorem dX9_claimLine_7 : decode cX9_claimLine 7 = .ok (.aload_n 0, 1) := by decide +kernel
theorem dX9_claimLine_8 : decode cX9_claimLine 8 = .ok (.iload_n 1, 1) := by decide +kernel
theorem dX9_claimLine_9 : decode cX9_claimLine 9 = .ok (.invokevirtual 269, 3) := by decide +kernel
theorem dX9_claimLine_12 : decode cX9_claimLine 12 = .ok (.istore_n 2, 1) := by decide +kernel
theorem dX9_claimLine_13 : decode cX9_claimLine 13 = .ok (.iload_n 2, 1) := by decide +kernel
theorem dX9_claimLine_14 : decode cX9_claimLine 14 = .ok (.ifCond .le 5, 3) := by decide +kernel
theorem dX9_claimLine_17 : decode cX9_claimLine 17 = .ok (.iload_n 2, 1) := by decide +kernel
theorem dX9_claimLine_18 : decode cX9_claimLine 18 = .ok (.ireturn, 1) := by decide +kernel
theorem dX9_claimLine_19 : decode cX9_claimLine 19 = .ok (.aload_n 0, 1) := by decide +kernel
theorem dX9_claimLine_20 : decode cX9_claimLine 20 = .ok (.getfield 48, 3) := by decide +kernel
theorem dX9_claimLine_23 : decode cX9_claimLine 23 = .ok (.aload_n 0, 1) := by decide +kernel
theorem dX9_claimLine_24 : decode cX9_claimLine 24 = .ok (.getfield 40, 3) := by decide +kernel
theorem dX9_claimLine_27 : decode cX9_claimLine 27 = .ok (.aload_n 0, 1) := by decide +kernel
theorem dX9_claimLine_28 : decode cX9_claimLine 28 = .ok (.getfield 168, 3) := by decide +kernel
theorem dX9_claimLine_31 : decode cX9_claimLine 31 = .ok (.iconst 3, 1) := by decide +kernel
theorem dX9_claimLine_32 : decode cX9_claimLine 32 = .ok (.iadd, 1) := by decide +kernel
theorem dX9_claimLine_33 : decode cX9_claimLine 33 = .ok (.laload, 1) := by decide +kernel
theorem dX9_claimLine_34 : decode cX9_claimLine 34 = .ok (.invokevirtual 258, 3) := by decide +kernel
theorem dX9_claimLine_37 : decode cX9_claimLine 37 = .ok (.istore_n 3, 1) := by decide +kernel
theorem dX9_claimLine_38 : decode cX9_claimLine 38 = .ok (.iload_n 3, 1) := by decide +kernel
theorem dX9_claimLine_39 : decode cX9_claimLine 39 = .ok (.iconst (-1), 1) := by decide +kernel
theorem dX9_claimLine_40 : decode cX9_claimLine 40 = .ok (.if_icmp .ne 15, 3) := by decide +kernel
theorem dX9_claimLine_43 : decode cX9_claimLine 43 = .ok (.aload_n 0, 1) := by decide +kernel
theorem dX9_claimLine_44 : decode cX9_claimLine 44 = .ok (.iconst 3, 1) := by decide +kernel
theorem dX9_claimLine_45 : decode cX9_claimLine 45 = .ok (.aload_n 0, 1) := by decide +kernel
theorem dX9_claimLine_46 : decode cX9_claimLine 46 = .ok (.getfield 168, 3) := by decide +kernel
theorem dX9_claimLine_49 : decode cX9_claimLine 49 = .ok (.iconst 3, 1) := by decide +kernel
theorem dX9_claimLine_50 : decode cX9_claimLine 50 = .ok (.iadd, 1) := by decide +kernel
theorem dX9_claimLine_51 : decode cX9_claimLine 51 = .ok (.invokevirtual 255, 3) := by decide +kernel
theorem dX9_claimLine_54 : decode cX9_claimLine 54 = .ok (.ireturn, 1) := by decide +kernel
theorem dX9_claimLine_55 : decode cX9_claimLine 55 = .ok (.aload_n 0, 1) := by decide +kernel
theorem dX9_claimLine_56 : decode cX9_claimLine 56 = .ok (.dup, 1) := by decide +kernel
theorem dX9_claimLine_57 : decode cX9_claimLine 57 = .ok (.getfield 168, 3) := by decide +kernel
theorem dX9_claimLine_60 : decode cX9_claimLine 60 = .ok (.iconst 4, 1) := by decide +kernel
theorem dX9_claimLine_61 : decode cX9_claimLine 61 = .ok (.iadd, 1) := by decide +kernel
theorem dX9_claimLine_62 : decode cX9_claimLine 62 = .ok (.putfield 168, 3) := by decide +kernel
theorem dX9_claimLine_65 : decode cX9_claimLine 65 = .ok (.aload_n 0, 1) := by decide +kernel
theorem dX9_claimLine_66 : decode cX9_claimLine 66 = .ok (.ldc 203, 2) := by decide +kernel
theorem dX9_claimLine_68 : decode cX9_claimLine 68 = .ok (.bipush 10, 2) := by decide +kernel
theorem dX9_claimLine_70 : decode cX9_claimLine 70 = .ok (.invokevirtual 273, 3) := by decide +kernel
theorem dX9_claimLine_73 : decode cX9_claimLine 73 = .ok (.istore 4, 2) := by decide +kernel
theorem dX9_claimLine_75 : decode cX9_claimLine 75 = .ok (.iload 4, 2) := by decide +kernel
theorem dX9_claimLine_77 : decode cX9_claimLine 77 = .ok (.ifCond .ne 13, 3) := by decide +kernel
theorem dX9_claimLine_80 : decode cX9_claimLine 80 = .ok (.aload_n 0, 1) := by decide +kernel
theorem dX9_claimLine_81 : decode cX9_claimLine 81 = .ok (.iconst 5, 1) := by decide +kernel
theorem dX9_claimLine_82 : decode cX9_claimLine 82 = .ok (.aload_n 0, 1) := by decide +kernel
theorem dX9_claimLine_83 : decode cX9_claimLine 83 = .ok (.getfield 168, 3) := by decide +kernel
theorem dX9_claimLine_86 : decode cX9_claimLine 86 = .ok (.invokevirtual 255, 3) := by decide +kernel
theorem dX9_claimLine_89 : decode cX9_claimLine 89 = .ok (.ireturn, 1) := by decide +kernel
theorem dX9_claimLine_90 : decode cX9_claimLine 90 = .ok (.aload_n 0, 1) := by decide +kernel
theorem dX9_claimLine_91 : decode cX9_claimLine 91 = .ok (.iload_n 3, 1) := by decide +kernel
theorem dX9_claimLine_92 : decode cX9_claimLine 92 = .ok (.bipush 10, 2) := by decide +kernel
theorem dX9_claimLine_94 : decode cX9_claimLine 94 = .ok (.iload 4, 2) := by decide +kernel
theorem dX9_claimLine_96 : decode cX9_claimLine 96 = .ok (.iadd, 1) := by decide +kernel
theorem dX9_claimLine_97 : decode cX9_claimLine 97 = .ok (.invokevirtual 277, 3) := by decide +kernel
theorem dX9_claimLine_100 : decode cX9_claimLine 100 = .ok (.istore_n 2, 1) := by decide +kernel
theorem dX9_claimLine_101 : decode cX9_claimLine 101 = .ok (.iload_n 2, 1) := by decide +kernel
theorem dX9_claimLine_102 : decode cX9_claimLine 102 = .ok (.ifCond .ne 22, 3) := by decide +kernel
theorem dX9_claimLine_105 : decode cX9_claimLine 105 = .ok (.aload_n 0, 1) := by decide +kernel
theorem dX9_claimLine_106 : decode cX9_claimLine 106 = .ok (.getfield 48, 3) := by decide +kernel
theorem dX9_claimLine_109 : decode cX9_claimLine 109 = .ok (.aload_n 0, 1) := by decide +kernel
theorem dX9_claimLine_110 : decode cX9_claimLine 110 = .ok (.getfield 40, 3) := by decide +kernel
theorem dX9_claimLine_113 : decode cX9_claimLine 113 = .ok (.iload_n 1, 1) := by decide +kernel
theorem dX9_claimLine_114 : decode cX9_claimLine 114 = .ok (.laload, 1) := by decide +kernel
theorem dX9_claimLine_115 : decode cX9_claimLine 115 = .ok (.iconst 0, 1) := by decide +kernel
theorem dX9_claimLine_116 : decode cX9_claimLine 116 = .ok (.iload_n 3, 1) := by decide +kernel
theorem dX9_claimLine_117 : decode cX9_claimLine 117 = .ok (.iload 4, 2) := by decide +kernel
theorem dX9_claimLine_119 : decode cX9_claimLine 119 = .ok (.iconst (-1), 1) := by decide +kernel
theorem dX9_claimLine_120 : decode cX9_claimLine 120 = .ok (.iconst (-1), 1) := by decide +kernel
theorem dX9_claimLine_121 : decode cX9_claimLine 121 = .ok (.invokevirtual 280, 3) := by decide +kernel
theorem dX9_claimLine_124 : decode cX9_claimLine 124 = .ok (.iload_n 2, 1) := by decide +kernel
theorem dX9_claimLine_125 : decode cX9_claimLine 125 = .ok (.ireturn, 1) := by decide +kernel
theorem dX9_concede_0 : decode cX9_concede 0 = .ok (.aload_n 0, 1) := by decide +kernel
theorem dX9_concede_1 : decode cX9_concede 1 = .ok (.iconst 0, 1) := by decide +kernel
theorem dX9_concede_2 : decode cX9_concede 2 = .ok (.putfield 85, 3) := by decide +kernel
theorem dX9_concede_5 : decode cX9_concede 5 = .ok (.aload_n 0, 1) := by decide +kernel
theorem dX9_concede_6 : decode cX9_concede 6 = .ok (.iload_n 1, 1) := by decide +kernel
theorem dX9_concede_7 : decode cX9_concede 7 = .ok (.invokevirtual 340, 3) := by decide +kernel
theorem dX9_concede_10 : decode cX9_concede 10 = .ok (.ifCond .ne 9, 3) := by decide +kernel
theorem dX9_concede_13 : decode cX9_concede 13 = .ok (.aload_n 0, 1) := by decide +kernel
theorem dX9_concede_14 : decode cX9_concede 14 = .ok (.iconst 1, 1) := by decide +kernel
theorem dX9_concede_15 : decode cX9_concede 15 = .ok (.invokevirtual 312, 3) := by decide +kernel
theorem dX9_concede_18 : decode cX9_concede 18 = .ok (.ireturn, 1) := by decide +kernel
theorem dX9_concede_19 : decode cX9_concede 19 = .ok (.aload_n 0, 1) := by decide +kernel
theorem dX9_concede_20 : decode cX9_concede 20 = .ok (.iload_n 1, 1) := by decide +kernel
theorem dX9_concede_21 : decode cX9_concede 21 = .ok (.aload_n 0, 1) := by decide +kernel
theorem dX9_concede_22 : decode cX9_concede 22 = .ok (.getfield 55, 3) := by decide +kernel
theorem dX9_concede_25 : decode cX9_concede 25 = .ok (.invokevirtual 337, 3) := by decide +kernel
theorem dX9_concede_28 : decode cX9_concede 28 = .ok (.istore_n 2, 1) := by decide +kernel
theorem dX9_concede_29 : decode cX9_concede 29 = .ok (.iconst (-1), 1) := by decide +kernel
theorem dX9_concede_30 : decode cX9_concede 30 = .ok (.istore_n 3, 1) := by decide +kernel
theorem dX9_concede_31 : decode cX9_concede 31 = .ok (.iconst 0, 1) := by decide +kernel
theorem dX9_concede_32 : decode cX9_concede 32 = .ok (.istore 4, 2) := by decide +kernel
theorem dX9_concede_34 : decode cX9_concede 34 = .ok (.iload 4, 2) := by decide +kernel
theorem dX9_concede_36 : decode cX9_concede 36 = .ok (.aload_n 0, 1) := by decide +kernel
theorem dX9_concede_37 : decode cX9_concede 37 = .ok (.getfield 48, 3) := by decide +kernel
theorem dX9_concede_40 : decode cX9_concede 40 = .ok (.getfield 95, 3) := by decide +kernel
theorem dX9_concede_43 : decode cX9_concede 43 = .ok (.if_icmp .ge 50, 3) := by decide +kernel
theorem dX9_concede_46 : decode cX9_concede 46 = .ok (.aload_n 0, 1) := by decide +kernel
theorem dX9_concede_47 : decode cX9_concede 47 = .ok (.getfield 48, 3) := by decide +kernel
theorem dX9_concede_50 : decode cX9_concede 50 = .ok (.getfield 121, 3) := by decide +kernel
theorem dX9_concede_53 : decode cX9_concede 53 = .ok (.iload 4, 2) := by decide +kernel
theorem dX9_concede_55 : decode cX9_concede 55 = .ok (.iaload, 1) := by decide +kernel
theorem dX9_concede_56 : decode cX9_concede 56 = .ok (.iload_n 1, 1) := by decide +kernel
theorem dX9_concede_57 : decode cX9_concede 57 = .ok (.if_icmp .eq 6, 3) := by decide +kernel
theorem dX9_concede_60 : decode cX9_concede 60 = .ok (.goto 27, 3) := by decide +kernel
theorem dX9_concede_63 : decode cX9_concede 63 = .ok (.aload_n 0, 1) := by decide +kernel
theorem dX9_concede_64 : decode cX9_concede 64 = .ok (.iload 4, 2) := by decide +kernel
theorem dX9_concede_66 : decode cX9_concede 66 = .ok (.iload_n 1, 1) := by decide +kernel
theorem dX9_concede_67 : decode cX9_concede 67 = .ok (.invokevirtual 360, 3) := by decide +kernel
theorem dX9_concede_70 : decode cX9_concede 70 = .ok (.istore 5, 2) := by decide +kernel
theorem dX9_concede_72 : decode cX9_concede 72 = .ok (.iload 5, 2) := by decide +kernel
theorem dX9_concede_74 : decode cX9_concede 74 = .ok (.iload_n 2, 1) := by decide +kernel
theorem dX9_concede_75 : decode cX9_concede 75 = .ok (.if_icmp .gt 6, 3) := by decide +kernel
theorem dX9_concede_78 : decode cX9_concede 78 = .ok (.goto 9, 3) := by decide +kernel
theorem dX9_concede_81 : decode cX9_concede 81 = .ok (.iload 5, 2) := by decide +kernel
theorem dX9_concede_83 : decode cX9_concede 83 = .ok (.istore_n 2, 1) := by decide +kernel
theorem dX9_concede_84 : decode cX9_concede 84 = .ok (.iload 4, 2) := by decide +kernel
theorem dX9_concede_86 : decode cX9_concede 86 = .ok (.istore_n 3, 1) := by decide +kernel
theorem dX9_concede_87 : decode cX9_concede 87 = .ok (.iinc 4 1, 3) := by decide +kernel
theorem dX9_concede_90 : decode cX9_concede 90 = .ok (.goto (-56), 3) := by decide +kernel
theorem dX9_concede_93 : decode cX9_concede 93 = .ok (.iload_n 3, 1) := by decide +kernel
theorem dX9_concede_94 : decode cX9_concede 94 = .ok (.ireturn, 1) := by decide +kernel
theorem dX9_concedeLine_0 : decode cX9_concedeLine 0 = .ok (.aload_n 0, 1) := by decide +kernel
theorem dX9_concedeLine_1 : decode cX9_concedeLine 1 = .ok (.getfield 168, 3) := by decide +kernel
theorem dX9_concedeLine_4 : decode cX9_concedeLine 4 = .ok (.iconst 1, 1) := by decide +kernel
theorem dX9_concedeLine_5 : decode cX9_concedeLine 5 = .ok (.iadd, 1) := by decide +kernel
theorem dX9_concedeLine_6 : decode cX9_concedeLine 6 = .ok (.istore_n 2, 1) := by decide +kernel
theorem dX9_concedeLine_7 : decode cX9_concedeLine 7 = .ok (.aload_n 0, 1) := by decide +kernel
theorem dX9_concedeLine_8 : decode cX9_concedeLine 8 = .ok (.getfield 48, 3) := by decide +kernel
theorem dX9_concedeLine_11 : decode cX9_concedeLine 11 = .ok (.aload_n 0, 1) := by decide +kernel
theorem dX9_concedeLine_12 : decode cX9_concedeLine 12 = .ok (.getfield 40, 3) := by decide +kernel
theorem dX9_concedeLine_15 : decode cX9_concedeLine 15 = .ok (.iload_n 2, 1) := by decide +kernel
theorem dX9_concedeLine_16 : decode cX9_concedeLine 16 = .ok (.laload, 1) := by decide +kernel
theorem dX9_concedeLine_17 : decode cX9_concedeLine 17 = .ok (.invokevirtual 266, 3) := by decide +kernel
theorem dX9_concedeLine_20 : decode cX9_concedeLine 20 = .ok (.istore_n 3, 1) := by decide +kernel
theorem dX9_concedeLine_21 : decode cX9_concedeLine 21 = .ok (.iload_n 3, 1) := by decide +kernel
theorem dX9_concedeLine_22 : decode cX9_concedeLine 22 = .ok (.iconst (-1), 1) := by decide +kernel
theorem dX9_concedeLine_23 : decode cX9_concedeLine 23 = .ok (.if_icmp .ne 10, 3) := by decide +kernel
theorem dX9_concedeLine_26 : decode cX9_concedeLine 26 = .ok (.aload_n 0, 1) := by decide +kernel
theorem dX9_concedeLine_27 : decode cX9_concedeLine 27 = .ok (.iconst 3, 1) := by decide +kernel
theorem dX9_concedeLine_28 : decode cX9_concedeLine 28 = .ok (.iload_n 2, 1) := by decide +kernel
theorem dX9_concedeLine_29 : decode cX9_concedeLine 29 = .ok (.invokevirtual 255, 3) := by decide +kernel
theorem dX9_concedeLine_32 : decode cX9_concedeLine 32 = .ok (.ireturn, 1) := by decide +kernel
theorem dX9_concedeLine_33 : decode cX9_concedeLine 33 = .ok (.aload_n 0, 1) := by decide +kernel
theorem dX9_concedeLine_34 : decode cX9_concedeLine 34 = .ok (.getfield 48, 3) := by decide +kernel
theorem dX9_concedeLine_37 : decode cX9_concedeLine 37 = .ok (.getfield 98, 3) := by decide +kernel
theorem dX9_concedeLine_40 : decode cX9_concedeLine 40 = .ok (.iload_n 3, 1) := by decide +kernel
theorem dX9_concedeLine_41 : decode cX9_concedeLine 41 = .ok (.iaload, 1) := by decide +kernel
theorem dX9_concedeLine_42 : decode cX9_concedeLine 42 = .ok (.iload_n 1, 1) := by decide +kernel
theorem dX9_concedeLine_43 : decode cX9_concedeLine 43 = .ok (.if_icmp .ne 11, 3) := by decide +kernel
theorem dX9_concedeLine_46 : decode cX9_concedeLine 46 = .ok (.aload_n 0, 1) := by decide +kernel
theorem dX9_concedeLine_47 : decode cX9_concedeLine 47 = .ok (.bipush 6, 2) := by decide +kernel
theorem dX9_concedeLine_49 : decode cX9_concedeLine 49 = .ok (.iload_n 2, 1) := by decide +kernel
theorem dX9_concedeLine_50 : decode cX9_concedeLine 50 = .ok (.invokevirtual 255, 3) := by decide +kernel
theorem dX9_concedeLine_53 : decode cX9_concedeLine 53 = .ok (.ireturn, 1) := by decide +kernel
theorem dX9_concedeLine_54 : decode cX9_concedeLine 54 = .ok (.aload_n 0, 1) := by decide +kernel
theorem dX9_concedeLine_55 : decode cX9_concedeLine 55 = .ok (.dup, 1) := by decide +kernel
theorem dX9_concedeLine_56 : decode cX9_concedeLine 56 = .ok (.getfield 168, 3) := by decide +kernel
theorem dX9_concedeLine_59 : decode cX9_concedeLine 59 = .ok (.iconst 2, 1) := by decide +kernel
theorem dX9_concedeLine_60 : decode cX9_concedeLine 60 = .ok (.iadd, 1) := by decide +kernel
theorem dX9_concedeLine_61 : decode cX9_concedeLine 61 = .ok (.putfield 168, 3) := by decide +kernel
theorem dX9_concedeLine_64 : decode cX9_concedeLine 64 = .ok (.aload_n 0, 1) := by decide +kernel
theorem dX9_concedeLine_65 : decode cX9_concedeLine 65 = .ok (.aload_n 0, 1) := by decide +kernel
theorem dX9_concedeLine_66 : decode cX9_concedeLine 66 = .ok (.getfield 48, 3) := by decide +kernel
theorem dX9_concedeLine_69 : decode cX9_concedeLine 69 = .ok (.getfield 121, 3) := by decide +kernel
theorem dX9_concedeLine_72 : decode cX9_concedeLine 72 = .ok (.iload_n 3, 1) := by decide +kernel
theorem dX9_concedeLine_73 : decode cX9_concedeLine 73 = .ok (.iaload, 1) := by decide +kernel
theorem dX9_concedeLine_74 : decode cX9_concedeLine 74 = .ok (.iconst 2, 1) := by decide +kernel
theorem dX9_concedeLine_75 : decode cX9_concedeLine 75 = .ok (.invokevirtual 277, 3) := by decide +kernel
theorem dX9_concedeLine_78 : decode cX9_concedeLine 78 = .ok (.istore 4, 2) := by decide +kernel
theorem dX9_concedeLine_80 : decode cX9_concedeLine 80 = .ok (.iload 4, 2) := by decide +kernel
theorem dX9_concedeLine_82 : decode cX9_concedeLine 82 = .ok (.ifCond .ne 13, 3) := by decide +kernel
theorem dX9_concedeLine_85 : decode cX9_concedeLine 85 = .ok (.aload_n 0, 1) := by decide +kernel
theorem dX9_concedeLine_86 : decode cX9_concedeLine 86 = .ok (.getfield 48, 3) := by decide +kernel
theorem dX9_concedeLine_89 : decode cX9_concedeLine 89 = .ok (.getfield 98, 3) := by decide +kernel
theorem dX9_concedeLine_92 : decode cX9_concedeLine 92 = .ok (.iload_n 3, 1) := by decide +kernel
theorem dX9_concedeLine_93 : decode cX9_concedeLine 93 = .ok (.iload_n 1, 1) := by decide +kernel
theorem dX9_concedeLine_94 : decode cX9_concedeLine 94 = .ok (.iastore, 1) := by decide +kernel
theorem dX9_concedeLine_95 : decode cX9_concedeLine 95 = .ok (.iload 4, 2) := by decide +kernel
theorem dX9_concedeLine_97 : decode cX9_concedeLine 97 = .ok (.ireturn, 1) := by decide +kernel
theorem dX9_conceding_0 : decode cX9_conceding 0 = .ok (.aload_n 0, 1) := by decide +kernel
theorem dX9_conceding_1 : decode cX9_conceding 1 = .ok (.iconst 0, 1) := by decide +kernel
theorem dX9_conceding_2 : decode cX9_conceding 2 = .ok (.putfield 85, 3) := by decide +kernel
theorem dX9_conceding_5 : decode cX9_conceding 5 = .ok (.aload_n 0, 1) := by decide +kernel
theorem dX9_conceding_6 : decode cX9_conceding 6 = .ok (.iload_n 1, 1) := by decide +kernel
theorem dX9_conceding_7 : decode cX9_conceding 7 = .ok (.invokevirtual 348, 3) := by decide +kernel
theorem dX9_conceding_10 : decode cX9_conceding 10 = .ok (.ifCond .eq 11, 3) := by decide +kernel
theorem dX9_conceding_13 : decode cX9_conceding 13 = .ok (.aload_n 0, 1) := by decide +kernel
theorem dX9_conceding_14 : decode cX9_conceding 14 = .ok (.iload_n 2, 1) := by decide +kernel
theorem dX9_conceding_15 : decode cX9_conceding 15 = .ok (.invokevirtual 340, 3) := by decide +kernel
theorem dX9_conceding_18 : decode cX9_conceding 18 = .ok (.ifCond .ne 9, 3) := by decide +kernel
theorem dX9_conceding_21 : decode cX9_conceding 21 = .ok (.aload_n 0, 1) := by decide +kernel
theorem dX9_conceding_22 : decode cX9_conceding 22 = .ok (.iconst 1, 1) := by decide +kernel
theorem dX9_conceding_23 : decode cX9_conceding 23 = .ok (.invokevirtual 312, 3) := by decide +kernel
theorem dX9_conceding_26 : decode cX9_conceding 26 = .ok (.ireturn, 1) := by decide +kernel
theorem dX9_conceding_27 : decode cX9_conceding 27 = .ok (.aload_n 0, 1) := by decide +kernel
theorem dX9_conceding_28 : decode cX9_conceding 28 = .ok (.iload_n 1, 1) := by decide +kernel
theorem dX9_conceding_29 : decode cX9_conceding 29 = .ok (.iload_n 2, 1) := by decide +kernel
theorem dX9_conceding_30 : decode cX9_conceding 30 = .ok (.invokevirtual 360, 3) := by decide +kernel
theorem dX9_conceding_33 : decode cX9_conceding 33 = .ok (.ireturn, 1) := by decide +kernel
theorem dX9_count_0 : decode cX9_count 0 = .ok (.aload_n 0, 1) := by decide +kernel
theorem dX9_count_1 : decode cX9_count 1 = .ok (.iconst 0, 1) := by decide +kernel
theorem dX9_count_2 : decode cX9_count 2 = .ok (.putfield 85, 3) := by decide +kernel
theorem dX9_count_5 : decode cX9_count 5 = .ok (.iload_n 1, 1) := by decide +kernel
theorem dX9_count_6 : decode cX9_count 6 = .ok (.iconst 0, 1) := by decide +kernel
theorem dX9_count_7 : decode cX9_count 7 = .ok (.bipush 11, 2) := by decide +kernel
theorem dX9_count_9 : decode cX9_count 9 = .ok (.invokestatic 91, 3) := by decide +kernel
theorem dX9_count_12 : decode cX9_count 12 = .ok (.ifCond .eq 11, 3) := by decide +kernel
theorem dX9_count_15 : decode cX9_count 15 = .ok (.aload_n 0, 1) := by decide +kernel
theorem dX9_count_16 : decode cX9_count 16 = .ok (.iload_n 1, 1) := by decide +kernel
theorem dX9_count_17 : decode cX9_count 17 = .ok (.invokevirtual 334, 3) := by decide +kernel
theorem dX9_count_20 : decode cX9_count 20 = .ok (.goto 8, 3) := by decide +kernel
theorem dX9_count_23 : decode cX9_count 23 = .ok (.aload_n 0, 1) := by decide +kernel
theorem dX9_count_24 : decode cX9_count 24 = .ok (.iconst 1, 1) := by decide +kernel
theorem dX9_count_25 : decode cX9_count 25 = .ok (.invokevirtual 312, 3) := by decide +kernel
theorem dX9_count_28 : decode cX9_count 28 = .ok (.ireturn, 1) := by decide +kernel
theorem dX9_counted_0 : decode cX9_counted 0 = .ok (.iconst 3, 1) := by decide +kernel
theorem dX9_counted_1 : decode cX9_counted 1 = .ok (.newarray .int, 2) := by decide +kernel
theorem dX9_counted_3 : decode cX9_counted 3 = .ok (.astore_n 2, 1) := by decide +kernel
theorem dX9_counted_4 : decode cX9_counted 4 = .ok (.iconst 3, 1) := by decide +kernel
theorem dX9_counted_5 : decode cX9_counted 5 = .ok (.newarray .int, 2) := by decide +kernel
theorem dX9_counted_7 : decode cX9_counted 7 = .ok (.astore_n 3, 1) := by decide +kernel
theorem dX9_counted_8 : decode cX9_counted 8 = .ok (.iconst 0, 1) := by decide +kernel
theorem dX9_counted_9 : decode cX9_counted 9 = .ok (.istore 4, 2) := by decide +kernel
theorem dX9_counted_11 : decode cX9_counted 11 = .ok (.iconst 0, 1) := by decide +kernel
theorem dX9_counted_12 : decode cX9_counted 12 = .ok (.istore 5, 2) := by decide +kernel
theorem dX9_counted_14 : decode cX9_counted 14 = .ok (.iload 5, 2) := by decide +kernel
theorem dX9_counted_16 : decode cX9_counted 16 = .ok (.aload_n 0, 1) := by decide +kernel
theorem dX9_counted_17 : decode cX9_counted 17 = .ok (.getfield 48, 3) := by decide +kernel
theorem dX9_counted_20 : decode cX9_counted 20 = .ok (.getfield 95, 3) := by decide +kernel
theorem dX9_counted_23 : decode cX9_counted 23 = .ok (.if_icmp .ge 53, 3) := by decide +kernel
theorem dX9_counted_26 : decode cX9_counted 26 = .ok (.aload_n 2, 1) := by decide +kernel
theorem dX9_counted_27 : decode cX9_counted 27 = .ok (.aload_n 0, 1) := by decide +kernel
theorem dX9_counted_28 : decode cX9_counted 28 = .ok (.getfield 48, 3) := by decide +kernel
theorem dX9_counted_31 : decode cX9_counted 31 = .ok (.getfield 124, 3) := by decide +kernel
theorem dX9_counted_34 : decode cX9_counted 34 = .ok (.iload 5, 2) := by decide +kernel
theorem dX9_counted_36 : decode cX9_counted 36 = .ok (.iaload, 1) := by decide +kernel
theorem dX9_counted_37 : decode cX9_counted 37 = .ok (.dup2, 1) := by decide +kernel
theorem dX9_counted_38 : decode cX9_counted 38 = .ok (.iaload, 1) := by decide +kernel
theorem dX9_counted_39 : decode cX9_counted 39 = .ok (.iconst 1, 1) := by decide +kernel
theorem dX9_counted_40 : decode cX9_counted 40 = .ok (.iadd, 1) := by decide +kernel
theorem dX9_counted_41 : decode cX9_counted 41 = .ok (.iastore, 1) := by decide +kernel
theorem dX9_counted_42 : decode cX9_counted 42 = .ok (.aload_n 3, 1) := by decide +kernel
theorem dX9_counted_43 : decode cX9_counted 43 = .ok (.aload_n 0, 1) := by decide +kernel
theorem dX9_counted_44 : decode cX9_counted 44 = .ok (.getfield 55, 3) := by decide +kernel
theorem dX9_counted_47 : decode cX9_counted 47 = .ok (.iload 5, 2) := by decide +kernel
theorem dX9_counted_49 : decode cX9_counted 49 = .ok (.iaload, 1) := by decide +kernel
theorem dX9_counted_50 : decode cX9_counted 50 = .ok (.dup2, 1) := by decide +kernel
theorem dX9_counted_51 : decode cX9_counted 51 = .ok (.iaload, 1) := by decide +kernel
theorem dX9_counted_52 : decode cX9_counted 52 = .ok (.iconst 1, 1) := by decide +kernel
theorem dX9_counted_53 : decode cX9_counted 53 = .ok (.iadd, 1) := by decide +kernel
theorem dX9_counted_54 : decode cX9_counted 54 = .ok (.iastore, 1) := by decide +kernel
theorem dX9_counted_55 : decode cX9_counted 55 = .ok (.iload 4, 2) := by decide +kernel
theorem dX9_counted_57 : decode cX9_counted 57 = .ok (.aload_n 0, 1) := by decide +kernel
theorem dX9_counted_58 : decode cX9_counted 58 = .ok (.getfield 48, 3) := by decide +kernel
theorem dX9_counted_61 : decode cX9_counted 61 = .ok (.getfield 98, 3) := by decide +kernel
theorem dX9_counted_64 : decode cX9_counted 64 = .ok (.iload 5, 2) := by decide +kernel
theorem dX9_counted_66 : decode cX9_counted 66 = .ok (.iaload, 1) := by decide +kernel
theorem dX9_counted_67 : decode cX9_counted 67 = .ok (.iadd, 1) := by decide +kernel
theorem dX9_counted_68 : decode cX9_counted 68 = .ok (.istore 4, 2) := by decide +kernel
theorem dX9_counted_70 : decode cX9_counted 70 = .ok (.iinc 5 1, 3) := by decide +kernel
theorem dX9_counted_73 : decode cX9_counted 73 = .ok (.goto (-59), 3) := by decide +kernel
theorem dX9_counted_76 : decode cX9_counted 76 = .ok (.bipush 12, 2) := by decide +kernel
theorem dX9_counted_78 : decode cX9_counted 78 = .ok (.newarray .int, 2) := by decide +kernel
theorem dX9_counted_80 : decode cX9_counted 80 = .ok (.dup, 1) := by decide +kernel
theorem dX9_counted_81 : decode cX9_counted 81 = .ok (.iconst 0, 1) := by decide +kernel
theorem dX9_counted_82 : decode cX9_counted 82 = .ok (.aload_n 0, 1) := by decide +kernel
theorem dX9_counted_83 : decode cX9_counted 83 = .ok (.getfield 48, 3) := by decide +kernel
theorem dX9_counted_86 : decode cX9_counted 86 = .ok (.getfield 88, 3) := by decide +kernel
theorem dX9_counted_89 : decode cX9_counted 89 = .ok (.iastore, 1) := by decide +kernel
theorem dX9_counted_90 : decode cX9_counted 90 = .ok (.dup, 1) := by decide +kernel
theorem dX9_counted_91 : decode cX9_counted 91 = .ok (.iconst 1, 1) := by decide +kernel
theorem dX9_counted_92 : decode cX9_counted 92 = .ok (.aload_n 0, 1) := by decide +kernel
theorem dX9_counted_93 : decode cX9_counted 93 = .ok (.getfield 48, 3) := by decide +kernel
theorem dX9_counted_96 : decode cX9_counted 96 = .ok (.getfield 95, 3) := by decide +kernel
theorem dX9_counted_99 : decode cX9_counted 99 = .ok (.iastore, 1) := by decide +kernel
theorem dX9_counted_100 : decode cX9_counted 100 = .ok (.dup, 1) := by decide +kernel
theorem dX9_counted_101 : decode cX9_counted 101 = .ok (.iconst 2, 1) := by decide +kernel
theorem dX9_counted_102 : decode cX9_counted 102 = .ok (.aload_n 2, 1) := by decide +kernel
theorem dX9_counted_103 : decode cX9_counted 103 = .ok (.iconst 0, 1) := by decide +kernel
theorem dX9_counted_104 : decode cX9_counted 104 = .ok (.iaload, 1) := by decide +kernel
theorem dX9_counted_105 : decode cX9_counted 105 = .ok (.iastore, 1) := by decide +kernel
theorem dX9_counted_106 : decode cX9_counted 106 = .ok (.dup, 1) := by decide +kernel
theorem dX9_counted_107 : decode cX9_counted 107 = .ok (.iconst 3, 1) := by decide +kernel
theorem dX9_counted_108 : decode cX9_counted 108 = .ok (.aload_n 2, 1) := by decide +kernel
theorem dX9_counted_109 : decode cX9_counted 109 = .ok (.iconst 1, 1) := by decide +kernel
theorem dX9_counted_110 : decode cX9_counted 110 = .ok (.iaload, 1) := by decide +kernel
theorem dX9_counted_111 : decode cX9_counted 111 = .ok (.iastore, 1) := by decide +kernel
theorem dX9_counted_112 : decode cX9_counted 112 = .ok (.dup, 1) := by decide +kernel
theorem dX9_counted_113 : decode cX9_counted 113 = .ok (.iconst 4, 1) := by decide +kernel
theorem dX9_counted_114 : decode cX9_counted 114 = .ok (.aload_n 2, 1) := by decide +kernel
theorem dX9_counted_115 : decode cX9_counted 115 = .ok (.iconst 2, 1) := by decide +kernel
theorem dX9_counted_116 : decode cX9_counted 116 = .ok (.iaload, 1) := by decide +kernel
theorem dX9_counted_117 : decode cX9_counted 117 = .ok (.iastore, 1) := by decide +kernel
theorem dX9_counted_118 : decode cX9_counted 118 = .ok (.dup, 1) := by decide +kernel
theorem dX9_counted_119 : decode cX9_counted 119 = .ok (.iconst 5, 1) := by decide +kernel
theorem dX9_counted_120 : decode cX9_counted 120 = .ok (.aload_n 3, 1) := by decide +kernel
theorem dX9_counted_121 : decode cX9_counted 121 = .ok (.iconst 1, 1) := by decide +kernel
theorem dX9_counted_122 : decode cX9_counted 122 = .ok (.iaload, 1) := by decide +kernel
theorem dX9_counted_123 : decode cX9_counted 123 = .ok (.iastore, 1) := by decide +kernel
theorem dX9_counted_124 : decode cX9_counted 124 = .ok (.dup, 1) := by decide +kernel
theorem dX9_counted_125 : decode cX9_counted 125 = .ok (.bipush 6, 2) := by decide +kernel
theorem dX9_counted_127 : decode cX9_counted 127 = .ok (.aload_n 3, 1) := by decide +kernel
theorem dX9_counted_128 : decode cX9_counted 128 = .ok (.iconst 2, 1) := by decide +kernel
theorem dX9_counted_129 : decode cX9_counted 129 = .ok (.iaload, 1) := by decide +kernel
theorem dX9_counted_130 : decode cX9_counted 130 = .ok (.iastore, 1) := by decide +kernel
theorem dX9_counted_131 : decode cX9_counted 131 = .ok (.dup, 1) := by decide +kernel
theorem dX9_counted_132 : decode cX9_counted 132 = .ok (.bipush 7, 2) := by decide +kernel
theorem dX9_counted_134 : decode cX9_counted 134 = .ok (.aload_n 3, 1) := by decide +kernel
theorem dX9_counted_135 : decode cX9_counted 135 = .ok (.iconst 0, 1) := by decide +kernel
theorem dX9_counted_136 : decode cX9_counted 136 = .ok (.iaload, 1) := by decide +kernel
theorem dX9_counted_137 : decode cX9_counted 137 = .ok (.iastore, 1) := by decide +kernel
theorem dX9_counted_138 : decode cX9_counted 138 = .ok (.dup, 1) := by decide +kernel
theorem dX9_counted_139 : decode cX9_counted 139 = .ok (.bipush 8, 2) := by decide +kernel
theorem dX9_counted_141 : decode cX9_counted 141 = .ok (.iload 4, 2) := by decide +kernel
theorem dX9_counted_143 : decode cX9_counted 143 = .ok (.iastore, 1) := by decide +kernel
theorem dX9_counted_144 : decode cX9_counted 144 = .ok (.dup, 1) := by decide +kernel
theorem dX9_counted_145 : decode cX9_counted 145 = .ok (.bipush 9, 2) := by decide +kernel
theorem dX9_counted_147 : decode cX9_counted 147 = .ok (.aload_n 0, 1) := by decide +kernel
theorem dX9_counted_148 : decode cX9_counted 148 = .ok (.getfield 328, 3) := by decide +kernel
theorem dX9_counted_151 : decode cX9_counted 151 = .ok (.iastore, 1) := by decide +kernel
theorem dX9_counted_152 : decode cX9_counted 152 = .ok (.dup, 1) := by decide +kernel
theorem dX9_counted_153 : decode cX9_counted 153 = .ok (.bipush 10, 2) := by decide +kernel
theorem dX9_counted_155 : decode cX9_counted 155 = .ok (.aload_n 0, 1) := by decide +kernel
theorem dX9_counted_156 : decode cX9_counted 156 = .ok (.getfield 145, 3) := by decide +kernel
theorem dX9_counted_159 : decode cX9_counted 159 = .ok (.iastore, 1) := by decide +kernel
theorem dX9_counted_160 : decode cX9_counted 160 = .ok (.dup, 1) := by decide +kernel
theorem dX9_counted_161 : decode cX9_counted 161 = .ok (.bipush 11, 2) := by decide +kernel
theorem dX9_counted_163 : decode cX9_counted 163 = .ok (.aload_n 0, 1) := by decide +kernel
theorem dX9_counted_164 : decode cX9_counted 164 = .ok (.getfield 331, 3) := by decide +kernel
theorem dX9_counted_167 : decode cX9_counted 167 = .ok (.iastore, 1) := by decide +kernel
theorem dX9_counted_168 : decode cX9_counted 168 = .ok (.astore 5, 2) := by decide +kernel
theorem dX9_counted_170 : decode cX9_counted 170 = .ok (.aload 5, 2) := by decide +kernel
theorem dX9_counted_172 : decode cX9_counted 172 = .ok (.iload_n 1, 1) := by decide +kernel
theorem dX9_counted_173 : decode cX9_counted 173 = .ok (.iaload, 1) := by decide +kernel
theorem dX9_counted_174 : decode cX9_counted 174 = .ok (.ireturn, 1) := by decide +kernel
theorem dX9_defends_0 : decode cX9_defends 0 = .ok (.aload_n 0, 1) := by decide +kernel
theorem dX9_defends_1 : decode cX9_defends 1 = .ok (.iconst 0, 1) := by decide +kernel
theorem dX9_defends_2 : decode cX9_defends 2 = .ok (.putfield 85, 3) := by decide +kernel
theorem dX9_defends_5 : decode cX9_defends 5 = .ok (.aload_n 0, 1) := by decide +kernel
theorem dX9_defends_6 : decode cX9_defends 6 = .ok (.iload_n 1, 1) := by decide +kernel
theorem dX9_defends_7 : decode cX9_defends 7 = .ok (.invokevirtual 348, 3) := by decide +kernel
theorem dX9_defends_10 : decode cX9_defends 10 = .ok (.ifCond .eq 11, 3) := by decide +kernel
theorem dX9_defends_13 : decode cX9_defends 13 = .ok (.aload_n 0, 1) := by decide +kernel
theorem dX9_defends_14 : decode cX9_defends 14 = .ok (.iload_n 2, 1) := by decide +kernel
theorem dX9_defends_15 : decode cX9_defends 15 = .ok (.invokevirtual 348, 3) := by decide +kernel
theorem dX9_defends_18 : decode cX9_defends 18 = .ok (.ifCond .ne 17, 3) := by decide +kernel
theorem dX9_defends_21 : decode cX9_defends 21 = .ok (.aload_n 0, 1) := by decide +kernel
theorem dX9_defends_22 : decode cX9_defends 22 = .ok (.iconst 1, 1) := by decide +kernel
theorem dX9_defends_23 : decode cX9_defends 23 = .ok (.invokevirtual 312, 3) := by decide +kernel
theorem dX9_defends_26 : decode cX9_defends 26 = .ok (.ifCond .eq 7, 3) := by decide +kernel
theorem dX9_defends_29 : decode cX9_defends 29 = .ok (.iconst 1, 1) := by decide +kernel
theorem dX9_defends_30 : decode cX9_defends 30 = .ok (.goto 4, 3) := by decide +kernel
theorem dX9_defends_33 : decode cX9_defends 33 = .ok (.iconst 0, 1) := by decide +kernel
theorem dX9_defends_34 : decode cX9_defends 34 = .ok (.ireturn, 1) := by decide +kernel
theorem dX9_defends_35 : decode cX9_defends 35 = .ok (.aload_n 0, 1) := by decide +kernel
theorem dX9_defends_36 : decode cX9_defends 36 = .ok (.getfield 48, 3) := by decide +kernel
theorem dX9_defends_39 : decode cX9_defends 39 = .ok (.iload_n 1, 1) := by decide +kernel
theorem dX9_defends_40 : decode cX9_defends 40 = .ok (.invokevirtual 108, 3) := by decide +kernel
theorem dX9_defends_43 : decode cX9_defends 43 = .ok (.ifCond .eq 13, 3) := by decide +kernel
theorem dX9_defends_46 : decode cX9_defends 46 = .ok (.aload_n 0, 1) := by decide +kernel
theorem dX9_defends_47 : decode cX9_defends 47 = .ok (.getfield 55, 3) := by decide +kernel
theorem dX9_defends_50 : decode cX9_defends 50 = .ok (.iload_n 1, 1) := by decide +kernel
theorem dX9_defends_51 : decode cX9_defends 51 = .ok (.iaload, 1) := by decide +kernel
theorem dX9_defends_52 : decode cX9_defends 52 = .ok (.iconst 1, 1) := by decide +kernel
theorem dX9_defends_53 : decode cX9_defends 53 = .ok (.if_icmp .eq 5, 3) := by decide +kernel
theorem dX9_defends_56 : decode cX9_defends 56 = .ok (.iconst 0, 1) := by decide +kernel
theorem dX9_defends_57 : decode cX9_defends 57 = .ok (.ireturn, 1) := by decide +kernel
theorem dX9_defends_58 : decode cX9_defends 58 = .ok (.aload_n 0, 1) := by decide +kernel
theorem dX9_defends_59 : decode cX9_defends 59 = .ok (.getfield 48, 3) := by decide +kernel
theorem dX9_defends_62 : decode cX9_defends 62 = .ok (.getfield 111, 3) := by decide +kernel
theorem dX9_defends_65 : decode cX9_defends 65 = .ok (.iload_n 1, 1) := by decide +kernel
theorem dX9_defends_66 : decode cX9_defends 66 = .ok (.iaload, 1) := by decide +kernel
theorem dX9_defends_67 : decode cX9_defends 67 = .ok (.istore_n 3, 1) := by decide +kernel
theorem dX9_defends_68 : decode cX9_defends 68 = .ok (.aload_n 0, 1) := by decide +kernel
theorem dX9_defends_69 : decode cX9_defends 69 = .ok (.getfield 48, 3) := by decide +kernel
theorem dX9_defends_72 : decode cX9_defends 72 = .ok (.iload_n 3, 1) := by decide +kernel
theorem dX9_defends_73 : decode cX9_defends 73 = .ok (.invokevirtual 108, 3) := by decide +kernel
theorem dX9_defends_76 : decode cX9_defends 76 = .ok (.ifCond .eq 20, 3) := by decide +kernel
theorem dX9_defends_79 : decode cX9_defends 79 = .ok (.aload_n 0, 1) := by decide +kernel
theorem dX9_defends_80 : decode cX9_defends 80 = .ok (.getfield 48, 3) := by decide +kernel
theorem dX9_defends_83 : decode cX9_defends 83 = .ok (.getfield 111, 3) := by decide +kernel
theorem dX9_defends_86 : decode cX9_defends 86 = .ok (.iload_n 3, 1) := by decide +kernel
theorem dX9_defends_87 : decode cX9_defends 87 = .ok (.iaload, 1) := by decide +kernel
theorem dX9_defends_88 : decode cX9_defends 88 = .ok (.iload_n 2, 1) := by decide +kernel
theorem dX9_defends_89 : decode cX9_defends 89 = .ok (.if_icmp .ne 7, 3) := by decide +kernel
theorem dX9_defends_92 : decode cX9_defends 92 = .ok (.iconst 1, 1) := by decide +kernel
theorem dX9_defends_93 : decode cX9_defends 93 = .ok (.goto 4, 3) := by decide +kernel
theorem dX9_defends_96 : decode cX9_defends 96 = .ok (.iconst 0, 1) := by decide +kernel
theorem dX9_defends_97 : decode cX9_defends 97 = .ok (.ireturn, 1) := by decide +kernel
theorem dX9_digest_0 : decode cX9_digest 0 = .ok (.aload_n 0, 1) := by decide +kernel
theorem dX9_digest_1 : decode cX9_digest 1 = .ok (.iconst 0, 1) := by decide +kernel
theorem dX9_digest_2 : decode cX9_digest 2 = .ok (.putfield 85, 3) := by decide +kernel
theorem dX9_digest_5 : decode cX9_digest 5 = .ok (.ldc2_w 383, 3) := by decide +kernel
theorem dX9_digest_8 : decode cX9_digest 8 = .ok (.lstore_n 1, 1) := by decide +kernel
theorem dX9_digest_9 : decode cX9_digest 9 = .ok (.iconst 0, 1) := by decide +kernel
theorem dX9_digest_10 : decode cX9_digest 10 = .ok (.istore_n 3, 1) := by decide +kernel
theorem dX9_digest_11 : decode cX9_digest 11 = .ok (.iload_n 3, 1) := by decide +kernel
theorem dX9_digest_12 : decode cX9_digest 12 = .ok (.bipush 11, 2) := by decide +kernel
theorem dX9_digest_14 : decode cX9_digest 14 = .ok (.if_icmp .gt 22, 3) := by decide +kernel
theorem dX9_digest_17 : decode cX9_digest 17 = .ok (.lload_n 1, 1) := by decide +kernel
theorem dX9_digest_18 : decode cX9_digest 18 = .ok (.ldc2_w 385, 3) := by decide +kernel
theorem dX9_digest_21 : decode cX9_digest 21 = .ok (.lmul, 1) := by decide +kernel
theorem dX9_digest_22 : decode cX9_digest 22 = .ok (.aload_n 0, 1) := by decide +kernel
theorem dX9_digest_23 : decode cX9_digest 23 = .ok (.iload_n 3, 1) := by decide +kernel
theorem dX9_digest_24 : decode cX9_digest 24 = .ok (.invokevirtual 334, 3) := by decide +kernel
theorem dX9_digest_27 : decode cX9_digest 27 = .ok (.i2l, 1) := by decide +kernel
theorem dX9_digest_28 : decode cX9_digest 28 = .ok (.ladd, 1) := by decide +kernel
theorem dX9_digest_29 : decode cX9_digest 29 = .ok (.lstore_n 1, 1) := by decide +kernel
theorem dX9_digest_30 : decode cX9_digest 30 = .ok (.iinc 3 1, 3) := by decide +kernel
theorem dX9_digest_33 : decode cX9_digest 33 = .ok (.goto (-22), 3) := by decide +kernel
theorem dX9_digest_36 : decode cX9_digest 36 = .ok (.iconst 0, 1) := by decide +kernel
theorem dX9_digest_37 : decode cX9_digest 37 = .ok (.istore_n 3, 1) := by decide +kernel
theorem dX9_digest_38 : decode cX9_digest 38 = .ok (.iload_n 3, 1) := by decide +kernel
theorem dX9_digest_39 : decode cX9_digest 39 = .ok (.aload_n 0, 1) := by decide +kernel
theorem dX9_digest_40 : decode cX9_digest 40 = .ok (.getfield 48, 3) := by decide +kernel
theorem dX9_digest_43 : decode cX9_digest 43 = .ok (.getfield 88, 3) := by decide +kernel
theorem dX9_digest_46 : decode cX9_digest 46 = .ok (.if_icmp .ge 40, 3) := by decide +kernel
theorem dX9_digest_49 : decode cX9_digest 49 = .ok (.iconst 0, 1) := by decide +kernel
theorem dX9_digest_50 : decode cX9_digest 50 = .ok (.istore 4, 2) := by decide +kernel
theorem dX9_digest_52 : decode cX9_digest 52 = .ok (.iload 4, 2) := by decide +kernel
theorem dX9_digest_54 : decode cX9_digest 54 = .ok (.bipush 6, 2) := by decide +kernel
theorem dX9_digest_56 : decode cX9_digest 56 = .ok (.if_icmp .gt 24, 3) := by decide +kernel
theorem dX9_digest_59 : decode cX9_digest 59 = .ok (.lload_n 1, 1) := by decide +kernel
theorem dX9_digest_60 : decode cX9_digest 60 = .ok (.ldc2_w 385, 3) := by decide +kernel
theorem dX9_digest_63 : decode cX9_digest 63 = .ok (.lmul, 1) := by decide +kernel
theorem dX9_digest_64 : decode cX9_digest 64 = .ok (.aload_n 0, 1) := by decide +kernel
theorem dX9_digest_65 : decode cX9_digest 65 = .ok (.iload_n 3, 1) := by decide +kernel
theorem dX9_digest_66 : decode cX9_digest 66 = .ok (.iload 4, 2) := by decide +kernel
theorem dX9_digest_68 : decode cX9_digest 68 = .ok (.invokevirtual 343, 3) := by decide +kernel
theorem dX9_digest_71 : decode cX9_digest 71 = .ok (.i2l, 1) := by decide +kernel
theorem dX9_digest_72 : decode cX9_digest 72 = .ok (.ladd, 1) := by decide +kernel
theorem dX9_digest_73 : decode cX9_digest 73 = .ok (.lstore_n 1, 1) := by decide +kernel
theorem dX9_digest_74 : decode cX9_digest 74 = .ok (.iinc 4 1, 3) := by decide +kernel
theorem dX9_digest_77 : decode cX9_digest 77 = .ok (.goto (-25), 3) := by decide +kernel
theorem dX9_digest_80 : decode cX9_digest 80 = .ok (.iinc 3 1, 3) := by decide +kernel
theorem dX9_digest_83 : decode cX9_digest 83 = .ok (.goto (-45), 3) := by decide +kernel
theorem dX9_digest_86 : decode cX9_digest 86 = .ok (.iconst 0, 1) := by decide +kernel
theorem dX9_digest_87 : decode cX9_digest 87 = .ok (.istore_n 3, 1) := by decide +kernel
theorem dX9_digest_88 : decode cX9_digest 88 = .ok (.iload_n 3, 1) := by decide +kernel
theorem dX9_digest_89 : decode cX9_digest 89 = .ok (.aload_n 0, 1) := by decide +kernel
theorem dX9_digest_90 : decode cX9_digest 90 = .ok (.getfield 48, 3) := by decide +kernel
theorem dX9_digest_93 : decode cX9_digest 93 = .ok (.getfield 95, 3) := by decide +kernel
theorem dX9_digest_96 : decode cX9_digest 96 = .ok (.if_icmp .ge 64, 3) := by decide +kernel
theorem dX9_digest_99 : decode cX9_digest 99 = .ok (.iconst 0, 1) := by decide +kernel
theorem dX9_digest_100 : decode cX9_digest 100 = .ok (.istore 4, 2) := by decide +kernel
theorem dX9_digest_102 : decode cX9_digest 102 = .ok (.iload 4, 2) := by decide +kernel
theorem dX9_digest_104 : decode cX9_digest 104 = .ok (.bipush 10, 2) := by decide +kernel
theorem dX9_digest_106 : decode cX9_digest 106 = .ok (.if_icmp .gt 24, 3) := by decide +kernel
theorem dX9_digest_109 : decode cX9_digest 109 = .ok (.lload_n 1, 1) := by decide +kernel
theorem dX9_digest_110 : decode cX9_digest 110 = .ok (.ldc2_w 385, 3) := by decide +kernel
theorem dX9_digest_113 : decode cX9_digest 113 = .ok (.lmul, 1) := by decide +kernel
theorem dX9_digest_114 : decode cX9_digest 114 = .ok (.aload_n 0, 1) := by decide +kernel
theorem dX9_digest_115 : decode cX9_digest 115 = .ok (.iload_n 3, 1) := by decide +kernel
theorem dX9_digest_116 : decode cX9_digest 116 = .ok (.iload 4, 2) := by decide +kernel
theorem dX9_digest_118 : decode cX9_digest 118 = .ok (.invokevirtual 351, 3) := by decide +kernel
theorem dX9_digest_121 : decode cX9_digest 121 = .ok (.i2l, 1) := by decide +kernel
theorem dX9_digest_122 : decode cX9_digest 122 = .ok (.ladd, 1) := by decide +kernel
theorem dX9_digest_123 : decode cX9_digest 123 = .ok (.lstore_n 1, 1) := by decide +kernel
theorem dX9_digest_124 : decode cX9_digest 124 = .ok (.iinc 4 1, 3) := by decide +kernel
theorem dX9_digest_127 : decode cX9_digest 127 = .ok (.goto (-25), 3) := by decide +kernel
theorem dX9_digest_130 : decode cX9_digest 130 = .ok (.lload_n 1, 1) := by decide +kernel
theorem dX9_digest_131 : decode cX9_digest 131 = .ok (.ldc2_w 385, 3) := by decide +kernel
theorem dX9_digest_134 : decode cX9_digest 134 = .ok (.lmul, 1) := by decide +kernel
theorem dX9_digest_135 : decode cX9_digest 135 = .ok (.aload_n 0, 1) := by decide +kernel
theorem dX9_digest_136 : decode cX9_digest 136 = .ok (.iload_n 3, 1) := by decide +kernel
theorem dX9_digest_137 : decode cX9_digest 137 = .ok (.invokevirtual 354, 3) := by decide +kernel
theorem dX9_digest_140 : decode cX9_digest 140 = .ok (.i2l, 1) := by decide +kernel
theorem dX9_digest_141 : decode cX9_digest 141 = .ok (.ladd, 1) := by decide +kernel
theorem dX9_digest_142 : decode cX9_digest 142 = .ok (.ldc2_w 385, 3) := by decide +kernel
theorem dX9_digest_145 : decode cX9_digest 145 = .ok (.lmul, 1) := by decide +kernel
theorem dX9_digest_146 : decode cX9_digest 146 = .ok (.aload_n 0, 1) := by decide +kernel
theorem dX9_digest_147 : decode cX9_digest 147 = .ok (.iload_n 3, 1) := by decide +kernel
theorem dX9_digest_148 : decode cX9_digest 148 = .ok (.invokevirtual 357, 3) := by decide +kernel
theorem dX9_digest_151 : decode cX9_digest 151 = .ok (.i2l, 1) := by decide +kernel
theorem dX9_digest_152 : decode cX9_digest 152 = .ok (.ladd, 1) := by decide +kernel
theorem dX9_digest_153 : decode cX9_digest 153 = .ok (.lstore_n 1, 1) := by decide +kernel
theorem dX9_digest_154 : decode cX9_digest 154 = .ok (.iinc 3 1, 3) := by decide +kernel
theorem dX9_digest_157 : decode cX9_digest 157 = .ok (.goto (-69), 3) := by decide +kernel
theorem dX9_digest_160 : decode cX9_digest 160 = .ok (.iconst 0, 1) := by decide +kernel
theorem dX9_digest_161 : decode cX9_digest 161 = .ok (.istore_n 3, 1) := by decide +kernel
theorem dX9_digest_162 : decode cX9_digest 162 = .ok (.iload_n 3, 1) := by decide +kernel
theorem dX9_digest_163 : decode cX9_digest 163 = .ok (.aload_n 0, 1) := by decide +kernel
theorem dX9_digest_164 : decode cX9_digest 164 = .ok (.getfield 331, 3) := by decide +kernel
theorem dX9_digest_167 : decode cX9_digest 167 = .ok (.if_icmp .ge 23, 3) := by decide +kernel
theorem dX9_digest_170 : decode cX9_digest 170 = .ok (.lload_n 1, 1) := by decide +kernel
theorem dX9_digest_171 : decode cX9_digest 171 = .ok (.ldc2_w 385, 3) := by decide +kernel
theorem dX9_digest_174 : decode cX9_digest 174 = .ok (.lmul, 1) := by decide +kernel
theorem dX9_digest_175 : decode cX9_digest 175 = .ok (.aload_n 0, 1) := by decide +kernel
theorem dX9_digest_176 : decode cX9_digest 176 = .ok (.getfield 31, 3) := by decide +kernel
theorem dX9_digest_179 : decode cX9_digest 179 = .ok (.iload_n 3, 1) := by decide +kernel
theorem dX9_digest_180 : decode cX9_digest 180 = .ok (.iaload, 1) := by decide +kernel
theorem dX9_digest_181 : decode cX9_digest 181 = .ok (.i2l, 1) := by decide +kernel
theorem dX9_digest_182 : decode cX9_digest 182 = .ok (.ladd, 1) := by decide +kernel
theorem dX9_digest_183 : decode cX9_digest 183 = .ok (.lstore_n 1, 1) := by decide +kernel
theorem dX9_digest_184 : decode cX9_digest 184 = .ok (.iinc 3 1, 3) := by decide +kernel
theorem dX9_digest_187 : decode cX9_digest 187 = .ok (.goto (-25), 3) := by decide +kernel
theorem dX9_digest_190 : decode cX9_digest 190 = .ok (.lload_n 1, 1) := by decide +kernel
theorem dX9_digest_191 : decode cX9_digest 191 = .ok (.lreturn, 1) := by decide +kernel
theorem dX9_errorAt_0 : decode cX9_errorAt 0 = .ok (.aload_n 0, 1) := by decide +kernel
theorem dX9_errorAt_1 : decode cX9_errorAt 1 = .ok (.iconst 0, 1) := by decide +kernel
theorem dX9_errorAt_2 : decode cX9_errorAt 2 = .ok (.putfield 85, 3) := by decide +kernel
theorem dX9_errorAt_5 : decode cX9_errorAt 5 = .ok (.aload_n 0, 1) := by decide +kernel
theorem dX9_errorAt_6 : decode cX9_errorAt 6 = .ok (.getfield 23, 3) := by decide +kernel
theorem dX9_errorAt_9 : decode cX9_errorAt 9 = .ok (.ireturn, 1) := by decide +kernel
theorem dX9_fail_0 : decode cX9_fail 0 = .ok (.aload_n 0, 1) := by decide +kernel
theorem dX9_fail_1 : decode cX9_fail 1 = .ok (.aload_n 0, 1) := by decide +kernel
theorem dX9_fail_2 : decode cX9_fail 2 = .ok (.getfield 37, 3) := by decide +kernel
theorem dX9_fail_5 : decode cX9_fail 5 = .ok (.iload_n 2, 1) := by decide +kernel
theorem dX9_fail_6 : decode cX9_fail 6 = .ok (.iaload, 1) := by decide +kernel
theorem dX9_fail_7 : decode cX9_fail 7 = .ok (.putfield 23, 3) := by decide +kernel
theorem dX9_fail_10 : decode cX9_fail 10 = .ok (.iload_n 1, 1) := by decide +kernel
theorem dX9_fail_11 : decode cX9_fail 11 = .ok (.ireturn, 1) := by decide +kernel
theorem dX9_far_0 : decode cX9_far 0 = .ok (.aload_n 0, 1) := by decide +kernel
theorem dX9_far_1 : decode cX9_far 1 = .ok (.iconst 0, 1) := by decide +kernel
theorem dX9_far_2 : decode cX9_far 2 = .ok (.putfield 85, 3) := by decide +kernel
theorem dX9_far_5 : decode cX9_far 5 = .ok (.aload_n 0, 1) := by decide +kernel
theorem dX9_far_6 : decode cX9_far 6 = .ok (.iload_n 1, 1) := by decide +kernel
theorem dX9_far_7 : decode cX9_far 7 = .ok (.invokevirtual 348, 3) := by decide +kernel
theorem dX9_far_10 : decode cX9_far 10 = .ok (.ifCond .eq 11, 3) := by decide +kernel
theorem dX9_far_13 : decode cX9_far 13 = .ok (.aload_n 0, 1) := by decide +kernel
theorem dX9_far_14 : decode cX9_far 14 = .ok (.iload_n 1, 1) := by decide +kernel
theorem dX9_far_15 : decode cX9_far 15 = .ok (.invokevirtual 357, 3) := by decide +kernel
theorem dX9_far_18 : decode cX9_far 18 = .ok (.goto 8, 3) := by decide +kernel
theorem dX9_far_21 : decode cX9_far 21 = .ok (.aload_n 0, 1) := by decide +kernel
theorem dX9_far_22 : decode cX9_far 22 = .ok (.iconst 1, 1) := by decide +kernel
theorem dX9_far_23 : decode cX9_far 23 = .ok (.invokevirtual 312, 3) := by decide +kernel
theorem dX9_far_26 : decode cX9_far 26 = .ok (.ireturn, 1) := by decide +kernel
theorem dX9_farOf_0 : decode cX9_farOf 0 = .ok (.iconst 0, 1) := by decide +kernel
theorem dX9_farOf_1 : decode cX9_farOf 1 = .ok (.istore_n 2, 1) := by decide +kernel
theorem dX9_farOf_2 : decode cX9_farOf 2 = .ok (.iload_n 1, 1) := by decide +kernel
theorem dX9_farOf_3 : decode cX9_farOf 3 = .ok (.istore_n 3, 1) := by decide +kernel
theorem dX9_farOf_4 : decode cX9_farOf 4 = .ok (.aload_n 0, 1) := by decide +kernel
theorem dX9_farOf_5 : decode cX9_farOf 5 = .ok (.getfield 48, 3) := by decide +kernel
theorem dX9_farOf_8 : decode cX9_farOf 8 = .ok (.getfield 124, 3) := by decide +kernel
theorem dX9_farOf_11 : decode cX9_farOf 11 = .ok (.iload_n 3, 1) := by decide +kernel
theorem dX9_farOf_12 : decode cX9_farOf 12 = .ok (.iaload, 1) := by decide +kernel
theorem dX9_farOf_13 : decode cX9_farOf 13 = .ok (.ifCond .eq 19, 3) := by decide +kernel
theorem dX9_farOf_16 : decode cX9_farOf 16 = .ok (.iinc 2 1, 3) := by decide +kernel
theorem dX9_farOf_19 : decode cX9_farOf 19 = .ok (.aload_n 0, 1) := by decide +kernel
theorem dX9_farOf_20 : decode cX9_farOf 20 = .ok (.getfield 48, 3) := by decide +kernel
theorem dX9_farOf_23 : decode cX9_farOf 23 = .ok (.getfield 111, 3) := by decide +kernel
theorem dX9_farOf_26 : decode cX9_farOf 26 = .ok (.iload_n 3, 1) := by decide +kernel
theorem dX9_farOf_27 : decode cX9_farOf 27 = .ok (.iaload, 1) := by decide +kernel
theorem dX9_farOf_28 : decode cX9_farOf 28 = .ok (.istore_n 3, 1) := by decide +kernel
theorem dX9_farOf_29 : decode cX9_farOf 29 = .ok (.goto (-25), 3) := by decide +kernel
theorem dX9_farOf_32 : decode cX9_farOf 32 = .ok (.iload_n 2, 1) := by decide +kernel
theorem dX9_farOf_33 : decode cX9_farOf 33 = .ok (.ireturn, 1) := by decide +kernel
theorem dX9_feed_0 : decode cX9_feed 0 = .ok (.aload_n 0, 1) := by decide +kernel
theorem dX9_feed_1 : decode cX9_feed 1 = .ok (.iconst 0, 1) := by decide +kernel
theorem dX9_feed_2 : decode cX9_feed 2 = .ok (.putfield 85, 3) := by decide +kernel
theorem dX9_feed_5 : decode cX9_feed 5 = .ok (.aload_n 0, 1) := by decide +kernel
theorem dX9_feed_6 : decode cX9_feed 6 = .ok (.getfield 145, 3) := by decide +kernel
theorem dX9_feed_9 : decode cX9_feed 9 = .ok (.bipush 20, 2) := by decide +kernel
theorem dX9_feed_11 : decode cX9_feed 11 = .ok (.iadd, 1) := by decide +kernel
theorem dX9_feed_12 : decode cX9_feed 12 = .ok (.sipush 2000, 3) := by decide +kernel
theorem dX9_feed_15 : decode cX9_feed 15 = .ok (.if_icmp .le 9, 3) := by decide +kernel
theorem dX9_feed_18 : decode cX9_feed 18 = .ok (.aload_n 0, 1) := by decide +kernel
theorem dX9_feed_19 : decode cX9_feed 19 = .ok (.iconst 1, 1) := by decide +kernel
theorem dX9_feed_20 : decode cX9_feed 20 = .ok (.invokevirtual 312, 3) := by decide +kernel
theorem dX9_feed_23 : decode cX9_feed 23 = .ok (.ireturn, 1) := by decide +kernel
theorem dX9_feed_24 : decode cX9_feed 24 = .ok (.iconst 5, 1) := by decide +kernel
theorem dX9_feed_25 : decode cX9_feed 25 = .ok (.newarray .int, 2) := by decide +kernel
theorem dX9_feed_27 : decode cX9_feed 27 = .ok (.dup, 1) := by decide +kernel
theorem dX9_feed_28 : decode cX9_feed 28 = .ok (.iconst 0, 1) := by decide +kernel
theorem dX9_feed_29 : decode cX9_feed 29 = .ok (.iload_n 1, 1) := by decide +kernel
theorem dX9_feed_30 : decode cX9_feed 30 = .ok (.iastore, 1) := by decide +kernel
theorem dX9_feed_31 : decode cX9_feed 31 = .ok (.dup, 1) := by decide +kernel
theorem dX9_feed_32 : decode cX9_feed 32 = .ok (.iconst 1, 1) := by decide +kernel
theorem dX9_feed_33 : decode cX9_feed 33 = .ok (.iload_n 2, 1) := by decide +kernel
theorem dX9_feed_34 : decode cX9_feed 34 = .ok (.iastore, 1) := by decide +kernel
theorem dX9_feed_35 : decode cX9_feed 35 = .ok (.dup, 1) := by decide +kernel
theorem dX9_feed_36 : decode cX9_feed 36 = .ok (.iconst 2, 1) := by decide +kernel
theorem dX9_feed_37 : decode cX9_feed 37 = .ok (.iload_n 3, 1) := by decide +kernel
theorem dX9_feed_38 : decode cX9_feed 38 = .ok (.iastore, 1) := by decide +kernel
theorem dX9_feed_39 : decode cX9_feed 39 = .ok (.dup, 1) := by decide +kernel
theorem dX9_feed_40 : decode cX9_feed 40 = .ok (.iconst 3, 1) := by decide +kernel
theorem dX9_feed_41 : decode cX9_feed 41 = .ok (.iload 4, 2) := by decide +kernel
theorem dX9_feed_43 : decode cX9_feed 43 = .ok (.iastore, 1) := by decide +kernel
theorem dX9_feed_44 : decode cX9_feed 44 = .ok (.dup, 1) := by decide +kernel
theorem dX9_feed_45 : decode cX9_feed 45 = .ok (.iconst 4, 1) := by decide +kernel
theorem dX9_feed_46 : decode cX9_feed 46 = .ok (.iload 5, 2) := by decide +kernel
theorem dX9_feed_48 : decode cX9_feed 48 = .ok (.iastore, 1) := by decide +kernel
theorem dX9_feed_49 : decode cX9_feed 49 = .ok (.astore 6, 2) := by decide +kernel
theorem dX9_feed_51 : decode cX9_feed 51 = .ok (.iconst 0, 1) := by decide +kernel
theorem dX9_feed_52 : decode cX9_feed 52 = .ok (.istore 7, 2) := by decide +kernel
theorem dX9_feed_54 : decode cX9_feed 54 = .ok (.iload 7, 2) := by decide +kernel
theorem dX9_feed_56 : decode cX9_feed 56 = .ok (.bipush 20, 2) := by decide +kernel
theorem dX9_feed_58 : decode cX9_feed 58 = .ok (.if_icmp .ge 43, 3) := by decide +kernel
theorem dX9_feed_61 : decode cX9_feed 61 = .ok (.aload_n 0, 1) := by decide +kernel
theorem dX9_feed_62 : decode cX9_feed 62 = .ok (.getfield 27, 3) := by decide +kernel
theorem dX9_feed_65 : decode cX9_feed 65 = .ok (.aload_n 0, 1) := by decide +kernel
theorem dX9_feed_66 : decode cX9_feed 66 = .ok (.getfield 145, 3) := by decide +kernel
theorem dX9_feed_69 : decode cX9_feed 69 = .ok (.iload 7, 2) := by decide +kernel
theorem dX9_feed_71 : decode cX9_feed 71 = .ok (.iadd, 1) := by decide +kernel
theorem dX9_feed_72 : decode cX9_feed 72 = .ok (.aload 6, 2) := by decide +kernel
theorem dX9_feed_74 : decode cX9_feed 74 = .ok (.iload 7, 2) := by decide +kernel
theorem dX9_feed_76 : decode cX9_feed 76 = .ok (.iconst 4, 1) := by decide +kernel
theorem dX9_feed_77 : decode cX9_feed 77 = .ok (.idiv, 1) := by decide +kernel
theorem dX9_feed_78 : decode cX9_feed 78 = .ok (.iaload, 1) := by decide +kernel
theorem dX9_feed_79 : decode cX9_feed 79 = .ok (.bipush 24, 2) := by decide +kernel
theorem dX9_feed_81 : decode cX9_feed 81 = .ok (.bipush 8, 2) := by decide +kernel
theorem dX9_feed_83 : decode cX9_feed 83 = .ok (.iload 7, 2) := by decide +kernel
theorem dX9_feed_85 : decode cX9_feed 85 = .ok (.iconst 4, 1) := by decide +kernel
theorem dX9_feed_86 : decode cX9_feed 86 = .ok (.irem, 1) := by decide +kernel
theorem dX9_feed_87 : decode cX9_feed 87 = .ok (.imul, 1) := by decide +kernel
theorem dX9_feed_88 : decode cX9_feed 88 = .ok (.isub, 1) := by decide +kernel
theorem dX9_feed_89 : decode cX9_feed 89 = .ok (.iushr, 1) := by decide +kernel
theorem dX9_feed_90 : decode cX9_feed 90 = .ok (.sipush 255, 3) := by decide +kernel
theorem dX9_feed_93 : decode cX9_feed 93 = .ok (.iand, 1) := by decide +kernel
theorem dX9_feed_94 : decode cX9_feed 94 = .ok (.iastore, 1) := by decide +kernel
theorem dX9_feed_95 : decode cX9_feed 95 = .ok (.iinc 7 1, 3) := by decide +kernel
theorem dX9_feed_98 : decode cX9_feed 98 = .ok (.goto (-44), 3) := by decide +kernel
theorem dX9_feed_101 : decode cX9_feed 101 = .ok (.aload_n 0, 1) := by decide +kernel
theorem dX9_feed_102 : decode cX9_feed 102 = .ok (.dup, 1) := by decide +kernel
theorem dX9_feed_103 : decode cX9_feed 103 = .ok (.getfield 145, 3) := by decide +kernel
theorem dX9_feed_106 : decode cX9_feed 106 = .ok (.bipush 20, 2) := by decide +kernel
theorem dX9_feed_108 : decode cX9_feed 108 = .ok (.iadd, 1) := by decide +kernel
theorem dX9_feed_109 : decode cX9_feed 109 = .ok (.putfield 145, 3) := by decide +kernel
theorem dX9_feed_112 : decode cX9_feed 112 = .ok (.aload_n 0, 1) := by decide +kernel
theorem dX9_feed_113 : decode cX9_feed 113 = .ok (.getfield 145, 3) := by decide +kernel
theorem dX9_feed_116 : decode cX9_feed 116 = .ok (.ireturn, 1) := by decide +kernel
theorem dX9_finds_0 : decode cX9_finds 0 = .ok (.aload_n 0, 1) := by decide +kernel
theorem dX9_finds_1 : decode cX9_finds 1 = .ok (.getfield 48, 3) := by decide +kernel
theorem dX9_finds_4 : decode cX9_finds 4 = .ok (.getfield 101, 3) := by decide +kernel
theorem dX9_finds_7 : decode cX9_finds 7 = .ok (.iload_n 1, 1) := by decide +kernel
theorem dX9_finds_8 : decode cX9_finds 8 = .ok (.iaload, 1) := by decide +kernel
theorem dX9_finds_9 : decode cX9_finds 9 = .ok (.istore_n 3, 1) := by decide +kernel
theorem dX9_finds_10 : decode cX9_finds 10 = .ok (.aload_n 0, 1) := by decide +kernel
theorem dX9_finds_11 : decode cX9_finds 11 = .ok (.iload_n 1, 1) := by decide +kernel
theorem dX9_finds_12 : decode cX9_finds 12 = .ok (.invokevirtual 104, 3) := by decide +kernel
theorem dX9_finds_15 : decode cX9_finds 15 = .ok (.ifCond .ne 23, 3) := by decide +kernel
theorem dX9_finds_18 : decode cX9_finds 18 = .ok (.iload_n 1, 1) := by decide +kernel
theorem dX9_finds_19 : decode cX9_finds 19 = .ok (.aload_n 0, 1) := by decide +kernel
theorem dX9_finds_20 : decode cX9_finds 20 = .ok (.getfield 73, 3) := by decide +kernel
theorem dX9_finds_23 : decode cX9_finds 23 = .ok (.if_icmp .eq 15, 3) := by decide +kernel
theorem dX9_finds_26 : decode cX9_finds 26 = .ok (.iload_n 3, 1) := by decide +kernel
theorem dX9_finds_27 : decode cX9_finds 27 = .ok (.iconst (-1), 1) := by decide +kernel
theorem dX9_finds_28 : decode cX9_finds 28 = .ok (.if_icmp .eq 12, 3) := by decide +kernel
theorem dX9_finds_31 : decode cX9_finds 31 = .ok (.aload_n 2, 1) := by decide +kernel
theorem dX9_finds_32 : decode cX9_finds 32 = .ok (.iload_n 3, 1) := by decide +kernel
theorem dX9_finds_33 : decode cX9_finds 33 = .ok (.iaload, 1) := by decide +kernel
theorem dX9_finds_34 : decode cX9_finds 34 = .ok (.iconst 2, 1) := by decide +kernel
theorem dX9_finds_35 : decode cX9_finds 35 = .ok (.if_icmp .ne 5, 3) := by decide +kernel
theorem dX9_finds_38 : decode cX9_finds 38 = .ok (.iconst 2, 1) := by decide +kernel
theorem dX9_finds_39 : decode cX9_finds 39 = .ok (.ireturn, 1) := by decide +kernel
theorem dX9_finds_40 : decode cX9_finds 40 = .ok (.iconst 1, 1) := by decide +kernel
theorem dX9_finds_41 : decode cX9_finds 41 = .ok (.istore 4, 2) := by decide +kernel
theorem dX9_finds_43 : decode cX9_finds 43 = .ok (.aload_n 0, 1) := by decide +kernel
theorem dX9_finds_44 : decode cX9_finds 44 = .ok (.getfield 76, 3) := by decide +kernel
theorem dX9_finds_47 : decode cX9_finds 47 = .ok (.iload_n 1, 1) := by decide +kernel
theorem dX9_finds_48 : decode cX9_finds 48 = .ok (.iaload, 1) := by decide +kernel
theorem dX9_finds_49 : decode cX9_finds 49 = .ok (.istore 5, 2) := by decide +kernel
theorem dX9_finds_51 : decode cX9_finds 51 = .ok (.iload 5, 2) := by decide +kernel
theorem dX9_finds_53 : decode cX9_finds 53 = .ok (.iconst (-1), 1) := by decide +kernel
theorem dX9_finds_54 : decode cX9_finds 54 = .ok (.if_icmp .eq 43, 3) := by decide +kernel
theorem dX9_finds_57 : decode cX9_finds 57 = .ok (.aload_n 2, 1) := by decide +kernel
theorem dX9_finds_58 : decode cX9_finds 58 = .ok (.iload 5, 2) := by decide +kernel
theorem dX9_finds_60 : decode cX9_finds 60 = .ok (.iaload, 1) := by decide +kernel
theorem dX9_finds_61 : decode cX9_finds 61 = .ok (.iconst 1, 1) := by decide +kernel
theorem dX9_finds_62 : decode cX9_finds 62 = .ok (.if_icmp .ne 5, 3) := by decide +kernel
theorem dX9_finds_65 : decode cX9_finds 65 = .ok (.iconst 2, 1) := by decide +kernel
theorem dX9_finds_66 : decode cX9_finds 66 = .ok (.ireturn, 1) := by decide +kernel
theorem dX9_finds_67 : decode cX9_finds 67 = .ok (.iload 4, 2) := by decide +kernel
theorem dX9_finds_69 : decode cX9_finds 69 = .ok (.aload_n 2, 1) := by decide +kernel
theorem dX9_finds_70 : decode cX9_finds 70 = .ok (.iload 5, 2) := by decide +kernel
theorem dX9_finds_72 : decode cX9_finds 72 = .ok (.iaload, 1) := by decide +kernel
theorem dX9_finds_73 : decode cX9_finds 73 = .ok (.iconst 2, 1) := by decide +kernel
theorem dX9_finds_74 : decode cX9_finds 74 = .ok (.if_icmp .ne 7, 3) := by decide +kernel
theorem dX9_finds_77 : decode cX9_finds 77 = .ok (.iconst 1, 1) := by decide +kernel
theorem dX9_finds_78 : decode cX9_finds 78 = .ok (.goto 4, 3) := by decide +kernel
theorem dX9_finds_81 : decode cX9_finds 81 = .ok (.iconst 0, 1) := by decide +kernel
theorem dX9_finds_82 : decode cX9_finds 82 = .ok (.iand, 1) := by decide +kernel
theorem dX9_finds_83 : decode cX9_finds 83 = .ok (.istore 4, 2) := by decide +kernel
theorem dX9_finds_85 : decode cX9_finds 85 = .ok (.aload_n 0, 1) := by decide +kernel
theorem dX9_finds_86 : decode cX9_finds 86 = .ok (.getfield 79, 3) := by decide +kernel
theorem dX9_finds_89 : decode cX9_finds 89 = .ok (.iload 5, 2) := by decide +kernel
theorem dX9_finds_91 : decode cX9_finds 91 = .ok (.iaload, 1) := by decide +kernel
theorem dX9_finds_92 : decode cX9_finds 92 = .ok (.istore 5, 2) := by decide +kernel
theorem dX9_finds_94 : decode cX9_finds 94 = .ok (.goto (-43), 3) := by decide +kernel
theorem dX9_finds_97 : decode cX9_finds 97 = .ok (.iload 4, 2) := by decide +kernel
theorem dX9_finds_99 : decode cX9_finds 99 = .ok (.ifCond .eq 19, 3) := by decide +kernel
theorem dX9_finds_102 : decode cX9_finds 102 = .ok (.iload_n 3, 1) := by decide +kernel
theorem dX9_finds_103 : decode cX9_finds 103 = .ok (.iconst (-1), 1) := by decide +kernel
theorem dX9_finds_104 : decode cX9_finds 104 = .ok (.if_icmp .eq 10, 3) := by decide +kernel
theorem dX9_finds_107 : decode cX9_finds 107 = .ok (.aload_n 2, 1) := by decide +kernel
theorem dX9_finds_108 : decode cX9_finds 108 = .ok (.iload_n 3, 1) := by decide +kernel
theorem dX9_finds_109 : decode cX9_finds 109 = .ok (.iaload, 1) := by decide +kernel
theorem dX9_finds_110 : decode cX9_finds 110 = .ok (.iconst 1, 1) := by decide +kernel
theorem dX9_finds_111 : decode cX9_finds 111 = .ok (.if_icmp .ne 7, 3) := by decide +kernel
theorem dX9_finds_114 : decode cX9_finds 114 = .ok (.iconst 1, 1) := by decide +kernel
theorem dX9_finds_115 : decode cX9_finds 115 = .ok (.goto 4, 3) := by decide +kernel
theorem dX9_finds_118 : decode cX9_finds 118 = .ok (.iconst 0, 1) := by decide +kernel
theorem dX9_finds_119 : decode cX9_finds 119 = .ok (.ireturn, 1) := by decide +kernel
theorem dX9_freed_0 : decode cX9_freed 0 = .ok (.aload_n 0, 1) := by decide +kernel
theorem dX9_freed_1 : decode cX9_freed 1 = .ok (.iconst 0, 1) := by decide +kernel
theorem dX9_freed_2 : decode cX9_freed 2 = .ok (.putfield 67, 3) := by decide +kernel
theorem dX9_freed_5 : decode cX9_freed 5 = .ok (.aload_n 0, 1) := by decide +kernel
theorem dX9_freed_6 : decode cX9_freed 6 = .ok (.getfield 67, 3) := by decide +kernel
theorem dX9_freed_9 : decode cX9_freed 9 = .ok (.aload_n 0, 1) := by decide +kernel
theorem dX9_freed_10 : decode cX9_freed 10 = .ok (.getfield 48, 3) := by decide +kernel
theorem dX9_freed_13 : decode cX9_freed 13 = .ok (.getfield 95, 3) := by decide +kernel
theorem dX9_freed_16 : decode cX9_freed 16 = .ok (.if_icmp .ge 39, 3) := by decide +kernel
theorem dX9_freed_19 : decode cX9_freed 19 = .ok (.aload_n 0, 1) := by decide +kernel
theorem dX9_freed_20 : decode cX9_freed 20 = .ok (.getfield 67, 3) := by decide +kernel
theorem dX9_freed_23 : decode cX9_freed 23 = .ok (.iload_n 1, 1) := by decide +kernel
theorem dX9_freed_24 : decode cX9_freed 24 = .ok (.if_icmp .eq 18, 3) := by decide +kernel
theorem dX9_freed_27 : decode cX9_freed 27 = .ok (.aload_n 0, 1) := by decide +kernel
theorem dX9_freed_28 : decode cX9_freed 28 = .ok (.iload_n 1, 1) := by decide +kernel
theorem dX9_freed_29 : decode cX9_freed 29 = .ok (.invokevirtual 366, 3) := by decide +kernel
theorem dX9_freed_32 : decode cX9_freed 32 = .ok (.ifCond .eq 10, 3) := by decide +kernel
theorem dX9_freed_35 : decode cX9_freed 35 = .ok (.iconst 1, 1) := by decide +kernel
theorem dX9_freed_36 : decode cX9_freed 36 = .ok (.aload_n 0, 1) := by decide +kernel
theorem dX9_freed_37 : decode cX9_freed 37 = .ok (.getfield 67, 3) := by decide +kernel
theorem dX9_freed_40 : decode cX9_freed 40 = .ok (.iadd, 1) := by decide +kernel
theorem dX9_freed_41 : decode cX9_freed 41 = .ok (.ireturn, 1) := by decide +kernel
theorem dX9_freed_42 : decode cX9_freed 42 = .ok (.aload_n 0, 1) := by decide +kernel
theorem dX9_freed_43 : decode cX9_freed 43 = .ok (.dup, 1) := by decide +kernel
theorem dX9_freed_44 : decode cX9_freed 44 = .ok (.getfield 67, 3) := by decide +kernel
theorem dX9_freed_47 : decode cX9_freed 47 = .ok (.iconst 1, 1) := by decide +kernel
theorem dX9_freed_48 : decode cX9_freed 48 = .ok (.iadd, 1) := by decide +kernel
theorem dX9_freed_49 : decode cX9_freed 49 = .ok (.putfield 67, 3) := by decide +kernel
theorem dX9_freed_52 : decode cX9_freed 52 = .ok (.goto (-47), 3) := by decide +kernel
theorem dX9_freed_55 : decode cX9_freed 55 = .ok (.aload_n 0, 1) := by decide +kernel
theorem dX9_freed_56 : decode cX9_freed 56 = .ok (.iconst 0, 1) := by decide +kernel
theorem dX9_freed_57 : decode cX9_freed 57 = .ok (.putfield 67, 3) := by decide +kernel
theorem dX9_freed_60 : decode cX9_freed 60 = .ok (.aload_n 0, 1) := by decide +kernel
theorem dX9_freed_61 : decode cX9_freed 61 = .ok (.getfield 67, 3) := by decide +kernel
theorem dX9_freed_64 : decode cX9_freed 64 = .ok (.aload_n 0, 1) := by decide +kernel
theorem dX9_freed_65 : decode cX9_freed 65 = .ok (.getfield 48, 3) := by decide +kernel
theorem dX9_freed_68 : decode cX9_freed 68 = .ok (.getfield 95, 3) := by decide +kernel
theorem dX9_freed_71 : decode cX9_freed 71 = .ok (.if_icmp .ge 94, 3) := by decide +kernel
theorem dX9_freed_74 : decode cX9_freed 74 = .ok (.aload_n 0, 1) := by decide +kernel
theorem dX9_freed_75 : decode cX9_freed 75 = .ok (.aload_n 0, 1) := by decide +kernel
theorem dX9_freed_76 : decode cX9_freed 76 = .ok (.getfield 67, 3) := by decide +kernel
theorem dX9_freed_79 : decode cX9_freed 79 = .ok (.iconst 1, 1) := by decide +kernel
theorem dX9_freed_80 : decode cX9_freed 80 = .ok (.iadd, 1) := by decide +kernel
theorem dX9_freed_81 : decode cX9_freed 81 = .ok (.putfield 70, 3) := by decide +kernel
theorem dX9_freed_84 : decode cX9_freed 84 = .ok (.aload_n 0, 1) := by decide +kernel
theorem dX9_freed_85 : decode cX9_freed 85 = .ok (.getfield 70, 3) := by decide +kernel
theorem dX9_freed_88 : decode cX9_freed 88 = .ok (.aload_n 0, 1) := by decide +kernel
theorem dX9_freed_89 : decode cX9_freed 89 = .ok (.getfield 48, 3) := by decide +kernel
theorem dX9_freed_92 : decode cX9_freed 92 = .ok (.getfield 95, 3) := by decide +kernel
theorem dX9_freed_95 : decode cX9_freed 95 = .ok (.if_icmp .ge 57, 3) := by decide +kernel
theorem dX9_freed_98 : decode cX9_freed 98 = .ok (.aload_n 0, 1) := by decide +kernel
theorem dX9_freed_99 : decode cX9_freed 99 = .ok (.getfield 67, 3) := by decide +kernel
theorem dX9_freed_102 : decode cX9_freed 102 = .ok (.iload_n 1, 1) := by decide +kernel
theorem dX9_freed_103 : decode cX9_freed 103 = .ok (.if_icmp .eq 36, 3) := by decide +kernel
theorem dX9_freed_106 : decode cX9_freed 106 = .ok (.aload_n 0, 1) := by decide +kernel
theorem dX9_freed_107 : decode cX9_freed 107 = .ok (.getfield 70, 3) := by decide +kernel
theorem dX9_freed_110 : decode cX9_freed 110 = .ok (.iload_n 1, 1) := by decide +kernel
theorem dX9_freed_111 : decode cX9_freed 111 = .ok (.if_icmp .eq 28, 3) := by decide +kernel
theorem dX9_freed_114 : decode cX9_freed 114 = .ok (.aload_n 0, 1) := by decide +kernel
theorem dX9_freed_115 : decode cX9_freed 115 = .ok (.iload_n 1, 1) := by decide +kernel
theorem dX9_freed_116 : decode cX9_freed 116 = .ok (.invokevirtual 366, 3) := by decide +kernel
theorem dX9_freed_119 : decode cX9_freed 119 = .ok (.ifCond .eq 20, 3) := by decide +kernel
theorem dX9_freed_122 : decode cX9_freed 122 = .ok (.bipush 100, 2) := by decide +kernel
theorem dX9_freed_124 : decode cX9_freed 124 = .ok (.iconst 1, 1) := by decide +kernel
theorem dX9_freed_125 : decode cX9_freed 125 = .ok (.aload_n 0, 1) := by decide +kernel
theorem dX9_freed_126 : decode cX9_freed 126 = .ok (.getfield 67, 3) := by decide +kernel
theorem dX9_freed_129 : decode cX9_freed 129 = .ok (.iadd, 1) := by decide +kernel
theorem dX9_freed_130 : decode cX9_freed 130 = .ok (.imul, 1) := by decide +kernel
theorem dX9_freed_131 : decode cX9_freed 131 = .ok (.iconst 1, 1) := by decide +kernel
theorem dX9_freed_132 : decode cX9_freed 132 = .ok (.iadd, 1) := by decide +kernel
theorem dX9_freed_133 : decode cX9_freed 133 = .ok (.aload_n 0, 1) := by decide +kernel
theorem dX9_freed_134 : decode cX9_freed 134 = .ok (.getfield 70, 3) := by decide +kernel
theorem dX9_freed_137 : decode cX9_freed 137 = .ok (.iadd, 1) := by decide +kernel
theorem dX9_freed_138 : decode cX9_freed 138 = .ok (.ireturn, 1) := by decide +kernel
theorem dX9_freed_139 : decode cX9_freed 139 = .ok (.aload_n 0, 1) := by decide +kernel
theorem dX9_freed_140 : decode cX9_freed 140 = .ok (.dup, 1) := by decide +kernel
theorem dX9_freed_141 : decode cX9_freed 141 = .ok (.getfield 70, 3) := by decide +kernel
theorem dX9_freed_144 : decode cX9_freed 144 = .ok (.iconst 1, 1) := by decide +kernel
theorem dX9_freed_145 : decode cX9_freed 145 = .ok (.iadd, 1) := by decide +kernel
theorem dX9_freed_146 : decode cX9_freed 146 = .ok (.putfield 70, 3) := by decide +kernel
theorem dX9_freed_149 : decode cX9_freed 149 = .ok (.goto (-65), 3) := by decide +kernel
theorem dX9_freed_152 : decode cX9_freed 152 = .ok (.aload_n 0, 1) := by decide +kernel
theorem dX9_freed_153 : decode cX9_freed 153 = .ok (.dup, 1) := by decide +kernel
theorem dX9_freed_154 : decode cX9_freed 154 = .ok (.getfield 67, 3) := by decide +kernel
theorem dX9_freed_157 : decode cX9_freed 157 = .ok (.iconst 1, 1) := by decide +kernel
theorem dX9_freed_158 : decode cX9_freed 158 = .ok (.iadd, 1) := by decide +kernel
theorem dX9_freed_159 : decode cX9_freed 159 = .ok (.putfield 67, 3) := by decide +kernel
theorem dX9_freed_162 : decode cX9_freed 162 = .ok (.goto (-102), 3) := by decide +kernel
theorem dX9_freed_165 : decode cX9_freed 165 = .ok (.iconst (-1), 1) := by decide +kernel
theorem dX9_freed_166 : decode cX9_freed 166 = .ok (.ireturn, 1) := by decide +kernel
theorem dX9_frees_0 : decode cX9_frees 0 = .ok (.aload_n 0, 1) := by decide +kernel
theorem dX9_frees_1 : decode cX9_frees 1 = .ok (.iconst 0, 1) := by decide +kernel
theorem dX9_frees_2 : decode cX9_frees 2 = .ok (.putfield 85, 3) := by decide +kernel
theorem dX9_frees_5 : decode cX9_frees 5 = .ok (.aload_n 0, 1) := by decide +kernel
theorem dX9_frees_6 : decode cX9_frees 6 = .ok (.iload_n 1, 1) := by decide +kernel
theorem dX9_frees_7 : decode cX9_frees 7 = .ok (.invokevirtual 348, 3) := by decide +kernel
theorem dX9_frees_10 : decode cX9_frees 10 = .ok (.ifCond .ne 9, 3) := by decide +kernel
theorem dX9_frees_13 : decode cX9_frees 13 = .ok (.aload_n 0, 1) := by decide +kernel
theorem dX9_frees_14 : decode cX9_frees 14 = .ok (.iconst 1, 1) := by decide +kernel
theorem dX9_frees_15 : decode cX9_frees 15 = .ok (.invokevirtual 312, 3) := by decide +kernel
theorem dX9_frees_18 : decode cX9_frees 18 = .ok (.ireturn, 1) := by decide +kernel
theorem dX9_frees_19 : decode cX9_frees 19 = .ok (.aload_n 0, 1) := by decide +kernel
theorem dX9_frees_20 : decode cX9_frees 20 = .ok (.getfield 55, 3) := by decide +kernel
theorem dX9_frees_23 : decode cX9_frees 23 = .ok (.iload_n 1, 1) := by decide +kernel
theorem dX9_frees_24 : decode cX9_frees 24 = .ok (.iaload, 1) := by decide +kernel
theorem dX9_frees_25 : decode cX9_frees 25 = .ok (.iconst 1, 1) := by decide +kernel
theorem dX9_frees_26 : decode cX9_frees 26 = .ok (.if_icmp .ne 5, 3) := by decide +kernel
theorem dX9_frees_29 : decode cX9_frees 29 = .ok (.iconst 0, 1) := by decide +kernel
theorem dX9_frees_30 : decode cX9_frees 30 = .ok (.ireturn, 1) := by decide +kernel
theorem dX9_frees_31 : decode cX9_frees 31 = .ok (.aload_n 0, 1) := by decide +kernel
theorem dX9_frees_32 : decode cX9_frees 32 = .ok (.iload_n 1, 1) := by decide +kernel
theorem dX9_frees_33 : decode cX9_frees 33 = .ok (.invokevirtual 369, 3) := by decide +kernel
theorem dX9_frees_36 : decode cX9_frees 36 = .ok (.istore_n 2, 1) := by decide +kernel
theorem dX9_frees_37 : decode cX9_frees 37 = .ok (.aload_n 0, 1) := by decide +kernel
theorem dX9_frees_38 : decode cX9_frees 38 = .ok (.iconst (-1), 1) := by decide +kernel
theorem dX9_frees_39 : decode cX9_frees 39 = .ok (.putfield 67, 3) := by decide +kernel
theorem dX9_frees_42 : decode cX9_frees 42 = .ok (.aload_n 0, 1) := by decide +kernel
theorem dX9_frees_43 : decode cX9_frees 43 = .ok (.iconst (-1), 1) := by decide +kernel
theorem dX9_frees_44 : decode cX9_frees 44 = .ok (.putfield 70, 3) := by decide +kernel
theorem dX9_frees_47 : decode cX9_frees 47 = .ok (.iload_n 2, 1) := by decide +kernel
theorem dX9_frees_48 : decode cX9_frees 48 = .ok (.ireturn, 1) := by decide +kernel
theorem dX9_give_0 : decode cX9_give 0 = .ok (.aload_n 0, 1) := by decide +kernel
theorem dX9_give_1 : decode cX9_give 1 = .ok (.iconst 0, 1) := by decide +kernel
theorem dX9_give_2 : decode cX9_give 2 = .ok (.putfield 85, 3) := by decide +kernel
theorem dX9_give_5 : decode cX9_give 5 = .ok (.aload_n 0, 1) := by decide +kernel
theorem dX9_give_6 : decode cX9_give 6 = .ok (.iload_n 1, 1) := by decide +kernel
theorem dX9_give_7 : decode cX9_give 7 = .ok (.invokevirtual 340, 3) := by decide +kernel
theorem dX9_give_10 : decode cX9_give 10 = .ok (.ifCond .ne 9, 3) := by decide +kernel
theorem dX9_give_13 : decode cX9_give 13 = .ok (.aload_n 0, 1) := by decide +kernel
theorem dX9_give_14 : decode cX9_give 14 = .ok (.iconst 1, 1) := by decide +kernel
theorem dX9_give_15 : decode cX9_give 15 = .ok (.invokevirtual 312, 3) := by decide +kernel
theorem dX9_give_18 : decode cX9_give 18 = .ok (.ireturn, 1) := by decide +kernel
theorem dX9_give_19 : decode cX9_give 19 = .ok (.iload_n 2, 1) := by decide +kernel
theorem dX9_give_20 : decode cX9_give 20 = .ok (.iconst 1, 1) := by decide +kernel
theorem dX9_give_21 : decode cX9_give 21 = .ok (.sipush 3600, 3) := by decide +kernel
theorem dX9_give_24 : decode cX9_give 24 = .ok (.invokestatic 91, 3) := by decide +kernel
theorem dX9_give_27 : decode cX9_give 27 = .ok (.ifCond .ne 9, 3) := by decide +kernel
theorem dX9_give_30 : decode cX9_give 30 = .ok (.aload_n 0, 1) := by decide +kernel
theorem dX9_give_31 : decode cX9_give 31 = .ok (.iconst 2, 1) := by decide +kernel
theorem dX9_give_32 : decode cX9_give 32 = .ok (.invokevirtual 312, 3) := by decide +kernel
theorem dX9_give_35 : decode cX9_give 35 = .ok (.ireturn, 1) := by decide +kernel
theorem dX9_give_36 : decode cX9_give 36 = .ok (.aload_n 0, 1) := by decide +kernel
theorem dX9_give_37 : decode cX9_give 37 = .ok (.getfield 48, 3) := by decide +kernel
theorem dX9_give_40 : decode cX9_give 40 = .ok (.getfield 118, 3) := by decide +kernel
theorem dX9_give_43 : decode cX9_give 43 = .ok (.iload_n 1, 1) := by decide +kernel
theorem dX9_give_44 : decode cX9_give 44 = .ok (.dup2, 1) := by decide +kernel
theorem dX9_give_45 : decode cX9_give 45 = .ok (.iaload, 1) := by decide +kernel
theorem dX9_give_46 : decode cX9_give 46 = .ok (.iload_n 2, 1) := by decide +kernel
theorem dX9_give_47 : decode cX9_give 47 = .ok (.iadd, 1) := by decide +kernel
theorem dX9_give_48 : decode cX9_give 48 = .ok (.iastore, 1) := by decide +kernel
theorem dX9_give_49 : decode cX9_give 49 = .ok (.aload_n 0, 1) := by decide +kernel
theorem dX9_give_50 : decode cX9_give 50 = .ok (.getfield 48, 3) := by decide +kernel
theorem dX9_give_53 : decode cX9_give 53 = .ok (.getfield 118, 3) := by decide +kernel
theorem dX9_give_56 : decode cX9_give 56 = .ok (.iload_n 1, 1) := by decide +kernel
theorem dX9_give_57 : decode cX9_give 57 = .ok (.iaload, 1) := by decide +kernel
theorem dX9_give_58 : decode cX9_give 58 = .ok (.ireturn, 1) := by decide +kernel
theorem dX9_init_0 : decode cX9_init 0 = .ok (.aload_n 0, 1) := by decide +kernel
theorem dX9_init_1 : decode cX9_init 1 = .ok (.invokespecial 17, 3) := by decide +kernel
theorem dX9_init_4 : decode cX9_init 4 = .ok (.aload_n 0, 1) := by decide +kernel
theorem dX9_init_5 : decode cX9_init 5 = .ok (.iconst (-1), 1) := by decide +kernel
theorem dX9_init_6 : decode cX9_init 6 = .ok (.putfield 23, 3) := by decide +kernel
theorem dX9_init_9 : decode cX9_init 9 = .ok (.aload_n 0, 1) := by decide +kernel
theorem dX9_init_10 : decode cX9_init 10 = .ok (.sipush 2000, 3) := by decide +kernel
theorem dX9_init_13 : decode cX9_init 13 = .ok (.newarray .int, 2) := by decide +kernel
theorem dX9_init_15 : decode cX9_init 15 = .ok (.putfield 27, 3) := by decide +kernel
theorem dX9_init_18 : decode cX9_init 18 = .ok (.aload_n 0, 1) := by decide +kernel
theorem dX9_init_19 : decode cX9_init 19 = .ok (.sipush 1280, 3) := by decide +kernel
theorem dX9_init_22 : decode cX9_init 22 = .ok (.newarray .int, 2) := by decide +kernel
theorem dX9_init_24 : decode cX9_init 24 = .ok (.putfield 31, 3) := by decide +kernel
theorem dX9_init_27 : decode cX9_init 27 = .ok (.aload_n 0, 1) := by decide +kernel
theorem dX9_init_28 : decode cX9_init 28 = .ok (.sipush 402, 3) := by decide +kernel
theorem dX9_init_31 : decode cX9_init 31 = .ok (.newarray .int, 2) := by decide +kernel
theorem dX9_init_33 : decode cX9_init 33 = .ok (.putfield 34, 3) := by decide +kernel
theorem dX9_init_36 : decode cX9_init 36 = .ok (.aload_n 0, 1) := by decide +kernel
theorem dX9_init_37 : decode cX9_init 37 = .ok (.sipush 402, 3) := by decide +kernel
theorem dX9_init_40 : decode cX9_init 40 = .ok (.newarray .int, 2) := by decide +kernel
theorem dX9_init_42 : decode cX9_init 42 = .ok (.putfield 37, 3) := by decide +kernel
theorem dX9_init_45 : decode cX9_init 45 = .ok (.aload_n 0, 1) := by decide +kernel
theorem dX9_init_46 : decode cX9_init 46 = .ok (.sipush 402, 3) := by decide +kernel
theorem dX9_init_49 : decode cX9_init 49 = .ok (.newarray .long, 2) := by decide +kernel
theorem dX9_init_51 : decode cX9_init 51 = .ok (.putfield 40, 3) := by decide +kernel
theorem dX9_init_54 : decode cX9_init 54 = .ok (.aload_n 0, 1) := by decide +kernel
theorem dX9_init_55 : decode cX9_init 55 = .ok (.new 43, 3) := by decide +kernel
theorem dX9_init_58 : decode cX9_init 58 = .ok (.dup, 1) := by decide +kernel
theorem dX9_init_59 : decode cX9_init 59 = .ok (.aload_n 0, 1) := by decide +kernel
theorem dX9_init_60 : decode cX9_init 60 = .ok (.invokespecial 45, 3) := by decide +kernel
theorem dX9_init_63 : decode cX9_init 63 = .ok (.putfield 48, 3) := by decide +kernel
theorem dX9_init_66 : decode cX9_init 66 = .ok (.aload_n 0, 1) := by decide +kernel
theorem dX9_init_67 : decode cX9_init 67 = .ok (.new 43, 3) := by decide +kernel
theorem dX9_init_70 : decode cX9_init 70 = .ok (.dup, 1) := by decide +kernel
theorem dX9_init_71 : decode cX9_init 71 = .ok (.aload_n 0, 1) := by decide +kernel
theorem dX9_init_72 : decode cX9_init 72 = .ok (.invokespecial 45, 3) := by decide +kernel
theorem dX9_init_75 : decode cX9_init 75 = .ok (.putfield 52, 3) := by decide +kernel
theorem dX9_init_78 : decode cX9_init 78 = .ok (.aload_n 0, 1) := by decide +kernel
theorem dX9_init_79 : decode cX9_init 79 = .ok (.bipush 40, 2) := by decide +kernel
theorem dX9_init_81 : decode cX9_init 81 = .ok (.newarray .int, 2) := by decide +kernel
theorem dX9_init_83 : decode cX9_init 83 = .ok (.putfield 55, 3) := by decide +kernel
theorem dX9_init_86 : decode cX9_init 86 = .ok (.aload_n 0, 1) := by decide +kernel
theorem dX9_init_87 : decode cX9_init 87 = .ok (.bipush 40, 2) := by decide +kernel
theorem dX9_init_89 : decode cX9_init 89 = .ok (.newarray .int, 2) := by decide +kernel
theorem dX9_init_91 : decode cX9_init 91 = .ok (.putfield 58, 3) := by decide +kernel
theorem dX9_init_94 : decode cX9_init 94 = .ok (.aload_n 0, 1) := by decide +kernel
theorem dX9_init_95 : decode cX9_init 95 = .ok (.bipush 40, 2) := by decide +kernel
theorem dX9_init_97 : decode cX9_init 97 = .ok (.newarray .int, 2) := by decide +kernel
theorem dX9_init_99 : decode cX9_init 99 = .ok (.putfield 61, 3) := by decide +kernel
theorem dX9_init_102 : decode cX9_init 102 = .ok (.aload_n 0, 1) := by decide +kernel
theorem dX9_init_103 : decode cX9_init 103 = .ok (.bipush 40, 2) := by decide +kernel
theorem dX9_init_105 : decode cX9_init 105 = .ok (.newarray .int, 2) := by decide +kernel
theorem dX9_init_107 : decode cX9_init 107 = .ok (.putfield 64, 3) := by decide +kernel
theorem dX9_init_110 : decode cX9_init 110 = .ok (.aload_n 0, 1) := by decide +kernel
theorem dX9_init_111 : decode cX9_init 111 = .ok (.iconst (-1), 1) := by decide +kernel
theorem dX9_init_112 : decode cX9_init 112 = .ok (.putfield 67, 3) := by decide +kernel
theorem dX9_init_115 : decode cX9_init 115 = .ok (.aload_n 0, 1) := by decide +kernel
theorem dX9_init_116 : decode cX9_init 116 = .ok (.iconst (-1), 1) := by decide +kernel
theorem dX9_init_117 : decode cX9_init 117 = .ok (.putfield 70, 3) := by decide +kernel
theorem dX9_init_120 : decode cX9_init 120 = .ok (.aload_n 0, 1) := by decide +kernel
theorem dX9_init_121 : decode cX9_init 121 = .ok (.iconst (-1), 1) := by decide +kernel
theorem dX9_init_122 : decode cX9_init 122 = .ok (.putfield 73, 3) := by decide +kernel
theorem dX9_init_125 : decode cX9_init 125 = .ok (.aload_n 0, 1) := by decide +kernel
theorem dX9_init_126 : decode cX9_init 126 = .ok (.bipush 40, 2) := by decide +kernel
theorem dX9_init_128 : decode cX9_init 128 = .ok (.newarray .int, 2) := by decide +kernel
theorem dX9_init_130 : decode cX9_init 130 = .ok (.putfield 76, 3) := by decide +kernel
theorem dX9_init_133 : decode cX9_init 133 = .ok (.aload_n 0, 1) := by decide +kernel
theorem dX9_init_134 : decode cX9_init 134 = .ok (.bipush 40, 2) := by decide +kernel
theorem dX9_init_136 : decode cX9_init 136 = .ok (.newarray .int, 2) := by decide +kernel
theorem dX9_init_138 : decode cX9_init 138 = .ok (.putfield 79, 3) := by decide +kernel
theorem dX9_init_141 : decode cX9_init 141 = .ok (.aload_n 0, 1) := by decide +kernel
theorem dX9_init_142 : decode cX9_init 142 = .ok (.bipush 40, 2) := by decide +kernel
theorem dX9_init_144 : decode cX9_init 144 = .ok (.newarray .int, 2) := by decide +kernel
theorem dX9_init_146 : decode cX9_init 146 = .ok (.putfield 82, 3) := by decide +kernel
theorem dX9_init_149 : decode cX9_init 149 = .ok (.return_, 1) := by decide +kernel
theorem dX9_is_0 : decode cX9_is 0 = .ok (.aload_n 0, 1) := by decide +kernel
theorem dX9_is_1 : decode cX9_is 1 = .ok (.getfield 34, 3) := by decide +kernel
theorem dX9_is_4 : decode cX9_is 4 = .ok (.aload_n 0, 1) := by decide +kernel
theorem dX9_is_5 : decode cX9_is 5 = .ok (.getfield 168, 3) := by decide +kernel
theorem dX9_is_8 : decode cX9_is 8 = .ok (.iaload, 1) := by decide +kernel
theorem dX9_is_9 : decode cX9_is 9 = .ok (.iconst 2, 1) := by decide +kernel
theorem dX9_is_10 : decode cX9_is 10 = .ok (.if_icmp .ne 24, 3) := by decide +kernel
theorem dX9_is_13 : decode cX9_is 13 = .ok (.aload_n 0, 1) := by decide +kernel
theorem dX9_is_14 : decode cX9_is 14 = .ok (.getfield 40, 3) := by decide +kernel
theorem dX9_is_17 : decode cX9_is 17 = .ok (.aload_n 0, 1) := by decide +kernel
theorem dX9_is_18 : decode cX9_is 18 = .ok (.getfield 168, 3) := by decide +kernel
theorem dX9_is_21 : decode cX9_is 21 = .ok (.laload, 1) := by decide +kernel
theorem dX9_is_22 : decode cX9_is 22 = .ok (.aload_n 1, 1) := by decide +kernel
theorem dX9_is_23 : decode cX9_is 23 = .ok (.invokestatic 171, 3) := by decide +kernel
theorem dX9_is_26 : decode cX9_is 26 = .ok (.lcmp, 1) := by decide +kernel
theorem dX9_is_27 : decode cX9_is 27 = .ok (.ifCond .ne 7, 3) := by decide +kernel
theorem dX9_is_30 : decode cX9_is 30 = .ok (.iconst 1, 1) := by decide +kernel
theorem dX9_is_31 : decode cX9_is 31 = .ok (.goto 4, 3) := by decide +kernel
theorem dX9_is_34 : decode cX9_is 34 = .ok (.iconst 0, 1) := by decide +kernel
theorem dX9_is_35 : decode cX9_is 35 = .ok (.ireturn, 1) := by decide +kernel
theorem dX9_isConceded_0 : decode cX9_isConceded 0 = .ok (.aload_n 0, 1) := by decide +kernel
theorem dX9_isConceded_1 : decode cX9_isConceded 1 = .ok (.getfield 48, 3) := by decide +kernel
theorem dX9_isConceded_4 : decode cX9_isConceded 4 = .ok (.getfield 98, 3) := by decide +kernel
theorem dX9_isConceded_7 : decode cX9_isConceded 7 = .ok (.iload_n 1, 1) := by decide +kernel
theorem dX9_isConceded_8 : decode cX9_isConceded 8 = .ok (.iaload, 1) := by decide +kernel
theorem dX9_isConceded_9 : decode cX9_isConceded 9 = .ok (.iconst 1, 1) := by decide +kernel
theorem dX9_isConceded_10 : decode cX9_isConceded 10 = .ok (.if_icmp .eq 19, 3) := by decide +kernel
theorem dX9_isConceded_13 : decode cX9_isConceded 13 = .ok (.iload_n 1, 1) := by decide +kernel
theorem dX9_isConceded_14 : decode cX9_isConceded 14 = .ok (.aload_n 0, 1) := by decide +kernel
theorem dX9_isConceded_15 : decode cX9_isConceded 15 = .ok (.getfield 67, 3) := by decide +kernel
theorem dX9_isConceded_18 : decode cX9_isConceded 18 = .ok (.if_icmp .eq 11, 3) := by decide +kernel
theorem dX9_isConceded_21 : decode cX9_isConceded 21 = .ok (.iload_n 1, 1) := by decide +kernel
theorem dX9_isConceded_22 : decode cX9_isConceded 22 = .ok (.aload_n 0, 1) := by decide +kernel
theorem dX9_isConceded_23 : decode cX9_isConceded 23 = .ok (.getfield 70, 3) := by decide +kernel
theorem dX9_isConceded_26 : decode cX9_isConceded 26 = .ok (.if_icmp .ne 7, 3) := by decide +kernel
theorem dX9_isConceded_29 : decode cX9_isConceded 29 = .ok (.iconst 1, 1) := by decide +kernel
theorem dX9_isConceded_30 : decode cX9_isConceded 30 = .ok (.goto 4, 3) := by decide +kernel
theorem dX9_isConceded_33 : decode cX9_isConceded 33 = .ok (.iconst 0, 1) := by decide +kernel
theorem dX9_isConceded_34 : decode cX9_isConceded 34 = .ok (.ireturn, 1) := by decide +kernel
theorem dX9_isDigit_0 : decode cX9_isDigit 0 = .ok (.iload_n 0, 1) := by decide +kernel
theorem dX9_isDigit_1 : decode cX9_isDigit 1 = .ok (.bipush 48, 2) := by decide +kernel
theorem dX9_isDigit_3 : decode cX9_isDigit 3 = .ok (.if_icmp .lt 13, 3) := by decide +kernel
theorem dX9_isDigit_6 : decode cX9_isDigit 6 = .ok (.iload_n 0, 1) := by decide +kernel
theorem dX9_isDigit_7 : decode cX9_isDigit 7 = .ok (.bipush 57, 2) := by decide +kernel
theorem dX9_isDigit_9 : decode cX9_isDigit 9 = .ok (.if_icmp .gt 7, 3) := by decide +kernel
theorem dX9_isDigit_12 : decode cX9_isDigit 12 = .ok (.iconst 1, 1) := by decide +kernel
theorem dX9_isDigit_13 : decode cX9_isDigit 13 = .ok (.goto 4, 3) := by decide +kernel
theorem dX9_isDigit_16 : decode cX9_isDigit 16 = .ok (.iconst 0, 1) := by decide +kernel
theorem dX9_isDigit_17 : decode cX9_isDigit 17 = .ok (.ireturn, 1) := by decide +kernel
theorem dX9_isFree_0 : decode cX9_isFree 0 = .ok (.aload_n 0, 1) := by decide +kernel
theorem dX9_isFree_1 : decode cX9_isFree 1 = .ok (.aload_n 0, 1) := by decide +kernel
theorem dX9_isFree_2 : decode cX9_isFree 2 = .ok (.getfield 61, 3) := by decide +kernel
theorem dX9_isFree_5 : decode cX9_isFree 5 = .ok (.aload_n 0, 1) := by decide +kernel
theorem dX9_isFree_6 : decode cX9_isFree 6 = .ok (.getfield 64, 3) := by decide +kernel
theorem dX9_isFree_9 : decode cX9_isFree 9 = .ok (.invokevirtual 287, 3) := by decide +kernel
theorem dX9_isFree_12 : decode cX9_isFree 12 = .ok (.pop, 1) := by decide +kernel
theorem dX9_isFree_13 : decode cX9_isFree 13 = .ok (.aload_n 0, 1) := by decide +kernel
theorem dX9_isFree_14 : decode cX9_isFree 14 = .ok (.getfield 61, 3) := by decide +kernel
theorem dX9_isFree_17 : decode cX9_isFree 17 = .ok (.iload_n 1, 1) := by decide +kernel
theorem dX9_isFree_18 : decode cX9_isFree 18 = .ok (.iaload, 1) := by decide +kernel
theorem dX9_isFree_19 : decode cX9_isFree 19 = .ok (.iconst 1, 1) := by decide +kernel
theorem dX9_isFree_20 : decode cX9_isFree 20 = .ok (.if_icmp .ne 7, 3) := by decide +kernel
theorem dX9_isFree_23 : decode cX9_isFree 23 = .ok (.iconst 1, 1) := by decide +kernel
theorem dX9_isFree_24 : decode cX9_isFree 24 = .ok (.goto 4, 3) := by decide +kernel
theorem dX9_isFree_27 : decode cX9_isFree 27 = .ok (.iconst 0, 1) := by decide +kernel
theorem dX9_isFree_28 : decode cX9_isFree 28 = .ok (.ireturn, 1) := by decide +kernel
theorem dX9_isIn_0 : decode cX9_isIn 0 = .ok (.iload_n 0, 1) := by decide +kernel
theorem dX9_isIn_1 : decode cX9_isIn 1 = .ok (.iload_n 1, 1) := by decide +kernel
theorem dX9_isIn_2 : decode cX9_isIn 2 = .ok (.if_icmp .lt 12, 3) := by decide +kernel
theorem dX9_isIn_5 : decode cX9_isIn 5 = .ok (.iload_n 0, 1) := by decide +kernel
theorem dX9_isIn_6 : decode cX9_isIn 6 = .ok (.iload_n 2, 1) := by decide +kernel
theorem dX9_isIn_7 : decode cX9_isIn 7 = .ok (.if_icmp .gt 7, 3) := by decide +kernel
theorem dX9_isIn_10 : decode cX9_isIn 10 = .ok (.iconst 1, 1) := by decide +kernel
theorem dX9_isIn_11 : decode cX9_isIn 11 = .ok (.goto 4, 3) := by decide +kernel
theorem dX9_isIn_14 : decode cX9_isIn 14 = .ok (.iconst 0, 1) := by decide +kernel
theorem dX9_isIn_15 : decode cX9_isIn 15 = .ok (.ireturn, 1) := by decide +kernel
theorem dX9_isItem_0 : decode cX9_isItem 0 = .ok (.iload_n 1, 1) := by decide +kernel
theorem dX9_isItem_1 : decode cX9_isItem 1 = .ok (.iconst 0, 1) := by decide +kernel
theorem dX9_isItem_2 : decode cX9_isItem 2 = .ok (.aload_n 0, 1) := by decide +kernel
theorem dX9_isItem_3 : decode cX9_isItem 3 = .ok (.getfield 48, 3) := by decide +kernel
theorem dX9_isItem_6 : decode cX9_isItem 6 = .ok (.getfield 95, 3) := by decide +kernel
theorem dX9_isItem_9 : decode cX9_isItem 9 = .ok (.iconst 1, 1) := by decide +kernel
theorem dX9_isItem_10 : decode cX9_isItem 10 = .ok (.isub, 1) := by decide +kernel
theorem dX9_isItem_11 : decode cX9_isItem 11 = .ok (.invokestatic 91, 3) := by decide +kernel
theorem dX9_isItem_14 : decode cX9_isItem 14 = .ok (.ireturn, 1) := by decide +kernel
theorem dX9_isKeyword_0 : decode cX9_isKeyword 0 = .ok (.iconst 0, 1) := by decide +kernel
theorem dX9_isKeyword_1 : decode cX9_isKeyword 1 = .ok (.istore_n 2, 1) := by decide +kernel
theorem dX9_isKeyword_2 : decode cX9_isKeyword 2 = .ok (.iload_n 2, 1) := by decide +kernel
theorem dX9_isKeyword_3 : decode cX9_isKeyword 3 = .ok (.getstatic 11, 3) := by decide +kernel
theorem dX9_isKeyword_6 : decode cX9_isKeyword 6 = .ok (.arraylength, 1) := by decide +kernel
theorem dX9_isKeyword_7 : decode cX9_isKeyword 7 = .ok (.if_icmp .ge 21, 3) := by decide +kernel
theorem dX9_isKeyword_10 : decode cX9_isKeyword 10 = .ok (.getstatic 11, 3) := by decide +kernel
theorem dX9_isKeyword_13 : decode cX9_isKeyword 13 = .ok (.iload_n 2, 1) := by decide +kernel
theorem dX9_isKeyword_14 : decode cX9_isKeyword 14 = .ok (.laload, 1) := by decide +kernel
theorem dX9_isKeyword_15 : decode cX9_isKeyword 15 = .ok (.lload_n 0, 1) := by decide +kernel
theorem dX9_isKeyword_16 : decode cX9_isKeyword 16 = .ok (.lcmp, 1) := by decide +kernel
theorem dX9_isKeyword_17 : decode cX9_isKeyword 17 = .ok (.ifCond .ne 5, 3) := by decide +kernel
theorem dX9_isKeyword_20 : decode cX9_isKeyword 20 = .ok (.iconst 1, 1) := by decide +kernel
theorem dX9_isKeyword_21 : decode cX9_isKeyword 21 = .ok (.ireturn, 1) := by decide +kernel
theorem dX9_isKeyword_22 : decode cX9_isKeyword 22 = .ok (.iinc 2 1, 3) := by decide +kernel
theorem dX9_isKeyword_25 : decode cX9_isKeyword 25 = .ok (.goto (-23), 3) := by decide +kernel
theorem dX9_isKeyword_28 : decode cX9_isKeyword 28 = .ok (.iconst 0, 1) := by decide +kernel
theorem dX9_isKeyword_29 : decode cX9_isKeyword 29 = .ok (.ireturn, 1) := by decide +kernel
theorem dX9_isLetter_0 : decode cX9_isLetter 0 = .ok (.iload_n 0, 1) := by decide +kernel
theorem dX9_isLetter_1 : decode cX9_isLetter 1 = .ok (.bipush 97, 2) := by decide +kernel
theorem dX9_isLetter_3 : decode cX9_isLetter 3 = .ok (.if_icmp .lt 13, 3) := by decide +kernel
theorem dX9_isLetter_6 : decode cX9_isLetter 6 = .ok (.iload_n 0, 1) := by decide +kernel
theorem dX9_isLetter_7 : decode cX9_isLetter 7 = .ok (.bipush 122, 2) := by decide +kernel
theorem dX9_isLetter_9 : decode cX9_isLetter 9 = .ok (.if_icmp .gt 7, 3) := by decide +kernel
theorem dX9_isLetter_12 : decode cX9_isLetter 12 = .ok (.iconst 1, 1) := by decide +kernel
theorem dX9_isLetter_13 : decode cX9_isLetter 13 = .ok (.goto 4, 3) := by decide +kernel
theorem dX9_isLetter_16 : decode cX9_isLetter 16 = .ok (.iconst 0, 1) := by decide +kernel
theorem dX9_isLetter_17 : decode cX9_isLetter 17 = .ok (.ireturn, 1) := by decide +kernel
theorem dX9_isSpeaker_0 : decode cX9_isSpeaker 0 = .ok (.iload_n 1, 1) := by decide +kernel
theorem dX9_isSpeaker_1 : decode cX9_isSpeaker 1 = .ok (.iconst 0, 1) := by decide +kernel
theorem dX9_isSpeaker_2 : decode cX9_isSpeaker 2 = .ok (.aload_n 0, 1) := by decide +kernel
theorem dX9_isSpeaker_3 : decode cX9_isSpeaker 3 = .ok (.getfield 48, 3) := by decide +kernel
theorem dX9_isSpeaker_6 : decode cX9_isSpeaker 6 = .ok (.getfield 88, 3) := by decide +kernel
theorem dX9_isSpeaker_9 : decode cX9_isSpeaker 9 = .ok (.iconst 1, 1) := by decide +kernel
theorem dX9_isSpeaker_10 : decode cX9_isSpeaker 10 = .ok (.isub, 1) := by decide +kernel
theorem dX9_isSpeaker_11 : decode cX9_isSpeaker 11 = .ok (.invokestatic 91, 3) := by decide +kernel
theorem dX9_isSpeaker_14 : decode cX9_isSpeaker 14 = .ok (.ireturn, 1) := by decide +kernel
theorem dX9_isSymbol_0 : decode cX9_isSymbol 0 = .ok (.aload_n 0, 1) := by decide +kernel
theorem dX9_isSymbol_1 : decode cX9_isSymbol 1 = .ok (.getfield 34, 3) := by decide +kernel
theorem dX9_isSymbol_4 : decode cX9_isSymbol 4 = .ok (.aload_n 0, 1) := by decide +kernel
theorem dX9_isSymbol_5 : decode cX9_isSymbol 5 = .ok (.getfield 168, 3) := by decide +kernel
theorem dX9_isSymbol_8 : decode cX9_isSymbol 8 = .ok (.iaload, 1) := by decide +kernel
theorem dX9_isSymbol_9 : decode cX9_isSymbol 9 = .ok (.iconst 4, 1) := by decide +kernel
theorem dX9_isSymbol_10 : decode cX9_isSymbol 10 = .ok (.if_icmp .ne 22, 3) := by decide +kernel
theorem dX9_isSymbol_13 : decode cX9_isSymbol 13 = .ok (.aload_n 0, 1) := by decide +kernel
theorem dX9_isSymbol_14 : decode cX9_isSymbol 14 = .ok (.getfield 40, 3) := by decide +kernel
theorem dX9_isSymbol_17 : decode cX9_isSymbol 17 = .ok (.aload_n 0, 1) := by decide +kernel
theorem dX9_isSymbol_18 : decode cX9_isSymbol 18 = .ok (.getfield 168, 3) := by decide +kernel
theorem dX9_isSymbol_21 : decode cX9_isSymbol 21 = .ok (.laload, 1) := by decide +kernel
theorem dX9_isSymbol_22 : decode cX9_isSymbol 22 = .ok (.iload_n 1, 1) := by decide +kernel
theorem dX9_isSymbol_23 : decode cX9_isSymbol 23 = .ok (.i2l, 1) := by decide +kernel
theorem dX9_isSymbol_24 : decode cX9_isSymbol 24 = .ok (.lcmp, 1) := by decide +kernel
theorem dX9_isSymbol_25 : decode cX9_isSymbol 25 = .ok (.ifCond .ne 7, 3) := by decide +kernel
theorem dX9_isSymbol_28 : decode cX9_isSymbol 28 = .ok (.iconst 1, 1) := by decide +kernel
theorem dX9_isSymbol_29 : decode cX9_isSymbol 29 = .ok (.goto 4, 3) := by decide +kernel
theorem dX9_isSymbol_32 : decode cX9_isSymbol 32 = .ok (.iconst 0, 1) := by decide +kernel
theorem dX9_isSymbol_33 : decode cX9_isSymbol 33 = .ok (.ireturn, 1) := by decide +kernel
theorem dX9_isText_0 : decode cX9_isText 0 = .ok (.aload_n 0, 1) := by decide +kernel
theorem dX9_isText_1 : decode cX9_isText 1 = .ok (.iconst 0, 1) := by decide +kernel
theorem dX9_isText_2 : decode cX9_isText 2 = .ok (.putfield 168, 3) := by decide +kernel
theorem dX9_isText_5 : decode cX9_isText 5 = .ok (.aload_n 0, 1) := by decide +kernel
theorem dX9_isText_6 : decode cX9_isText 6 = .ok (.getfield 34, 3) := by decide +kernel
theorem dX9_isText_9 : decode cX9_isText 9 = .ok (.aload_n 0, 1) := by decide +kernel
theorem dX9_isText_10 : decode cX9_isText 10 = .ok (.getfield 168, 3) := by decide +kernel
theorem dX9_isText_13 : decode cX9_isText 13 = .ok (.iaload, 1) := by decide +kernel
theorem dX9_isText_14 : decode cX9_isText 14 = .ok (.ifCond .eq 25, 3) := by decide +kernel
theorem dX9_isText_17 : decode cX9_isText 17 = .ok (.aload_n 0, 1) := by decide +kernel
theorem dX9_isText_18 : decode cX9_isText 18 = .ok (.invokevirtual 252, 3) := by decide +kernel
theorem dX9_isText_21 : decode cX9_isText 21 = .ok (.ifCond .eq 16, 3) := by decide +kernel
theorem dX9_isText_24 : decode cX9_isText 24 = .ok (.aload_n 0, 1) := by decide +kernel
theorem dX9_isText_25 : decode cX9_isText 25 = .ok (.aload_n 0, 1) := by decide +kernel
theorem dX9_isText_26 : decode cX9_isText 26 = .ok (.bipush 59, 2) := by decide +kernel
theorem dX9_isText_28 : decode cX9_isText 28 = .ok (.invokevirtual 241, 3) := by decide +kernel
theorem dX9_isText_31 : decode cX9_isText 31 = .ok (.invokevirtual 179, 3) := by decide +kernel
theorem dX9_isText_34 : decode cX9_isText 34 = .ok (.ifCond .ne (-29), 3) := by decide +kernel
theorem dX9_isText_37 : decode cX9_isText 37 = .ok (.iconst 0, 1) := by decide +kernel
theorem dX9_isText_38 : decode cX9_isText 38 = .ok (.ireturn, 1) := by decide +kernel
theorem dX9_isText_39 : decode cX9_isText 39 = .ok (.iconst 1, 1) := by decide +kernel
theorem dX9_isText_40 : decode cX9_isText 40 = .ok (.ireturn, 1) := by decide +kernel
theorem dX9_item_0 : decode cX9_item 0 = .ok (.aload_n 0, 1) := by decide +kernel
theorem dX9_item_1 : decode cX9_item 1 = .ok (.iconst 0, 1) := by decide +kernel
theorem dX9_item_2 : decode cX9_item 2 = .ok (.putfield 85, 3) := by decide +kernel
theorem dX9_item_5 : decode cX9_item 5 = .ok (.aload_n 0, 1) := by decide +kernel
theorem dX9_item_6 : decode cX9_item 6 = .ok (.iload_n 1, 1) := by decide +kernel
theorem dX9_item_7 : decode cX9_item 7 = .ok (.invokevirtual 348, 3) := by decide +kernel
theorem dX9_item_10 : decode cX9_item 10 = .ok (.ifCond .eq 22, 3) := by decide +kernel
theorem dX9_item_13 : decode cX9_item 13 = .ok (.iload_n 2, 1) := by decide +kernel
theorem dX9_item_14 : decode cX9_item 14 = .ok (.iconst 0, 1) := by decide +kernel
theorem dX9_item_15 : decode cX9_item 15 = .ok (.bipush 10, 2) := by decide +kernel
theorem dX9_item_17 : decode cX9_item 17 = .ok (.invokestatic 91, 3) := by decide +kernel
theorem dX9_item_20 : decode cX9_item 20 = .ok (.ifCond .eq 12, 3) := by decide +kernel
theorem dX9_item_23 : decode cX9_item 23 = .ok (.aload_n 0, 1) := by decide +kernel
theorem dX9_item_24 : decode cX9_item 24 = .ok (.iload_n 1, 1) := by decide +kernel
theorem dX9_item_25 : decode cX9_item 25 = .ok (.iload_n 2, 1) := by decide +kernel
theorem dX9_item_26 : decode cX9_item 26 = .ok (.invokevirtual 351, 3) := by decide +kernel
theorem dX9_item_29 : decode cX9_item 29 = .ok (.goto 8, 3) := by decide +kernel
theorem dX9_item_32 : decode cX9_item 32 = .ok (.aload_n 0, 1) := by decide +kernel
theorem dX9_item_33 : decode cX9_item 33 = .ok (.iconst 1, 1) := by decide +kernel
theorem dX9_item_34 : decode cX9_item 34 = .ok (.invokevirtual 312, 3) := by decide +kernel
theorem dX9_item_37 : decode cX9_item 37 = .ok (.ireturn, 1) := by decide +kernel
theorem dX9_itemTold_0 : decode cX9_itemTold 0 = .ok (.iload_n 2, 1) := by decide +kernel
theorem dX9_itemTold_1 : decode cX9_itemTold 1 = .ok (.tableswitch 153 0 9 #[55, 65, 75, 85, 95, 105, 112, 119, 129, 146], 55) := by decide +kernel
theorem dX9_itemTold_56 : decode cX9_itemTold 56 = .ok (.aload_n 0, 1) := by decide +kernel
theorem dX9_itemTold_57 : decode cX9_itemTold 57 = .ok (.getfield 48, 3) := by decide +kernel
theorem dX9_itemTold_60 : decode cX9_itemTold 60 = .ok (.getfield 124, 3) := by decide +kernel
theorem dX9_itemTold_63 : decode cX9_itemTold 63 = .ok (.iload_n 1, 1) := by decide +kernel
theorem dX9_itemTold_64 : decode cX9_itemTold 64 = .ok (.iaload, 1) := by decide +kernel
theorem dX9_itemTold_65 : decode cX9_itemTold 65 = .ok (.ireturn, 1) := by decide +kernel
theorem dX9_itemTold_66 : decode cX9_itemTold 66 = .ok (.aload_n 0, 1) := by decide +kernel
theorem dX9_itemTold_67 : decode cX9_itemTold 67 = .ok (.getfield 48, 3) := by decide +kernel
theorem dX9_itemTold_70 : decode cX9_itemTold 70 = .ok (.getfield 121, 3) := by decide +kernel
theorem dX9_itemTold_73 : decode cX9_itemTold 73 = .ok (.iload_n 1, 1) := by decide +kernel
theorem dX9_itemTold_74 : decode cX9_itemTold 74 = .ok (.iaload, 1) := by decide +kernel
theorem dX9_itemTold_75 : decode cX9_itemTold 75 = .ok (.ireturn, 1) := by decide +kernel
theorem dX9_itemTold_76 : decode cX9_itemTold 76 = .ok (.aload_n 0, 1) := by decide +kernel
theorem dX9_itemTold_77 : decode cX9_itemTold 77 = .ok (.getfield 48, 3) := by decide +kernel
theorem dX9_itemTold_80 : decode cX9_itemTold 80 = .ok (.getfield 127, 3) := by decide +kernel
theorem dX9_itemTold_83 : decode cX9_itemTold 83 = .ok (.iload_n 1, 1) := by decide +kernel
theorem dX9_itemTold_84 : decode cX9_itemTold 84 = .ok (.iaload, 1) := by decide +kernel
theorem dX9_itemTold_85 : decode cX9_itemTold 85 = .ok (.ireturn, 1) := by decide +kernel
theorem dX9_itemTold_86 : decode cX9_itemTold 86 = .ok (.aload_n 0, 1) := by decide +kernel
theorem dX9_itemTold_87 : decode cX9_itemTold 87 = .ok (.getfield 48, 3) := by decide +kernel
theorem dX9_itemTold_90 : decode cX9_itemTold 90 = .ok (.getfield 101, 3) := by decide +kernel
theorem dX9_itemTold_93 : decode cX9_itemTold 93 = .ok (.iload_n 1, 1) := by decide +kernel
theorem dX9_itemTold_94 : decode cX9_itemTold 94 = .ok (.iaload, 1) := by decide +kernel
theorem dX9_itemTold_95 : decode cX9_itemTold 95 = .ok (.ireturn, 1) := by decide +kernel
theorem dX9_itemTold_96 : decode cX9_itemTold 96 = .ok (.aload_n 0, 1) := by decide +kernel
theorem dX9_itemTold_97 : decode cX9_itemTold 97 = .ok (.getfield 48, 3) := by decide +kernel
theorem dX9_itemTold_100 : decode cX9_itemTold 100 = .ok (.getfield 111, 3) := by decide +kernel
theorem dX9_itemTold_103 : decode cX9_itemTold 103 = .ok (.iload_n 1, 1) := by decide +kernel
theorem dX9_itemTold_104 : decode cX9_itemTold 104 = .ok (.iaload, 1) := by decide +kernel
theorem dX9_itemTold_105 : decode cX9_itemTold 105 = .ok (.ireturn, 1) := by decide +kernel
theorem dX9_itemTold_106 : decode cX9_itemTold 106 = .ok (.aload_n 0, 1) := by decide +kernel
theorem dX9_itemTold_107 : decode cX9_itemTold 107 = .ok (.getfield 55, 3) := by decide +kernel
theorem dX9_itemTold_110 : decode cX9_itemTold 110 = .ok (.iload_n 1, 1) := by decide +kernel
theorem dX9_itemTold_111 : decode cX9_itemTold 111 = .ok (.iaload, 1) := by decide +kernel
theorem dX9_itemTold_112 : decode cX9_itemTold 112 = .ok (.ireturn, 1) := by decide +kernel
theorem dX9_itemTold_113 : decode cX9_itemTold 113 = .ok (.aload_n 0, 1) := by decide +kernel
theorem dX9_itemTold_114 : decode cX9_itemTold 114 = .ok (.getfield 58, 3) := by decide +kernel
theorem dX9_itemTold_117 : decode cX9_itemTold 117 = .ok (.iload_n 1, 1) := by decide +kernel
theorem dX9_itemTold_118 : decode cX9_itemTold 118 = .ok (.iaload, 1) := by decide +kernel
theorem dX9_itemTold_119 : decode cX9_itemTold 119 = .ok (.ireturn, 1) := by decide +kernel
theorem dX9_itemTold_120 : decode cX9_itemTold 120 = .ok (.aload_n 0, 1) := by decide +kernel
theorem dX9_itemTold_121 : decode cX9_itemTold 121 = .ok (.getfield 48, 3) := by decide +kernel
theorem dX9_itemTold_124 : decode cX9_itemTold 124 = .ok (.getfield 98, 3) := by decide +kernel
theorem dX9_itemTold_127 : decode cX9_itemTold 127 = .ok (.iload_n 1, 1) := by decide +kernel
theorem dX9_itemTold_128 : decode cX9_itemTold 128 = .ok (.iaload, 1) := by decide +kernel
theorem dX9_itemTold_129 : decode cX9_itemTold 129 = .ok (.ireturn, 1) := by decide +kernel
theorem dX9_itemTold_130 : decode cX9_itemTold 130 = .ok (.aload_n 0, 1) := by decide +kernel
theorem dX9_itemTold_131 : decode cX9_itemTold 131 = .ok (.getfield 48, 3) := by decide +kernel
theorem dX9_itemTold_134 : decode cX9_itemTold 134 = .ok (.iload_n 1, 1) := by decide +kernel
theorem dX9_itemTold_135 : decode cX9_itemTold 135 = .ok (.invokevirtual 108, 3) := by decide +kernel
theorem dX9_itemTold_138 : decode cX9_itemTold 138 = .ok (.ifCond .eq 7, 3) := by decide +kernel
theorem dX9_itemTold_141 : decode cX9_itemTold 141 = .ok (.iconst 1, 1) := by decide +kernel
theorem dX9_itemTold_142 : decode cX9_itemTold 142 = .ok (.goto 4, 3) := by decide +kernel
theorem dX9_itemTold_145 : decode cX9_itemTold 145 = .ok (.iconst 0, 1) := by decide +kernel
theorem dX9_itemTold_146 : decode cX9_itemTold 146 = .ok (.ireturn, 1) := by decide +kernel
theorem dX9_itemTold_147 : decode cX9_itemTold 147 = .ok (.aload_n 0, 1) := by decide +kernel
theorem dX9_itemTold_148 : decode cX9_itemTold 148 = .ok (.iload_n 1, 1) := by decide +kernel
theorem dX9_itemTold_149 : decode cX9_itemTold 149 = .ok (.iconst 1, 1) := by decide +kernel
theorem dX9_itemTold_150 : decode cX9_itemTold 150 = .ok (.invokevirtual 346, 3) := by decide +kernel
theorem dX9_itemTold_153 : decode cX9_itemTold 153 = .ok (.ireturn, 1) := by decide +kernel
theorem dX9_itemTold_154 : decode cX9_itemTold 154 = .ok (.aload_n 0, 1) := by decide +kernel
theorem dX9_itemTold_155 : decode cX9_itemTold 155 = .ok (.iload_n 1, 1) := by decide +kernel
theorem dX9_itemTold_156 : decode cX9_itemTold 156 = .ok (.iconst 2, 1) := by decide +kernel
theorem dX9_itemTold_157 : decode cX9_itemTold 157 = .ok (.invokevirtual 346, 3) := by decide +kernel
theorem dX9_itemTold_160 : decode cX9_itemTold 160 = .ok (.ireturn, 1) := by decide +kernel
theorem dX9_lead_0 : decode cX9_lead 0 = .ok (.aload_n 0, 1) := by decide +kernel
theorem dX9_lead_1 : decode cX9_lead 1 = .ok (.iload_n 1, 1) := by decide +kernel
theorem dX9_lead_2 : decode cX9_lead 2 = .ok (.aload_n 2, 1) := by decide +kernel
theorem dX9_lead_3 : decode cX9_lead 3 = .ok (.invokevirtual 130, 3) := by decide +kernel
theorem dX9_lead_6 : decode cX9_lead 6 = .ok (.istore_n 3, 1) := by decide +kernel
theorem dX9_lead_7 : decode cX9_lead 7 = .ok (.aload_n 0, 1) := by decide +kernel
theorem dX9_lead_8 : decode cX9_lead 8 = .ok (.getfield 48, 3) := by decide +kernel
theorem dX9_lead_11 : decode cX9_lead 11 = .ok (.getfield 88, 3) := by decide +kernel
theorem dX9_lead_14 : decode cX9_lead 14 = .ok (.iconst 1, 1) := by decide +kernel
theorem dX9_lead_15 : decode cX9_lead 15 = .ok (.if_icmp .ne 5, 3) := by decide +kernel
theorem dX9_lead_18 : decode cX9_lead 18 = .ok (.iload_n 3, 1) := by decide +kernel
theorem dX9_lead_19 : decode cX9_lead 19 = .ok (.ireturn, 1) := by decide +kernel
theorem dX9_lead_20 : decode cX9_lead 20 = .ok (.ldc 135, 2) := by decide +kernel
theorem dX9_lead_22 : decode cX9_lead 22 = .ok (.istore 4, 2) := by decide +kernel
theorem dX9_lead_24 : decode cX9_lead 24 = .ok (.iconst 0, 1) := by decide +kernel
theorem dX9_lead_25 : decode cX9_lead 25 = .ok (.istore 5, 2) := by decide +kernel
theorem dX9_lead_27 : decode cX9_lead 27 = .ok (.iload 5, 2) := by decide +kernel
theorem dX9_lead_29 : decode cX9_lead 29 = .ok (.aload_n 0, 1) := by decide +kernel
theorem dX9_lead_30 : decode cX9_lead 30 = .ok (.getfield 48, 3) := by decide +kernel
theorem dX9_lead_33 : decode cX9_lead 33 = .ok (.getfield 88, 3) := by decide +kernel
theorem dX9_lead_36 : decode cX9_lead 36 = .ok (.if_icmp .ge 29, 3) := by decide +kernel
theorem dX9_lead_39 : decode cX9_lead 39 = .ok (.iload 5, 2) := by decide +kernel
theorem dX9_lead_41 : decode cX9_lead 41 = .ok (.iload_n 1, 1) := by decide +kernel
theorem dX9_lead_42 : decode cX9_lead 42 = .ok (.if_icmp .eq 17, 3) := by decide +kernel
theorem dX9_lead_45 : decode cX9_lead 45 = .ok (.iload 4, 2) := by decide +kernel
theorem dX9_lead_47 : decode cX9_lead 47 = .ok (.aload_n 0, 1) := by decide +kernel
theorem dX9_lead_48 : decode cX9_lead 48 = .ok (.iload 5, 2) := by decide +kernel
theorem dX9_lead_50 : decode cX9_lead 50 = .ok (.aload_n 2, 1) := by decide +kernel
theorem dX9_lead_51 : decode cX9_lead 51 = .ok (.invokevirtual 130, 3) := by decide +kernel
theorem dX9_lead_54 : decode cX9_lead 54 = .ok (.invokestatic 136, 3) := by decide +kernel
theorem dX9_lead_57 : decode cX9_lead 57 = .ok (.istore 4, 2) := by decide +kernel
theorem dX9_lead_59 : decode cX9_lead 59 = .ok (.iinc 5 1, 3) := by decide +kernel
theorem dX9_lead_62 : decode cX9_lead 62 = .ok (.goto (-35), 3) := by decide +kernel
theorem dX9_lead_65 : decode cX9_lead 65 = .ok (.iload_n 3, 1) := by decide +kernel
theorem dX9_lead_66 : decode cX9_lead 66 = .ok (.iload 4, 2) := by decide +kernel
theorem dX9_lead_68 : decode cX9_lead 68 = .ok (.isub, 1) := by decide +kernel
theorem dX9_lead_69 : decode cX9_lead 69 = .ok (.ireturn, 1) := by decide +kernel
theorem dX9_leadWith_0 : decode cX9_leadWith 0 = .ok (.aload_n 0, 1) := by decide +kernel
theorem dX9_leadWith_1 : decode cX9_leadWith 1 = .ok (.iload_n 1, 1) := by decide +kernel
theorem dX9_leadWith_2 : decode cX9_leadWith 2 = .ok (.putfield 67, 3) := by decide +kernel
theorem dX9_leadWith_5 : decode cX9_leadWith 5 = .ok (.aload_n 0, 1) := by decide +kernel
theorem dX9_leadWith_6 : decode cX9_leadWith 6 = .ok (.aload_n 0, 1) := by decide +kernel
theorem dX9_leadWith_7 : decode cX9_leadWith 7 = .ok (.getfield 61, 3) := by decide +kernel
theorem dX9_leadWith_10 : decode cX9_leadWith 10 = .ok (.aload_n 0, 1) := by decide +kernel
theorem dX9_leadWith_11 : decode cX9_leadWith 11 = .ok (.getfield 64, 3) := by decide +kernel
theorem dX9_leadWith_14 : decode cX9_leadWith 14 = .ok (.invokevirtual 287, 3) := by decide +kernel
theorem dX9_leadWith_17 : decode cX9_leadWith 17 = .ok (.pop, 1) := by decide +kernel
theorem dX9_leadWith_18 : decode cX9_leadWith 18 = .ok (.aload_n 0, 1) := by decide +kernel
theorem dX9_leadWith_19 : decode cX9_leadWith 19 = .ok (.iload_n 2, 1) := by decide +kernel
theorem dX9_leadWith_20 : decode cX9_leadWith 20 = .ok (.aload_n 0, 1) := by decide +kernel
theorem dX9_leadWith_21 : decode cX9_leadWith 21 = .ok (.getfield 61, 3) := by decide +kernel
theorem dX9_leadWith_24 : decode cX9_leadWith 24 = .ok (.invokevirtual 337, 3) := by decide +kernel
theorem dX9_leadWith_27 : decode cX9_leadWith 27 = .ok (.istore_n 3, 1) := by decide +kernel
theorem dX9_leadWith_28 : decode cX9_leadWith 28 = .ok (.aload_n 0, 1) := by decide +kernel
theorem dX9_leadWith_29 : decode cX9_leadWith 29 = .ok (.iconst (-1), 1) := by decide +kernel
theorem dX9_leadWith_30 : decode cX9_leadWith 30 = .ok (.putfield 67, 3) := by decide +kernel
theorem dX9_leadWith_33 : decode cX9_leadWith 33 = .ok (.iload_n 3, 1) := by decide +kernel
theorem dX9_leadWith_34 : decode cX9_leadWith 34 = .ok (.ireturn, 1) := by decide +kernel
theorem dX9_leader_0 : decode cX9_leader 0 = .ok (.aload_n 0, 1) := by decide +kernel
theorem dX9_leader_1 : decode cX9_leader 1 = .ok (.iconst 0, 1) := by decide +kernel
theorem dX9_leader_2 : decode cX9_leader 2 = .ok (.putfield 85, 3) := by decide +kernel
theorem dX9_leader_5 : decode cX9_leader 5 = .ok (.iconst (-1), 1) := by decide +kernel
theorem dX9_leader_6 : decode cX9_leader 6 = .ok (.istore_n 1, 1) := by decide +kernel
theorem dX9_leader_7 : decode cX9_leader 7 = .ok (.iconst 0, 1) := by decide +kernel
theorem dX9_leader_8 : decode cX9_leader 8 = .ok (.istore_n 2, 1) := by decide +kernel
theorem dX9_leader_9 : decode cX9_leader 9 = .ok (.iload_n 2, 1) := by decide +kernel
theorem dX9_leader_10 : decode cX9_leader 10 = .ok (.aload_n 0, 1) := by decide +kernel
theorem dX9_leader_11 : decode cX9_leader 11 = .ok (.getfield 48, 3) := by decide +kernel
theorem dX9_leader_14 : decode cX9_leader 14 = .ok (.getfield 88, 3) := by decide +kernel
theorem dX9_leader_17 : decode cX9_leader 17 = .ok (.if_icmp .ge 37, 3) := by decide +kernel
theorem dX9_leader_20 : decode cX9_leader 20 = .ok (.iload_n 1, 1) := by decide +kernel
theorem dX9_leader_21 : decode cX9_leader 21 = .ok (.iconst (-1), 1) := by decide +kernel
theorem dX9_leader_22 : decode cX9_leader 22 = .ok (.if_icmp .eq 24, 3) := by decide +kernel
theorem dX9_leader_25 : decode cX9_leader 25 = .ok (.aload_n 0, 1) := by decide +kernel
theorem dX9_leader_26 : decode cX9_leader 26 = .ok (.iload_n 2, 1) := by decide +kernel
theorem dX9_leader_27 : decode cX9_leader 27 = .ok (.aload_n 0, 1) := by decide +kernel
theorem dX9_leader_28 : decode cX9_leader 28 = .ok (.getfield 55, 3) := by decide +kernel
theorem dX9_leader_31 : decode cX9_leader 31 = .ok (.invokevirtual 130, 3) := by decide +kernel
theorem dX9_leader_34 : decode cX9_leader 34 = .ok (.aload_n 0, 1) := by decide +kernel
theorem dX9_leader_35 : decode cX9_leader 35 = .ok (.iload_n 1, 1) := by decide +kernel
theorem dX9_leader_36 : decode cX9_leader 36 = .ok (.aload_n 0, 1) := by decide +kernel
theorem dX9_leader_37 : decode cX9_leader 37 = .ok (.getfield 55, 3) := by decide +kernel
theorem dX9_leader_40 : decode cX9_leader 40 = .ok (.invokevirtual 130, 3) := by decide +kernel
theorem dX9_leader_43 : decode cX9_leader 43 = .ok (.if_icmp .le 5, 3) := by decide +kernel
theorem dX9_leader_46 : decode cX9_leader 46 = .ok (.iload_n 2, 1) := by decide +kernel
theorem dX9_leader_47 : decode cX9_leader 47 = .ok (.istore_n 1, 1) := by decide +kernel
theorem dX9_leader_48 : decode cX9_leader 48 = .ok (.iinc 2 1, 3) := by decide +kernel
theorem dX9_leader_51 : decode cX9_leader 51 = .ok (.goto (-42), 3) := by decide +kernel
theorem dX9_leader_54 : decode cX9_leader 54 = .ok (.iload_n 1, 1) := by decide +kernel
theorem dX9_leader_55 : decode cX9_leader 55 = .ok (.ireturn, 1) := by decide +kernel
theorem dX9_least_0 : decode cX9_least 0 = .ok (.aload_n 0, 1) := by decide +kernel
theorem dX9_least_1 : decode cX9_least 1 = .ok (.iconst 0, 1) := by decide +kernel
theorem dX9_least_2 : decode cX9_least 2 = .ok (.putfield 85, 3) := by decide +kernel
theorem dX9_least_5 : decode cX9_least 5 = .ok (.aload_n 0, 1) := by decide +kernel
theorem dX9_least_6 : decode cX9_least 6 = .ok (.iload_n 1, 1) := by decide +kernel
theorem dX9_least_7 : decode cX9_least 7 = .ok (.invokevirtual 348, 3) := by decide +kernel
theorem dX9_least_10 : decode cX9_least 10 = .ok (.ifCond .eq 11, 3) := by decide +kernel
theorem dX9_least_13 : decode cX9_least 13 = .ok (.aload_n 0, 1) := by decide +kernel
theorem dX9_least_14 : decode cX9_least 14 = .ok (.iload_n 1, 1) := by decide +kernel
theorem dX9_least_15 : decode cX9_least 15 = .ok (.invokevirtual 363, 3) := by decide +kernel
theorem dX9_least_18 : decode cX9_least 18 = .ok (.goto 8, 3) := by decide +kernel
theorem dX9_least_21 : decode cX9_least 21 = .ok (.aload_n 0, 1) := by decide +kernel
theorem dX9_least_22 : decode cX9_least 22 = .ok (.iconst 1, 1) := by decide +kernel
theorem dX9_least_23 : decode cX9_least 23 = .ok (.invokevirtual 312, 3) := by decide +kernel
theorem dX9_least_26 : decode cX9_least 26 = .ok (.ireturn, 1) := by decide +kernel
theorem dX9_leastOf_0 : decode cX9_leastOf 0 = .ok (.aload_n 0, 1) := by decide +kernel
theorem dX9_leastOf_1 : decode cX9_leastOf 1 = .ok (.getfield 48, 3) := by decide +kernel
theorem dX9_leastOf_4 : decode cX9_leastOf 4 = .ok (.getfield 124, 3) := by decide +kernel
theorem dX9_leastOf_7 : decode cX9_leastOf 7 = .ok (.iload_n 1, 1) := by decide +kernel
theorem dX9_leastOf_8 : decode cX9_leastOf 8 = .ok (.iaload, 1) := by decide +kernel
theorem dX9_leastOf_9 : decode cX9_leastOf 9 = .ok (.ifCond .ne 19, 3) := by decide +kernel
theorem dX9_leastOf_12 : decode cX9_leastOf 12 = .ok (.aload_n 0, 1) := by decide +kernel
theorem dX9_leastOf_13 : decode cX9_leastOf 13 = .ok (.getfield 48, 3) := by decide +kernel
theorem dX9_leastOf_16 : decode cX9_leastOf 16 = .ok (.getfield 127, 3) := by decide +kernel
theorem dX9_leastOf_19 : decode cX9_leastOf 19 = .ok (.iload_n 1, 1) := by decide +kernel
theorem dX9_leastOf_20 : decode cX9_leastOf 20 = .ok (.iaload, 1) := by decide +kernel
theorem dX9_leastOf_21 : decode cX9_leastOf 21 = .ok (.iconst 1, 1) := by decide +kernel
theorem dX9_leastOf_22 : decode cX9_leastOf 22 = .ok (.iadd, 1) := by decide +kernel
theorem dX9_leastOf_23 : decode cX9_leastOf 23 = .ok (.iconst 2, 1) := by decide +kernel
theorem dX9_leastOf_24 : decode cX9_leastOf 24 = .ok (.idiv, 1) := by decide +kernel
theorem dX9_leastOf_25 : decode cX9_leastOf 25 = .ok (.goto 12, 3) := by decide +kernel
theorem dX9_leastOf_28 : decode cX9_leastOf 28 = .ok (.aload_n 0, 1) := by decide +kernel
theorem dX9_leastOf_29 : decode cX9_leastOf 29 = .ok (.getfield 48, 3) := by decide +kernel
theorem dX9_leastOf_32 : decode cX9_leastOf 32 = .ok (.getfield 127, 3) := by decide +kernel
theorem dX9_leastOf_35 : decode cX9_leastOf 35 = .ok (.iload_n 1, 1) := by decide +kernel
theorem dX9_leastOf_36 : decode cX9_leastOf 36 = .ok (.iaload, 1) := by decide +kernel
theorem dX9_leastOf_37 : decode cX9_leastOf 37 = .ok (.ireturn, 1) := by decide +kernel
theorem dX9_line_0 : decode cX9_line 0 = .ok (.aload_n 0, 1) := by decide +kernel
theorem dX9_line_1 : decode cX9_line 1 = .ok (.ldc 187, 2) := by decide +kernel
theorem dX9_line_3 : decode cX9_line 3 = .ok (.invokevirtual 189, 3) := by decide +kernel
theorem dX9_line_6 : decode cX9_line 6 = .ok (.ifCond .eq 32, 3) := by decide +kernel
theorem dX9_line_9 : decode cX9_line 9 = .ok (.aload_n 0, 1) := by decide +kernel
theorem dX9_line_10 : decode cX9_line 10 = .ok (.invokevirtual 192, 3) := by decide +kernel
theorem dX9_line_13 : decode cX9_line 13 = .ok (.ifCond .eq 23, 3) := by decide +kernel
theorem dX9_line_16 : decode cX9_line 16 = .ok (.aload_n 0, 1) := by decide +kernel
theorem dX9_line_17 : decode cX9_line 17 = .ok (.ldc 196, 2) := by decide +kernel
theorem dX9_line_19 : decode cX9_line 19 = .ok (.invokevirtual 189, 3) := by decide +kernel
theorem dX9_line_22 : decode cX9_line 22 = .ok (.ifCond .eq 10, 3) := by decide +kernel
theorem dX9_line_25 : decode cX9_line 25 = .ok (.aload_n 0, 1) := by decide +kernel
theorem dX9_line_26 : decode cX9_line 26 = .ok (.invokevirtual 197, 3) := by decide +kernel
theorem dX9_line_29 : decode cX9_line 29 = .ok (.ifCond .eq 7, 3) := by decide +kernel
theorem dX9_line_32 : decode cX9_line 32 = .ok (.iconst 1, 1) := by decide +kernel
theorem dX9_line_33 : decode cX9_line 33 = .ok (.goto 4, 3) := by decide +kernel
theorem dX9_line_36 : decode cX9_line 36 = .ok (.iconst 0, 1) := by decide +kernel
theorem dX9_line_37 : decode cX9_line 37 = .ok (.ireturn, 1) := by decide +kernel
theorem dX9_line_38 : decode cX9_line 38 = .ok (.aload_n 0, 1) := by decide +kernel
theorem dX9_line_39 : decode cX9_line 39 = .ok (.ldc 200, 2) := by decide +kernel
theorem dX9_line_41 : decode cX9_line 41 = .ok (.invokevirtual 189, 3) := by decide +kernel
theorem dX9_line_44 : decode cX9_line 44 = .ok (.ifCond .eq 48, 3) := by decide +kernel
theorem dX9_line_47 : decode cX9_line 47 = .ok (.aload_n 0, 1) := by decide +kernel
theorem dX9_line_48 : decode cX9_line 48 = .ok (.invokevirtual 192, 3) := by decide +kernel
theorem dX9_line_51 : decode cX9_line 51 = .ok (.ifCond .eq 39, 3) := by decide +kernel
theorem dX9_line_54 : decode cX9_line 54 = .ok (.aload_n 0, 1) := by decide +kernel
theorem dX9_line_55 : decode cX9_line 55 = .ok (.ldc 202, 2) := by decide +kernel
theorem dX9_line_57 : decode cX9_line 57 = .ok (.invokevirtual 189, 3) := by decide +kernel
theorem dX9_line_60 : decode cX9_line 60 = .ok (.ifCond .eq 30, 3) := by decide +kernel
theorem dX9_line_63 : decode cX9_line 63 = .ok (.aload_n 0, 1) := by decide +kernel
theorem dX9_line_64 : decode cX9_line 64 = .ok (.invokevirtual 192, 3) := by decide +kernel
theorem dX9_line_67 : decode cX9_line 67 = .ok (.ifCond .eq 23, 3) := by decide +kernel
theorem dX9_line_70 : decode cX9_line 70 = .ok (.aload_n 0, 1) := by decide +kernel
theorem dX9_line_71 : decode cX9_line 71 = .ok (.ldc 203, 2) := by decide +kernel
theorem dX9_line_73 : decode cX9_line 73 = .ok (.invokevirtual 189, 3) := by decide +kernel
theorem dX9_line_76 : decode cX9_line 76 = .ok (.ifCond .eq 10, 3) := by decide +kernel
theorem dX9_line_79 : decode cX9_line 79 = .ok (.aload_n 0, 1) := by decide +kernel
theorem dX9_line_80 : decode cX9_line 80 = .ok (.invokevirtual 197, 3) := by decide +kernel
theorem dX9_line_83 : decode cX9_line 83 = .ok (.ifCond .eq 7, 3) := by decide +kernel
theorem dX9_line_86 : decode cX9_line 86 = .ok (.iconst 1, 1) := by decide +kernel
theorem dX9_line_87 : decode cX9_line 87 = .ok (.goto 4, 3) := by decide +kernel
theorem dX9_line_90 : decode cX9_line 90 = .ok (.iconst 0, 1) := by decide +kernel
theorem dX9_line_91 : decode cX9_line 91 = .ok (.ireturn, 1) := by decide +kernel
theorem dX9_line_92 : decode cX9_line 92 = .ok (.aload_n 0, 1) := by decide +kernel
theorem dX9_line_93 : decode cX9_line 93 = .ok (.ldc 205, 2) := by decide +kernel
theorem dX9_line_95 : decode cX9_line 95 = .ok (.invokevirtual 189, 3) := by decide +kernel
theorem dX9_line_98 : decode cX9_line 98 = .ok (.ifCond .eq 55, 3) := by decide +kernel
theorem dX9_line_101 : decode cX9_line 101 = .ok (.aload_n 0, 1) := by decide +kernel
theorem dX9_line_102 : decode cX9_line 102 = .ok (.invokevirtual 192, 3) := by decide +kernel
theorem dX9_line_105 : decode cX9_line 105 = .ok (.ifCond .eq 46, 3) := by decide +kernel
theorem dX9_line_108 : decode cX9_line 108 = .ok (.aload_n 0, 1) := by decide +kernel
theorem dX9_line_109 : decode cX9_line 109 = .ok (.ldc 207, 2) := by decide +kernel
theorem dX9_line_111 : decode cX9_line 111 = .ok (.invokevirtual 189, 3) := by decide +kernel
theorem dX9_line_114 : decode cX9_line 114 = .ok (.ifCond .eq 37, 3) := by decide +kernel
theorem dX9_line_117 : decode cX9_line 117 = .ok (.aload_n 0, 1) := by decide +kernel
theorem dX9_line_118 : decode cX9_line 118 = .ok (.invokevirtual 192, 3) := by decide +kernel
theorem dX9_line_121 : decode cX9_line 121 = .ok (.ifCond .eq 30, 3) := by decide +kernel
theorem dX9_line_124 : decode cX9_line 124 = .ok (.aload_n 0, 1) := by decide +kernel
theorem dX9_line_125 : decode cX9_line 125 = .ok (.ldc 209, 2) := by decide +kernel
theorem dX9_line_127 : decode cX9_line 127 = .ok (.invokevirtual 189, 3) := by decide +kernel
theorem dX9_line_130 : decode cX9_line 130 = .ok (.ifCond .eq 21, 3) := by decide +kernel
theorem dX9_line_133 : decode cX9_line 133 = .ok (.aload_n 0, 1) := by decide +kernel
theorem dX9_line_134 : decode cX9_line 134 = .ok (.invokevirtual 192, 3) := by decide +kernel
theorem dX9_line_137 : decode cX9_line 137 = .ok (.ifCond .eq 14, 3) := by decide +kernel
theorem dX9_line_140 : decode cX9_line 140 = .ok (.aload_n 0, 1) := by decide +kernel
theorem dX9_line_141 : decode cX9_line 141 = .ok (.invokevirtual 211, 3) := by decide +kernel
theorem dX9_line_144 : decode cX9_line 144 = .ok (.ifCond .eq 7, 3) := by decide +kernel
theorem dX9_line_147 : decode cX9_line 147 = .ok (.iconst 1, 1) := by decide +kernel
theorem dX9_line_148 : decode cX9_line 148 = .ok (.goto 4, 3) := by decide +kernel
theorem dX9_line_151 : decode cX9_line 151 = .ok (.iconst 0, 1) := by decide +kernel
theorem dX9_line_152 : decode cX9_line 152 = .ok (.ireturn, 1) := by decide +kernel
theorem dX9_line_153 : decode cX9_line 153 = .ok (.aload_n 0, 1) := by decide +kernel
theorem dX9_line_154 : decode cX9_line 154 = .ok (.ldc 214, 2) := by decide +kernel
theorem dX9_line_156 : decode cX9_line 156 = .ok (.invokevirtual 189, 3) := by decide +kernel
theorem dX9_line_159 : decode cX9_line 159 = .ok (.ifCond .eq 55, 3) := by decide +kernel
theorem dX9_line_162 : decode cX9_line 162 = .ok (.aload_n 0, 1) := by decide +kernel
theorem dX9_line_163 : decode cX9_line 163 = .ok (.invokevirtual 192, 3) := by decide +kernel
theorem dX9_line_166 : decode cX9_line 166 = .ok (.ifCond .eq 46, 3) := by decide +kernel
theorem dX9_line_169 : decode cX9_line 169 = .ok (.aload_n 0, 1) := by decide +kernel
theorem dX9_line_170 : decode cX9_line 170 = .ok (.ldc 207, 2) := by decide +kernel
theorem dX9_line_172 : decode cX9_line 172 = .ok (.invokevirtual 189, 3) := by decide +kernel
theorem dX9_line_175 : decode cX9_line 175 = .ok (.ifCond .eq 37, 3) := by decide +kernel
theorem dX9_line_178 : decode cX9_line 178 = .ok (.aload_n 0, 1) := by decide +kernel
theorem dX9_line_179 : decode cX9_line 179 = .ok (.invokevirtual 192, 3) := by decide +kernel
theorem dX9_line_182 : decode cX9_line 182 = .ok (.ifCond .eq 30, 3) := by decide +kernel
theorem dX9_line_185 : decode cX9_line 185 = .ok (.aload_n 0, 1) := by decide +kernel
theorem dX9_line_186 : decode cX9_line 186 = .ok (.ldc 216, 2) := by decide +kernel
theorem dX9_line_188 : decode cX9_line 188 = .ok (.invokevirtual 189, 3) := by decide +kernel
theorem dX9_line_191 : decode cX9_line 191 = .ok (.ifCond .eq 21, 3) := by decide +kernel
theorem dX9_line_194 : decode cX9_line 194 = .ok (.aload_n 0, 1) := by decide +kernel
theorem dX9_line_195 : decode cX9_line 195 = .ok (.invokevirtual 192, 3) := by decide +kernel
theorem dX9_line_198 : decode cX9_line 198 = .ok (.ifCond .eq 14, 3) := by decide +kernel
theorem dX9_line_201 : decode cX9_line 201 = .ok (.aload_n 0, 1) := by decide +kernel
theorem dX9_line_202 : decode cX9_line 202 = .ok (.invokevirtual 211, 3) := by decide +kernel
theorem dX9_line_205 : decode cX9_line 205 = .ok (.ifCond .eq 7, 3) := by decide +kernel
theorem dX9_line_208 : decode cX9_line 208 = .ok (.iconst 1, 1) := by decide +kernel
theorem dX9_line_209 : decode cX9_line 209 = .ok (.goto 4, 3) := by decide +kernel
theorem dX9_line_212 : decode cX9_line 212 = .ok (.iconst 0, 1) := by decide +kernel
theorem dX9_line_213 : decode cX9_line 213 = .ok (.ireturn, 1) := by decide +kernel
theorem dX9_line_214 : decode cX9_line 214 = .ok (.aload_n 0, 1) := by decide +kernel
theorem dX9_line_215 : decode cX9_line 215 = .ok (.ldc 218, 2) := by decide +kernel
theorem dX9_line_217 : decode cX9_line 217 = .ok (.invokevirtual 189, 3) := by decide +kernel
theorem dX9_line_220 : decode cX9_line 220 = .ok (.ifCond .ne 12, 3) := by decide +kernel
theorem dX9_line_223 : decode cX9_line 223 = .ok (.aload_n 0, 1) := by decide +kernel
theorem dX9_line_224 : decode cX9_line 224 = .ok (.ldc 220, 2) := by decide +kernel
theorem dX9_line_226 : decode cX9_line 226 = .ok (.invokevirtual 189, 3) := by decide +kernel
theorem dX9_line_229 : decode cX9_line 229 = .ok (.ifCond .eq 14, 3) := by decide +kernel
theorem dX9_line_232 : decode cX9_line 232 = .ok (.aload_n 0, 1) := by decide +kernel
theorem dX9_line_233 : decode cX9_line 233 = .ok (.invokevirtual 192, 3) := by decide +kernel
theorem dX9_line_236 : decode cX9_line 236 = .ok (.ifCond .eq 7, 3) := by decide +kernel
theorem dX9_line_239 : decode cX9_line 239 = .ok (.iconst 1, 1) := by decide +kernel
theorem dX9_line_240 : decode cX9_line 240 = .ok (.goto 4, 3) := by decide +kernel
theorem dX9_line_243 : decode cX9_line 243 = .ok (.iconst 0, 1) := by decide +kernel
theorem dX9_line_244 : decode cX9_line 244 = .ok (.ireturn, 1) := by decide +kernel
theorem dX9_name_0 : decode cX9_name 0 = .ok (.aload_n 0, 1) := by decide +kernel
theorem dX9_name_1 : decode cX9_name 1 = .ok (.aload_n 0, 1) := by decide +kernel
theorem dX9_name_2 : decode cX9_name 2 = .ok (.getfield 34, 3) := by decide +kernel
theorem dX9_name_5 : decode cX9_name 5 = .ok (.aload_n 0, 1) := by decide +kernel
theorem dX9_name_6 : decode cX9_name 6 = .ok (.getfield 168, 3) := by decide +kernel
theorem dX9_name_9 : decode cX9_name 9 = .ok (.iaload, 1) := by decide +kernel
theorem dX9_name_10 : decode cX9_name 10 = .ok (.iconst 2, 1) := by decide +kernel
theorem dX9_name_11 : decode cX9_name 11 = .ok (.if_icmp .ne 22, 3) := by decide +kernel
theorem dX9_name_14 : decode cX9_name 14 = .ok (.aload_n 0, 1) := by decide +kernel
theorem dX9_name_15 : decode cX9_name 15 = .ok (.getfield 40, 3) := by decide +kernel
theorem dX9_name_18 : decode cX9_name 18 = .ok (.aload_n 0, 1) := by decide +kernel
theorem dX9_name_19 : decode cX9_name 19 = .ok (.getfield 168, 3) := by decide +kernel
theorem dX9_name_22 : decode cX9_name 22 = .ok (.laload, 1) := by decide +kernel
theorem dX9_name_23 : decode cX9_name 23 = .ok (.invokestatic 183, 3) := by decide +kernel
theorem dX9_name_26 : decode cX9_name 26 = .ok (.ifCond .ne 7, 3) := by decide +kernel
theorem dX9_name_29 : decode cX9_name 29 = .ok (.iconst 1, 1) := by decide +kernel
theorem dX9_name_30 : decode cX9_name 30 = .ok (.goto 4, 3) := by decide +kernel
theorem dX9_name_33 : decode cX9_name 33 = .ok (.iconst 0, 1) := by decide +kernel
theorem dX9_name_34 : decode cX9_name 34 = .ok (.invokevirtual 179, 3) := by decide +kernel
theorem dX9_name_37 : decode cX9_name 37 = .ok (.ireturn, 1) := by decide +kernel
theorem dX9_newName_0 : decode cX9_newName 0 = .ok (.aload_n 0, 1) := by decide +kernel
theorem dX9_newName_1 : decode cX9_newName 1 = .ok (.getfield 48, 3) := by decide +kernel
theorem dX9_newName_4 : decode cX9_newName 4 = .ok (.aload_n 0, 1) := by decide +kernel
theorem dX9_newName_5 : decode cX9_newName 5 = .ok (.getfield 40, 3) := by decide +kernel
theorem dX9_newName_8 : decode cX9_newName 8 = .ok (.iload_n 1, 1) := by decide +kernel
theorem dX9_newName_9 : decode cX9_newName 9 = .ok (.laload, 1) := by decide +kernel
theorem dX9_newName_10 : decode cX9_newName 10 = .ok (.invokevirtual 266, 3) := by decide +kernel
theorem dX9_newName_13 : decode cX9_newName 13 = .ok (.iconst (-1), 1) := by decide +kernel
theorem dX9_newName_14 : decode cX9_newName 14 = .ok (.if_icmp .eq 10, 3) := by decide +kernel
theorem dX9_newName_17 : decode cX9_newName 17 = .ok (.aload_n 0, 1) := by decide +kernel
theorem dX9_newName_18 : decode cX9_newName 18 = .ok (.iconst 2, 1) := by decide +kernel
theorem dX9_newName_19 : decode cX9_newName 19 = .ok (.iload_n 1, 1) := by decide +kernel
theorem dX9_newName_20 : decode cX9_newName 20 = .ok (.invokevirtual 255, 3) := by decide +kernel
theorem dX9_newName_23 : decode cX9_newName 23 = .ok (.ireturn, 1) := by decide +kernel
theorem dX9_newName_24 : decode cX9_newName 24 = .ok (.aload_n 0, 1) := by decide +kernel
theorem dX9_newName_25 : decode cX9_newName 25 = .ok (.getfield 48, 3) := by decide +kernel
theorem dX9_newName_28 : decode cX9_newName 28 = .ok (.getfield 95, 3) := by decide +kernel
theorem dX9_newName_31 : decode cX9_newName 31 = .ok (.bipush 40, 2) := by decide +kernel
theorem dX9_newName_33 : decode cX9_newName 33 = .ok (.if_icmp .ne 12, 3) := by decide +kernel
theorem dX9_newName_36 : decode cX9_newName 36 = .ok (.aload_n 0, 1) := by decide +kernel
theorem dX9_newName_37 : decode cX9_newName 37 = .ok (.iconst 4, 1) := by decide +kernel
theorem dX9_newName_38 : decode cX9_newName 38 = .ok (.iload_n 1, 1) := by decide +kernel
theorem dX9_newName_39 : decode cX9_newName 39 = .ok (.invokevirtual 255, 3) := by decide +kernel
theorem dX9_newName_42 : decode cX9_newName 42 = .ok (.goto 4, 3) := by decide +kernel
theorem dX9_newName_45 : decode cX9_newName 45 = .ok (.iconst 0, 1) := by decide +kernel
theorem dX9_newName_46 : decode cX9_newName 46 = .ok (.ireturn, 1) := by decide +kernel
theorem dX9_no_0 : decode cX9_no 0 = .ok (.aload_n 0, 1) := by decide +kernel
theorem dX9_no_1 : decode cX9_no 1 = .ok (.iload_n 1, 1) := by decide +kernel
theorem dX9_no_2 : decode cX9_no 2 = .ok (.putfield 85, 3) := by decide +kernel
theorem dX9_no_5 : decode cX9_no 5 = .ok (.iconst 0, 1) := by decide +kernel
theorem dX9_no_6 : decode cX9_no 6 = .ok (.ireturn, 1) := by decide +kernel
theorem dX9_number_0 : decode cX9_number 0 = .ok (.aload_n 0, 1) := by decide +kernel
theorem dX9_number_1 : decode cX9_number 1 = .ok (.aload_n 0, 1) := by decide +kernel
theorem dX9_number_2 : decode cX9_number 2 = .ok (.getfield 34, 3) := by decide +kernel
theorem dX9_number_5 : decode cX9_number 5 = .ok (.aload_n 0, 1) := by decide +kernel
theorem dX9_number_6 : decode cX9_number 6 = .ok (.getfield 168, 3) := by decide +kernel
theorem dX9_number_9 : decode cX9_number 9 = .ok (.iaload, 1) := by decide +kernel
theorem dX9_number_10 : decode cX9_number 10 = .ok (.iconst 3, 1) := by decide +kernel
theorem dX9_number_11 : decode cX9_number 11 = .ok (.if_icmp .ne 7, 3) := by decide +kernel
theorem dX9_number_14 : decode cX9_number 14 = .ok (.iconst 1, 1) := by decide +kernel
theorem dX9_number_15 : decode cX9_number 15 = .ok (.goto 4, 3) := by decide +kernel
theorem dX9_number_18 : decode cX9_number 18 = .ok (.iconst 0, 1) := by decide +kernel
theorem dX9_number_19 : decode cX9_number 19 = .ok (.invokevirtual 179, 3) := by decide +kernel
theorem dX9_number_22 : decode cX9_number 22 = .ok (.ireturn, 1) := by decide +kernel
theorem dX9_on_0 : decode cX9_on 0 = .ok (.iconst 0, 1) := by decide +kernel
theorem dX9_on_1 : decode cX9_on 1 = .ok (.istore_n 3, 1) := by decide +kernel
theorem dX9_on_2 : decode cX9_on 2 = .ok (.iconst 0, 1) := by decide +kernel
theorem dX9_on_3 : decode cX9_on 3 = .ok (.istore 4, 2) := by decide +kernel
theorem dX9_on_5 : decode cX9_on 5 = .ok (.iload 4, 2) := by decide +kernel
theorem dX9_on_7 : decode cX9_on 7 = .ok (.aload_n 0, 1) := by decide +kernel
theorem dX9_on_8 : decode cX9_on 8 = .ok (.getfield 48, 3) := by decide +kernel
theorem dX9_on_11 : decode cX9_on 11 = .ok (.getfield 95, 3) := by decide +kernel
theorem dX9_on_14 : decode cX9_on 14 = .ok (.if_icmp .ge 45, 3) := by decide +kernel
theorem dX9_on_17 : decode cX9_on 17 = .ok (.iload_n 3, 1) := by decide +kernel
theorem dX9_on_18 : decode cX9_on 18 = .ok (.aload_n 0, 1) := by decide +kernel
theorem dX9_on_19 : decode cX9_on 19 = .ok (.getfield 48, 3) := by decide +kernel
theorem dX9_on_22 : decode cX9_on 22 = .ok (.getfield 124, 3) := by decide +kernel
theorem dX9_on_25 : decode cX9_on 25 = .ok (.iload 4, 2) := by decide +kernel
theorem dX9_on_27 : decode cX9_on 27 = .ok (.iaload, 1) := by decide +kernel
theorem dX9_on_28 : decode cX9_on 28 = .ok (.iload_n 2, 1) := by decide +kernel
theorem dX9_on_29 : decode cX9_on 29 = .ok (.if_icmp .ne 21, 3) := by decide +kernel
theorem dX9_on_32 : decode cX9_on 32 = .ok (.aload_n 0, 1) := by decide +kernel
theorem dX9_on_33 : decode cX9_on 33 = .ok (.getfield 48, 3) := by decide +kernel
theorem dX9_on_36 : decode cX9_on 36 = .ok (.getfield 111, 3) := by decide +kernel
theorem dX9_on_39 : decode cX9_on 39 = .ok (.iload 4, 2) := by decide +kernel
theorem dX9_on_41 : decode cX9_on 41 = .ok (.iaload, 1) := by decide +kernel
theorem dX9_on_42 : decode cX9_on 42 = .ok (.iload_n 1, 1) := by decide +kernel
theorem dX9_on_43 : decode cX9_on 43 = .ok (.if_icmp .ne 7, 3) := by decide +kernel
theorem dX9_on_46 : decode cX9_on 46 = .ok (.iconst 1, 1) := by decide +kernel
theorem dX9_on_47 : decode cX9_on 47 = .ok (.goto 4, 3) := by decide +kernel
theorem dX9_on_50 : decode cX9_on 50 = .ok (.iconst 0, 1) := by decide +kernel
theorem dX9_on_51 : decode cX9_on 51 = .ok (.iadd, 1) := by decide +kernel
theorem dX9_on_52 : decode cX9_on 52 = .ok (.istore_n 3, 1) := by decide +kernel
theorem dX9_on_53 : decode cX9_on 53 = .ok (.iinc 4 1, 3) := by decide +kernel
theorem dX9_on_56 : decode cX9_on 56 = .ok (.goto (-51), 3) := by decide +kernel
theorem dX9_on_59 : decode cX9_on 59 = .ok (.iload_n 3, 1) := by decide +kernel
theorem dX9_on_60 : decode cX9_on 60 = .ok (.ireturn, 1) := by decide +kernel
theorem dX9_packed_0 : decode cX9_packed 0 = .ok (.lconst 0, 1) := by decide +kernel
theorem dX9_packed_1 : decode cX9_packed 1 = .ok (.lstore_n 1, 1) := by decide +kernel
theorem dX9_packed_2 : decode cX9_packed 2 = .ok (.iconst 0, 1) := by decide +kernel
theorem dX9_packed_3 : decode cX9_packed 3 = .ok (.istore_n 3, 1) := by decide +kernel
theorem dX9_packed_4 : decode cX9_packed 4 = .ok (.iload_n 3, 1) := by decide +kernel
theorem dX9_packed_5 : decode cX9_packed 5 = .ok (.aload_n 0, 1) := by decide +kernel
theorem dX9_packed_6 : decode cX9_packed 6 = .ok (.invokevirtual 1, 3) := by decide +kernel
theorem dX9_packed_9 : decode cX9_packed 9 = .ok (.if_icmp .ge 21, 3) := by decide +kernel
theorem dX9_packed_12 : decode cX9_packed 12 = .ok (.lload_n 1, 1) := by decide +kernel
theorem dX9_packed_13 : decode cX9_packed 13 = .ok (.bipush 8, 2) := by decide +kernel
theorem dX9_packed_15 : decode cX9_packed 15 = .ok (.lshl, 1) := by decide +kernel
theorem dX9_packed_16 : decode cX9_packed 16 = .ok (.aload_n 0, 1) := by decide +kernel
theorem dX9_packed_17 : decode cX9_packed 17 = .ok (.iload_n 3, 1) := by decide +kernel
theorem dX9_packed_18 : decode cX9_packed 18 = .ok (.invokevirtual 7, 3) := by decide +kernel
theorem dX9_packed_21 : decode cX9_packed 21 = .ok (.i2l, 1) := by decide +kernel
theorem dX9_packed_22 : decode cX9_packed 22 = .ok (.lor, 1) := by decide +kernel
theorem dX9_packed_23 : decode cX9_packed 23 = .ok (.lstore_n 1, 1) := by decide +kernel
theorem dX9_packed_24 : decode cX9_packed 24 = .ok (.iinc 3 1, 3) := by decide +kernel
theorem dX9_packed_27 : decode cX9_packed 27 = .ok (.goto (-23), 3) := by decide +kernel
theorem dX9_packed_30 : decode cX9_packed 30 = .ok (.lload_n 1, 1) := by decide +kernel
theorem dX9_packed_31 : decode cX9_packed 31 = .ok (.lreturn, 1) := by decide +kernel
theorem dX9_past_0 : decode cX9_past 0 = .ok (.iload_n 1, 1) := by decide +kernel
theorem dX9_past_1 : decode cX9_past 1 = .ok (.ifCond .eq 13, 3) := by decide +kernel
theorem dX9_past_4 : decode cX9_past 4 = .ok (.aload_n 0, 1) := by decide +kernel
theorem dX9_past_5 : decode cX9_past 5 = .ok (.dup, 1) := by decide +kernel
theorem dX9_past_6 : decode cX9_past 6 = .ok (.getfield 168, 3) := by decide +kernel
theorem dX9_past_9 : decode cX9_past 9 = .ok (.iconst 1, 1) := by decide +kernel
theorem dX9_past_10 : decode cX9_past 10 = .ok (.iadd, 1) := by decide +kernel
theorem dX9_past_11 : decode cX9_past 11 = .ok (.putfield 168, 3) := by decide +kernel
theorem dX9_past_14 : decode cX9_past 14 = .ok (.iload_n 1, 1) := by decide +kernel
theorem dX9_past_15 : decode cX9_past 15 = .ok (.ireturn, 1) := by decide +kernel
theorem dX9_print_0 : decode cX9_print 0 = .ok (.aload_n 0, 1) := by decide +kernel
theorem dX9_print_1 : decode cX9_print 1 = .ok (.getfield 31, 3) := by decide +kernel
theorem dX9_print_4 : decode cX9_print 4 = .ok (.aload_n 0, 1) := by decide +kernel
theorem dX9_print_5 : decode cX9_print 5 = .ok (.getfield 331, 3) := by decide +kernel
theorem dX9_print_8 : decode cX9_print 8 = .ok (.iload_n 1, 1) := by decide +kernel
theorem dX9_print_9 : decode cX9_print 9 = .ok (.iastore, 1) := by decide +kernel
theorem dX9_print_10 : decode cX9_print 10 = .ok (.aload_n 0, 1) := by decide +kernel
theorem dX9_print_11 : decode cX9_print 11 = .ok (.dup, 1) := by decide +kernel
theorem dX9_print_12 : decode cX9_print 12 = .ok (.getfield 331, 3) := by decide +kernel
theorem dX9_print_15 : decode cX9_print 15 = .ok (.iconst 1, 1) := by decide +kernel
theorem dX9_print_16 : decode cX9_print 16 = .ok (.iadd, 1) := by decide +kernel
theorem dX9_print_17 : decode cX9_print 17 = .ok (.putfield 331, 3) := by decide +kernel
theorem dX9_print_20 : decode cX9_print 20 = .ok (.return_, 1) := by decide +kernel
theorem dX9_print__0 : decode cX9_print_ 0 = .ok (.bipush 56, 2) := by decide +kernel
theorem dX9_print__2 : decode cX9_print_ 2 = .ok (.istore_n 3, 1) := by decide +kernel
theorem dX9_print__3 : decode cX9_print_ 3 = .ok (.lload_n 1, 1) := by decide +kernel
theorem dX9_print__4 : decode cX9_print_ 4 = .ok (.iload_n 3, 1) := by decide +kernel
theorem dX9_print__5 : decode cX9_print_ 5 = .ok (.lshr, 1) := by decide +kernel
theorem dX9_print__6 : decode cX9_print_ 6 = .ok (.ldc2_w 372, 3) := by decide +kernel
theorem dX9_print__9 : decode cX9_print_ 9 = .ok (.land, 1) := by decide +kernel
theorem dX9_print__10 : decode cX9_print_ 10 = .ok (.lconst 0, 1) := by decide +kernel
theorem dX9_print__11 : decode cX9_print_ 11 = .ok (.lcmp, 1) := by decide +kernel
theorem dX9_print__12 : decode cX9_print_ 12 = .ok (.ifCond .ne 9, 3) := by decide +kernel
theorem dX9_print__15 : decode cX9_print_ 15 = .ok (.iinc 3 (-8), 3) := by decide +kernel
theorem dX9_print__18 : decode cX9_print_ 18 = .ok (.goto (-15), 3) := by decide +kernel
theorem dX9_print__21 : decode cX9_print_ 21 = .ok (.iload_n 3, 1) := by decide +kernel
theorem dX9_print__22 : decode cX9_print_ 22 = .ok (.ifCond .lt 21, 3) := by decide +kernel
theorem dX9_print__25 : decode cX9_print_ 25 = .ok (.aload_n 0, 1) := by decide +kernel
theorem dX9_print__26 : decode cX9_print_ 26 = .ok (.lload_n 1, 1) := by decide +kernel
theorem dX9_print__27 : decode cX9_print_ 27 = .ok (.iload_n 3, 1) := by decide +kernel
theorem dX9_print__28 : decode cX9_print_ 28 = .ok (.lshr, 1) := by decide +kernel
theorem dX9_print__29 : decode cX9_print_ 29 = .ok (.ldc2_w 372, 3) := by decide +kernel
theorem dX9_print__32 : decode cX9_print_ 32 = .ok (.land, 1) := by decide +kernel
theorem dX9_print__33 : decode cX9_print_ 33 = .ok (.l2i, 1) := by decide +kernel
theorem dX9_print__34 : decode cX9_print_ 34 = .ok (.invokevirtual 374, 3) := by decide +kernel
theorem dX9_print__37 : decode cX9_print_ 37 = .ok (.iinc 3 (-8), 3) := by decide +kernel
theorem dX9_print__40 : decode cX9_print_ 40 = .ok (.goto (-19), 3) := by decide +kernel
theorem dX9_print__43 : decode cX9_print_ 43 = .ok (.return_, 1) := by decide +kernel
theorem dX9_read_0 : decode cX9_read 0 = .ok (.aload_n 0, 1) := by decide +kernel
theorem dX9_read_1 : decode cX9_read 1 = .ok (.iconst 0, 1) := by decide +kernel
theorem dX9_read_2 : decode cX9_read 2 = .ok (.putfield 142, 3) := by decide +kernel
theorem dX9_read_5 : decode cX9_read 5 = .ok (.iconst 0, 1) := by decide +kernel
theorem dX9_read_6 : decode cX9_read 6 = .ok (.istore_n 1, 1) := by decide +kernel
theorem dX9_read_7 : decode cX9_read 7 = .ok (.aload_n 0, 1) := by decide +kernel
theorem dX9_read_8 : decode cX9_read 8 = .ok (.getfield 142, 3) := by decide +kernel
theorem dX9_read_11 : decode cX9_read 11 = .ok (.sipush 400, 3) := by decide +kernel
theorem dX9_read_14 : decode cX9_read 14 = .ok (.if_icmp .gt 312, 3) := by decide +kernel
theorem dX9_read_17 : decode cX9_read 17 = .ok (.iload_n 1, 1) := by decide +kernel
theorem dX9_read_18 : decode cX9_read 18 = .ok (.aload_n 0, 1) := by decide +kernel
theorem dX9_read_19 : decode cX9_read 19 = .ok (.getfield 145, 3) := by decide +kernel
theorem dX9_read_22 : decode cX9_read 22 = .ok (.if_icmp .ge 31, 3) := by decide +kernel
theorem dX9_read_25 : decode cX9_read 25 = .ok (.aload_n 0, 1) := by decide +kernel
theorem dX9_read_26 : decode cX9_read 26 = .ok (.getfield 27, 3) := by decide +kernel
theorem dX9_read_29 : decode cX9_read 29 = .ok (.iload_n 1, 1) := by decide +kernel
theorem dX9_read_30 : decode cX9_read 30 = .ok (.iaload, 1) := by decide +kernel
theorem dX9_read_31 : decode cX9_read 31 = .ok (.bipush 32, 2) := by decide +kernel
theorem dX9_read_33 : decode cX9_read 33 = .ok (.if_icmp .eq 14, 3) := by decide +kernel
theorem dX9_read_36 : decode cX9_read 36 = .ok (.aload_n 0, 1) := by decide +kernel
theorem dX9_read_37 : decode cX9_read 37 = .ok (.getfield 27, 3) := by decide +kernel
theorem dX9_read_40 : decode cX9_read 40 = .ok (.iload_n 1, 1) := by decide +kernel
theorem dX9_read_41 : decode cX9_read 41 = .ok (.iaload, 1) := by decide +kernel
theorem dX9_read_42 : decode cX9_read 42 = .ok (.bipush 10, 2) := by decide +kernel
theorem dX9_read_44 : decode cX9_read 44 = .ok (.if_icmp .ne 9, 3) := by decide +kernel
theorem dX9_read_47 : decode cX9_read 47 = .ok (.iinc 1 1, 3) := by decide +kernel
theorem dX9_read_50 : decode cX9_read 50 = .ok (.goto (-33), 3) := by decide +kernel
theorem dX9_read_53 : decode cX9_read 53 = .ok (.iload_n 1, 1) := by decide +kernel
theorem dX9_read_54 : decode cX9_read 54 = .ok (.aload_n 0, 1) := by decide +kernel
theorem dX9_read_55 : decode cX9_read 55 = .ok (.getfield 145, 3) := by decide +kernel
theorem dX9_read_58 : decode cX9_read 58 = .ok (.if_icmp .ne 14, 3) := by decide +kernel
theorem dX9_read_61 : decode cX9_read 61 = .ok (.aload_n 0, 1) := by decide +kernel
theorem dX9_read_62 : decode cX9_read 62 = .ok (.iconst 0, 1) := by decide +kernel
theorem dX9_read_63 : decode cX9_read 63 = .ok (.aload_n 0, 1) := by decide +kernel
theorem dX9_read_64 : decode cX9_read 64 = .ok (.getfield 145, 3) := by decide +kernel
theorem dX9_read_67 : decode cX9_read 67 = .ok (.lconst 0, 1) := by decide +kernel
theorem dX9_read_68 : decode cX9_read 68 = .ok (.invokevirtual 148, 3) := by decide +kernel
theorem dX9_read_71 : decode cX9_read 71 = .ok (.return_, 1) := by decide +kernel
theorem dX9_read_72 : decode cX9_read 72 = .ok (.iload_n 1, 1) := by decide +kernel
theorem dX9_read_73 : decode cX9_read 73 = .ok (.istore_n 2, 1) := by decide +kernel
theorem dX9_read_74 : decode cX9_read 74 = .ok (.aload_n 0, 1) := by decide +kernel
theorem dX9_read_75 : decode cX9_read 75 = .ok (.getfield 27, 3) := by decide +kernel
theorem dX9_read_78 : decode cX9_read 78 = .ok (.iload_n 1, 1) := by decide +kernel
theorem dX9_read_79 : decode cX9_read 79 = .ok (.iaload, 1) := by decide +kernel
theorem dX9_read_80 : decode cX9_read 80 = .ok (.i2l, 1) := by decide +kernel
theorem dX9_read_81 : decode cX9_read 81 = .ok (.lstore_n 3, 1) := by decide +kernel
theorem dX9_read_82 : decode cX9_read 82 = .ok (.aload_n 0, 1) := by decide +kernel
theorem dX9_read_83 : decode cX9_read 83 = .ok (.getfield 27, 3) := by decide +kernel
theorem dX9_read_86 : decode cX9_read 86 = .ok (.iload_n 1, 1) := by decide +kernel
theorem dX9_read_87 : decode cX9_read 87 = .ok (.iaload, 1) := by decide +kernel
theorem dX9_read_88 : decode cX9_read 88 = .ok (.invokestatic 152, 3) := by decide +kernel
theorem dX9_read_91 : decode cX9_read 91 = .ok (.ifCond .eq 79, 3) := by decide +kernel
theorem dX9_read_94 : decode cX9_read 94 = .ok (.iinc 1 1, 3) := by decide +kernel
theorem dX9_read_97 : decode cX9_read 97 = .ok (.iload_n 1, 1) := by decide +kernel
theorem dX9_read_98 : decode cX9_read 98 = .ok (.aload_n 0, 1) := by decide +kernel
theorem dX9_read_99 : decode cX9_read 99 = .ok (.getfield 145, 3) := by decide +kernel
theorem dX9_read_102 : decode cX9_read 102 = .ok (.if_icmp .ge 46, 3) := by decide +kernel
theorem dX9_read_105 : decode cX9_read 105 = .ok (.aload_n 0, 1) := by decide +kernel
theorem dX9_read_106 : decode cX9_read 106 = .ok (.getfield 27, 3) := by decide +kernel
theorem dX9_read_109 : decode cX9_read 109 = .ok (.iload_n 1, 1) := by decide +kernel
theorem dX9_read_110 : decode cX9_read 110 = .ok (.iaload, 1) := by decide +kernel
theorem dX9_read_111 : decode cX9_read 111 = .ok (.invokestatic 152, 3) := by decide +kernel
theorem dX9_read_114 : decode cX9_read 114 = .ok (.ifCond .ne 15, 3) := by decide +kernel
theorem dX9_read_117 : decode cX9_read 117 = .ok (.aload_n 0, 1) := by decide +kernel
theorem dX9_read_118 : decode cX9_read 118 = .ok (.getfield 27, 3) := by decide +kernel
theorem dX9_read_121 : decode cX9_read 121 = .ok (.iload_n 1, 1) := by decide +kernel
theorem dX9_read_122 : decode cX9_read 122 = .ok (.iaload, 1) := by decide +kernel
theorem dX9_read_123 : decode cX9_read 123 = .ok (.invokestatic 155, 3) := by decide +kernel
theorem dX9_read_126 : decode cX9_read 126 = .ok (.ifCond .eq 22, 3) := by decide +kernel
theorem dX9_read_129 : decode cX9_read 129 = .ok (.lload_n 3, 1) := by decide +kernel
theorem dX9_read_130 : decode cX9_read 130 = .ok (.bipush 8, 2) := by decide +kernel
theorem dX9_read_132 : decode cX9_read 132 = .ok (.lshl, 1) := by decide +kernel
theorem dX9_read_133 : decode cX9_read 133 = .ok (.aload_n 0, 1) := by decide +kernel
theorem dX9_read_134 : decode cX9_read 134 = .ok (.getfield 27, 3) := by decide +kernel
theorem dX9_read_137 : decode cX9_read 137 = .ok (.iload_n 1, 1) := by decide +kernel
theorem dX9_read_138 : decode cX9_read 138 = .ok (.iaload, 1) := by decide +kernel
theorem dX9_read_139 : decode cX9_read 139 = .ok (.i2l, 1) := by decide +kernel
theorem dX9_read_140 : decode cX9_read 140 = .ok (.lor, 1) := by decide +kernel
theorem dX9_read_141 : decode cX9_read 141 = .ok (.lstore_n 3, 1) := by decide +kernel
theorem dX9_read_142 : decode cX9_read 142 = .ok (.iinc 1 1, 3) := by decide +kernel
theorem dX9_read_145 : decode cX9_read 145 = .ok (.goto (-48), 3) := by decide +kernel
theorem dX9_read_148 : decode cX9_read 148 = .ok (.aload_n 0, 1) := by decide +kernel
theorem dX9_read_149 : decode cX9_read 149 = .ok (.iload_n 1, 1) := by decide +kernel
theorem dX9_read_150 : decode cX9_read 150 = .ok (.iload_n 2, 1) := by decide +kernel
theorem dX9_read_151 : decode cX9_read 151 = .ok (.isub, 1) := by decide +kernel
theorem dX9_read_152 : decode cX9_read 152 = .ok (.bipush 8, 2) := by decide +kernel
theorem dX9_read_154 : decode cX9_read 154 = .ok (.if_icmp .gt 7, 3) := by decide +kernel
theorem dX9_read_157 : decode cX9_read 157 = .ok (.iconst 2, 1) := by decide +kernel
theorem dX9_read_158 : decode cX9_read 158 = .ok (.goto 4, 3) := by decide +kernel
theorem dX9_read_161 : decode cX9_read 161 = .ok (.iconst 1, 1) := by decide +kernel
theorem dX9_read_162 : decode cX9_read 162 = .ok (.iload_n 2, 1) := by decide +kernel
theorem dX9_read_163 : decode cX9_read 163 = .ok (.lload_n 3, 1) := by decide +kernel
theorem dX9_read_164 : decode cX9_read 164 = .ok (.invokevirtual 148, 3) := by decide +kernel
theorem dX9_read_167 : decode cX9_read 167 = .ok (.goto 140, 3) := by decide +kernel
theorem dX9_read_170 : decode cX9_read 170 = .ok (.aload_n 0, 1) := by decide +kernel
theorem dX9_read_171 : decode cX9_read 171 = .ok (.getfield 27, 3) := by decide +kernel
theorem dX9_read_174 : decode cX9_read 174 = .ok (.iload_n 1, 1) := by decide +kernel
theorem dX9_read_175 : decode cX9_read 175 = .ok (.iaload, 1) := by decide +kernel
theorem dX9_read_176 : decode cX9_read 176 = .ok (.invokestatic 155, 3) := by decide +kernel
theorem dX9_read_179 : decode cX9_read 179 = .ok (.ifCond .eq 90, 3) := by decide +kernel
theorem dX9_read_182 : decode cX9_read 182 = .ok (.lload_n 3, 1) := by decide +kernel
theorem dX9_read_183 : decode cX9_read 183 = .ok (.ldc2_w 158, 3) := by decide +kernel
theorem dX9_read_186 : decode cX9_read 186 = .ok (.lsub, 1) := by decide +kernel
theorem dX9_read_187 : decode cX9_read 187 = .ok (.lstore_n 3, 1) := by decide +kernel
theorem dX9_read_188 : decode cX9_read 188 = .ok (.iinc 1 1, 3) := by decide +kernel
theorem dX9_read_191 : decode cX9_read 191 = .ok (.iload_n 1, 1) := by decide +kernel
theorem dX9_read_192 : decode cX9_read 192 = .ok (.aload_n 0, 1) := by decide +kernel
theorem dX9_read_193 : decode cX9_read 193 = .ok (.getfield 145, 3) := by decide +kernel
theorem dX9_read_196 : decode cX9_read 196 = .ok (.if_icmp .ge 51, 3) := by decide +kernel
theorem dX9_read_199 : decode cX9_read 199 = .ok (.aload_n 0, 1) := by decide +kernel
theorem dX9_read_200 : decode cX9_read 200 = .ok (.getfield 27, 3) := by decide +kernel
theorem dX9_read_203 : decode cX9_read 203 = .ok (.iload_n 1, 1) := by decide +kernel
theorem dX9_read_204 : decode cX9_read 204 = .ok (.iaload, 1) := by decide +kernel
theorem dX9_read_205 : decode cX9_read 205 = .ok (.invokestatic 155, 3) := by decide +kernel
theorem dX9_read_208 : decode cX9_read 208 = .ok (.ifCond .eq 39, 3) := by decide +kernel
theorem dX9_read_211 : decode cX9_read 211 = .ok (.iload_n 1, 1) := by decide +kernel
theorem dX9_read_212 : decode cX9_read 212 = .ok (.iload_n 2, 1) := by decide +kernel
theorem dX9_read_213 : decode cX9_read 213 = .ok (.isub, 1) := by decide +kernel
theorem dX9_read_214 : decode cX9_read 214 = .ok (.bipush 6, 2) := by decide +kernel
theorem dX9_read_216 : decode cX9_read 216 = .ok (.if_icmp .ge 23, 3) := by decide +kernel
theorem dX9_read_219 : decode cX9_read 219 = .ok (.ldc2_w 160, 3) := by decide +kernel
theorem dX9_read_222 : decode cX9_read 222 = .ok (.lload_n 3, 1) := by decide +kernel
theorem dX9_read_223 : decode cX9_read 223 = .ok (.lmul, 1) := by decide +kernel
theorem dX9_read_224 : decode cX9_read 224 = .ok (.aload_n 0, 1) := by decide +kernel
theorem dX9_read_225 : decode cX9_read 225 = .ok (.getfield 27, 3) := by decide +kernel
theorem dX9_read_228 : decode cX9_read 228 = .ok (.iload_n 1, 1) := by decide +kernel
theorem dX9_read_229 : decode cX9_read 229 = .ok (.iaload, 1) := by decide +kernel
theorem dX9_read_230 : decode cX9_read 230 = .ok (.i2l, 1) := by decide +kernel
theorem dX9_read_231 : decode cX9_read 231 = .ok (.ladd, 1) := by decide +kernel
theorem dX9_read_232 : decode cX9_read 232 = .ok (.ldc2_w 158, 3) := by decide +kernel
theorem dX9_read_235 : decode cX9_read 235 = .ok (.lsub, 1) := by decide +kernel
theorem dX9_read_236 : decode cX9_read 236 = .ok (.goto 4, 3) := by decide +kernel
theorem dX9_read_239 : decode cX9_read 239 = .ok (.lload_n 3, 1) := by decide +kernel
theorem dX9_read_240 : decode cX9_read 240 = .ok (.lstore_n 3, 1) := by decide +kernel
theorem dX9_read_241 : decode cX9_read 241 = .ok (.iinc 1 1, 3) := by decide +kernel
theorem dX9_read_244 : decode cX9_read 244 = .ok (.goto (-53), 3) := by decide +kernel
theorem dX9_read_247 : decode cX9_read 247 = .ok (.aload_n 0, 1) := by decide +kernel
theorem dX9_read_248 : decode cX9_read 248 = .ok (.iload_n 1, 1) := by decide +kernel
theorem dX9_read_249 : decode cX9_read 249 = .ok (.iload_n 2, 1) := by decide +kernel
theorem dX9_read_250 : decode cX9_read 250 = .ok (.isub, 1) := by decide +kernel
theorem dX9_read_251 : decode cX9_read 251 = .ok (.bipush 6, 2) := by decide +kernel
theorem dX9_read_253 : decode cX9_read 253 = .ok (.if_icmp .gt 7, 3) := by decide +kernel
theorem dX9_read_256 : decode cX9_read 256 = .ok (.iconst 3, 1) := by decide +kernel
theorem dX9_read_257 : decode cX9_read 257 = .ok (.goto 4, 3) := by decide +kernel
theorem dX9_read_260 : decode cX9_read 260 = .ok (.iconst 1, 1) := by decide +kernel
theorem dX9_read_261 : decode cX9_read 261 = .ok (.iload_n 2, 1) := by decide +kernel
theorem dX9_read_262 : decode cX9_read 262 = .ok (.lload_n 3, 1) := by decide +kernel
theorem dX9_read_263 : decode cX9_read 263 = .ok (.invokevirtual 148, 3) := by decide +kernel
theorem dX9_read_266 : decode cX9_read 266 = .ok (.goto 41, 3) := by decide +kernel
theorem dX9_read_269 : decode cX9_read 269 = .ok (.iinc 1 1, 3) := by decide +kernel
theorem dX9_read_272 : decode cX9_read 272 = .ok (.aload_n 0, 1) := by decide +kernel
theorem dX9_read_273 : decode cX9_read 273 = .ok (.lload_n 3, 1) := by decide +kernel
theorem dX9_read_274 : decode cX9_read 274 = .ok (.ldc2_w 162, 3) := by decide +kernel
theorem dX9_read_277 : decode cX9_read 277 = .ok (.lcmp, 1) := by decide +kernel
theorem dX9_read_278 : decode cX9_read 278 = .ok (.ifCond .eq 19, 3) := by decide +kernel
theorem dX9_read_281 : decode cX9_read 281 = .ok (.lload_n 3, 1) := by decide +kernel
theorem dX9_read_282 : decode cX9_read 282 = .ok (.ldc2_w 164, 3) := by decide +kernel
theorem dX9_read_285 : decode cX9_read 285 = .ok (.lcmp, 1) := by decide +kernel
theorem dX9_read_286 : decode cX9_read 286 = .ok (.ifCond .eq 11, 3) := by decide +kernel
theorem dX9_read_289 : decode cX9_read 289 = .ok (.lload_n 3, 1) := by decide +kernel
theorem dX9_read_290 : decode cX9_read 290 = .ok (.ldc2_w 166, 3) := by decide +kernel
theorem dX9_read_293 : decode cX9_read 293 = .ok (.lcmp, 1) := by decide +kernel
theorem dX9_read_294 : decode cX9_read 294 = .ok (.ifCond .ne 7, 3) := by decide +kernel
theorem dX9_read_297 : decode cX9_read 297 = .ok (.iconst 4, 1) := by decide +kernel
theorem dX9_read_298 : decode cX9_read 298 = .ok (.goto 4, 3) := by decide +kernel
theorem dX9_read_301 : decode cX9_read 301 = .ok (.iconst 1, 1) := by decide +kernel
theorem dX9_read_302 : decode cX9_read 302 = .ok (.iload_n 2, 1) := by decide +kernel
theorem dX9_read_303 : decode cX9_read 303 = .ok (.lload_n 3, 1) := by decide +kernel
theorem dX9_read_304 : decode cX9_read 304 = .ok (.invokevirtual 148, 3) := by decide +kernel
theorem dX9_read_307 : decode cX9_read 307 = .ok (.aload_n 0, 1) := by decide +kernel
theorem dX9_read_308 : decode cX9_read 308 = .ok (.getfield 34, 3) := by decide +kernel
theorem dX9_read_311 : decode cX9_read 311 = .ok (.aload_n 0, 1) := by decide +kernel
theorem dX9_read_312 : decode cX9_read 312 = .ok (.getfield 142, 3) := by decide +kernel
theorem dX9_read_315 : decode cX9_read 315 = .ok (.iconst 1, 1) := by decide +kernel
theorem dX9_read_316 : decode cX9_read 316 = .ok (.isub, 1) := by decide +kernel
theorem dX9_read_317 : decode cX9_read 317 = .ok (.iaload, 1) := by decide +kernel
theorem dX9_read_318 : decode cX9_read 318 = .ok (.iconst 1, 1) := by decide +kernel
theorem dX9_read_319 : decode cX9_read 319 = .ok (.if_icmp .ne 4, 3) := by decide +kernel
theorem dX9_read_322 : decode cX9_read 322 = .ok (.return_, 1) := by decide +kernel
theorem dX9_read_323 : decode cX9_read 323 = .ok (.goto (-316), 3) := by decide +kernel
theorem dX9_read_326 : decode cX9_read 326 = .ok (.return_, 1) := by decide +kernel
theorem dX9_rest_0 : decode cX9_rest 0 = .ok (.aload_n 0, 1) := by decide +kernel
theorem dX9_rest_1 : decode cX9_rest 1 = .ok (.ldc 222, 2) := by decide +kernel
theorem dX9_rest_3 : decode cX9_rest 3 = .ok (.invokevirtual 189, 3) := by decide +kernel
theorem dX9_rest_6 : decode cX9_rest 6 = .ok (.ifCond .eq 10, 3) := by decide +kernel
theorem dX9_rest_9 : decode cX9_rest 9 = .ok (.aload_n 0, 1) := by decide +kernel
theorem dX9_rest_10 : decode cX9_rest 10 = .ok (.invokevirtual 197, 3) := by decide +kernel
theorem dX9_rest_13 : decode cX9_rest 13 = .ok (.ifCond .eq 24, 3) := by decide +kernel
theorem dX9_rest_16 : decode cX9_rest 16 = .ok (.aload_n 0, 1) := by decide +kernel
theorem dX9_rest_17 : decode cX9_rest 17 = .ok (.ldc 224, 2) := by decide +kernel
theorem dX9_rest_19 : decode cX9_rest 19 = .ok (.invokevirtual 189, 3) := by decide +kernel
theorem dX9_rest_22 : decode cX9_rest 22 = .ok (.ifCond .eq 11, 3) := by decide +kernel
theorem dX9_rest_25 : decode cX9_rest 25 = .ok (.aload_n 0, 1) := by decide +kernel
theorem dX9_rest_26 : decode cX9_rest 26 = .ok (.iconst 0, 1) := by decide +kernel
theorem dX9_rest_27 : decode cX9_rest 27 = .ok (.invokevirtual 226, 3) := by decide +kernel
theorem dX9_rest_30 : decode cX9_rest 30 = .ok (.ifCond .eq 7, 3) := by decide +kernel
theorem dX9_rest_33 : decode cX9_rest 33 = .ok (.iconst 1, 1) := by decide +kernel
theorem dX9_rest_34 : decode cX9_rest 34 = .ok (.goto 4, 3) := by decide +kernel
theorem dX9_rest_37 : decode cX9_rest 37 = .ok (.iconst 0, 1) := by decide +kernel
theorem dX9_rest_38 : decode cX9_rest 38 = .ok (.ireturn, 1) := by decide +kernel
theorem dX9_score_0 : decode cX9_score 0 = .ok (.aload_n 0, 1) := by decide +kernel
theorem dX9_score_1 : decode cX9_score 1 = .ok (.getfield 48, 3) := by decide +kernel
theorem dX9_score_4 : decode cX9_score 4 = .ok (.getfield 118, 3) := by decide +kernel
theorem dX9_score_7 : decode cX9_score 7 = .ok (.iload_n 1, 1) := by decide +kernel
theorem dX9_score_8 : decode cX9_score 8 = .ok (.iaload, 1) := by decide +kernel
theorem dX9_score_9 : decode cX9_score 9 = .ok (.bipush 60, 2) := by decide +kernel
theorem dX9_score_11 : decode cX9_score 11 = .ok (.idiv, 1) := by decide +kernel
theorem dX9_score_12 : decode cX9_score 12 = .ok (.istore_n 3, 1) := by decide +kernel
theorem dX9_score_13 : decode cX9_score 13 = .ok (.iconst 0, 1) := by decide +kernel
theorem dX9_score_14 : decode cX9_score 14 = .ok (.istore 4, 2) := by decide +kernel
theorem dX9_score_16 : decode cX9_score 16 = .ok (.iload 4, 2) := by decide +kernel
theorem dX9_score_18 : decode cX9_score 18 = .ok (.aload_n 0, 1) := by decide +kernel
theorem dX9_score_19 : decode cX9_score 19 = .ok (.getfield 48, 3) := by decide +kernel
theorem dX9_score_22 : decode cX9_score 22 = .ok (.getfield 95, 3) := by decide +kernel
theorem dX9_score_25 : decode cX9_score 25 = .ok (.if_icmp .ge 240, 3) := by decide +kernel
theorem dX9_score_28 : decode cX9_score 28 = .ok (.aload_n 0, 1) := by decide +kernel
theorem dX9_score_29 : decode cX9_score 29 = .ok (.getfield 48, 3) := by decide +kernel
theorem dX9_score_32 : decode cX9_score 32 = .ok (.getfield 121, 3) := by decide +kernel
theorem dX9_score_35 : decode cX9_score 35 = .ok (.iload 4, 2) := by decide +kernel
theorem dX9_score_37 : decode cX9_score 37 = .ok (.iaload, 1) := by decide +kernel
theorem dX9_score_38 : decode cX9_score 38 = .ok (.iload_n 1, 1) := by decide +kernel
theorem dX9_score_39 : decode cX9_score 39 = .ok (.if_icmp .ne 7, 3) := by decide +kernel
theorem dX9_score_42 : decode cX9_score 42 = .ok (.iconst 1, 1) := by decide +kernel
theorem dX9_score_43 : decode cX9_score 43 = .ok (.goto 4, 3) := by decide +kernel
theorem dX9_score_46 : decode cX9_score 46 = .ok (.iconst 0, 1) := by decide +kernel
theorem dX9_score_47 : decode cX9_score 47 = .ok (.istore 5, 2) := by decide +kernel
theorem dX9_score_49 : decode cX9_score 49 = .ok (.iload 5, 2) := by decide +kernel
theorem dX9_score_51 : decode cX9_score 51 = .ok (.ifCond .eq 15, 3) := by decide +kernel
theorem dX9_score_54 : decode cX9_score 54 = .ok (.aload_n 0, 1) := by decide +kernel
theorem dX9_score_55 : decode cX9_score 55 = .ok (.iload 4, 2) := by decide +kernel
theorem dX9_score_57 : decode cX9_score 57 = .ok (.invokevirtual 104, 3) := by decide +kernel
theorem dX9_score_60 : decode cX9_score 60 = .ok (.ifCond .eq 6, 3) := by decide +kernel
theorem dX9_score_63 : decode cX9_score 63 = .ok (.iinc 3 (-1), 3) := by decide +kernel
theorem dX9_score_66 : decode cX9_score 66 = .ok (.iload 5, 2) := by decide +kernel
theorem dX9_score_68 : decode cX9_score 68 = .ok (.ifCond .eq 63, 3) := by decide +kernel
theorem dX9_score_71 : decode cX9_score 71 = .ok (.aload_n 0, 1) := by decide +kernel
theorem dX9_score_72 : decode cX9_score 72 = .ok (.getfield 48, 3) := by decide +kernel
theorem dX9_score_75 : decode cX9_score 75 = .ok (.getfield 124, 3) := by decide +kernel
theorem dX9_score_78 : decode cX9_score 78 = .ok (.iload 4, 2) := by decide +kernel
theorem dX9_score_80 : decode cX9_score 80 = .ok (.iaload, 1) := by decide +kernel
theorem dX9_score_81 : decode cX9_score 81 = .ok (.ifCond .ne 50, 3) := by decide +kernel
theorem dX9_score_84 : decode cX9_score 84 = .ok (.iload_n 3, 1) := by decide +kernel
theorem dX9_score_85 : decode cX9_score 85 = .ok (.aload_n 2, 1) := by decide +kernel
theorem dX9_score_86 : decode cX9_score 86 = .ok (.iload 4, 2) := by decide +kernel
theorem dX9_score_88 : decode cX9_score 88 = .ok (.iaload, 1) := by decide +kernel
theorem dX9_score_89 : decode cX9_score 89 = .ok (.iconst 1, 1) := by decide +kernel
theorem dX9_score_90 : decode cX9_score 90 = .ok (.if_icmp .ne 16, 3) := by decide +kernel
theorem dX9_score_93 : decode cX9_score 93 = .ok (.aload_n 0, 1) := by decide +kernel
theorem dX9_score_94 : decode cX9_score 94 = .ok (.getfield 48, 3) := by decide +kernel
theorem dX9_score_97 : decode cX9_score 97 = .ok (.getfield 127, 3) := by decide +kernel
theorem dX9_score_100 : decode cX9_score 100 = .ok (.iload 4, 2) := by decide +kernel
theorem dX9_score_102 : decode cX9_score 102 = .ok (.iaload, 1) := by decide +kernel
theorem dX9_score_103 : decode cX9_score 103 = .ok (.goto 26, 3) := by decide +kernel
theorem dX9_score_106 : decode cX9_score 106 = .ok (.aload_n 2, 1) := by decide +kernel
theorem dX9_score_107 : decode cX9_score 107 = .ok (.iload 4, 2) := by decide +kernel
theorem dX9_score_109 : decode cX9_score 109 = .ok (.iaload, 1) := by decide +kernel
theorem dX9_score_110 : decode cX9_score 110 = .ok (.ifCond .ne 18, 3) := by decide +kernel
theorem dX9_score_113 : decode cX9_score 113 = .ok (.aload_n 0, 1) := by decide +kernel
theorem dX9_score_114 : decode cX9_score 114 = .ok (.getfield 48, 3) := by decide +kernel
theorem dX9_score_117 : decode cX9_score 117 = .ok (.getfield 127, 3) := by decide +kernel
theorem dX9_score_120 : decode cX9_score 120 = .ok (.iload 4, 2) := by decide +kernel
theorem dX9_score_122 : decode cX9_score 122 = .ok (.iaload, 1) := by decide +kernel
theorem dX9_score_123 : decode cX9_score 123 = .ok (.iconst 2, 1) := by decide +kernel
theorem dX9_score_124 : decode cX9_score 124 = .ok (.idiv, 1) := by decide +kernel
theorem dX9_score_125 : decode cX9_score 125 = .ok (.goto 4, 3) := by decide +kernel
theorem dX9_score_128 : decode cX9_score 128 = .ok (.iconst 0, 1) := by decide +kernel
theorem dX9_score_129 : decode cX9_score 129 = .ok (.iadd, 1) := by decide +kernel
theorem dX9_score_130 : decode cX9_score 130 = .ok (.istore_n 3, 1) := by decide +kernel
theorem dX9_score_131 : decode cX9_score 131 = .ok (.aload_n 2, 1) := by decide +kernel
theorem dX9_score_132 : decode cX9_score 132 = .ok (.iload 4, 2) := by decide +kernel
theorem dX9_score_134 : decode cX9_score 134 = .ok (.iaload, 1) := by decide +kernel
theorem dX9_score_135 : decode cX9_score 135 = .ok (.iconst 1, 1) := by decide +kernel
theorem dX9_score_136 : decode cX9_score 136 = .ok (.if_icmp .eq 6, 3) := by decide +kernel
theorem dX9_score_139 : decode cX9_score 139 = .ok (.goto 120, 3) := by decide +kernel
theorem dX9_score_142 : decode cX9_score 142 = .ok (.iload 5, 2) := by decide +kernel
theorem dX9_score_144 : decode cX9_score 144 = .ok (.ifCond .eq 30, 3) := by decide +kernel
theorem dX9_score_147 : decode cX9_score 147 = .ok (.aload_n 0, 1) := by decide +kernel
theorem dX9_score_148 : decode cX9_score 148 = .ok (.getfield 48, 3) := by decide +kernel
theorem dX9_score_151 : decode cX9_score 151 = .ok (.iload 4, 2) := by decide +kernel
theorem dX9_score_153 : decode cX9_score 153 = .ok (.invokevirtual 108, 3) := by decide +kernel
theorem dX9_score_156 : decode cX9_score 156 = .ok (.ifCond .eq 18, 3) := by decide +kernel
theorem dX9_score_159 : decode cX9_score 159 = .ok (.iload_n 3, 1) := by decide +kernel
theorem dX9_score_160 : decode cX9_score 160 = .ok (.aload_n 0, 1) := by decide +kernel
theorem dX9_score_161 : decode cX9_score 161 = .ok (.getfield 48, 3) := by decide +kernel
theorem dX9_score_164 : decode cX9_score 164 = .ok (.getfield 127, 3) := by decide +kernel
theorem dX9_score_167 : decode cX9_score 167 = .ok (.iload 4, 2) := by decide +kernel
theorem dX9_score_169 : decode cX9_score 169 = .ok (.iaload, 1) := by decide +kernel
theorem dX9_score_170 : decode cX9_score 170 = .ok (.iconst 2, 1) := by decide +kernel
theorem dX9_score_171 : decode cX9_score 171 = .ok (.idiv, 1) := by decide +kernel
theorem dX9_score_172 : decode cX9_score 172 = .ok (.iadd, 1) := by decide +kernel
theorem dX9_score_173 : decode cX9_score 173 = .ok (.istore_n 3, 1) := by decide +kernel
theorem dX9_score_174 : decode cX9_score 174 = .ok (.aload_n 0, 1) := by decide +kernel
theorem dX9_score_175 : decode cX9_score 175 = .ok (.getfield 48, 3) := by decide +kernel
theorem dX9_score_178 : decode cX9_score 178 = .ok (.getfield 124, 3) := by decide +kernel
theorem dX9_score_181 : decode cX9_score 181 = .ok (.iload 4, 2) := by decide +kernel
theorem dX9_score_183 : decode cX9_score 183 = .ok (.iaload, 1) := by decide +kernel
theorem dX9_score_184 : decode cX9_score 184 = .ok (.iconst 2, 1) := by decide +kernel
theorem dX9_score_185 : decode cX9_score 185 = .ok (.if_icmp .eq 6, 3) := by decide +kernel
theorem dX9_score_188 : decode cX9_score 188 = .ok (.goto 71, 3) := by decide +kernel
theorem dX9_score_191 : decode cX9_score 191 = .ok (.iload 5, 2) := by decide +kernel
theorem dX9_score_193 : decode cX9_score 193 = .ok (.ifCond .eq 6, 3) := by decide +kernel
theorem dX9_score_196 : decode cX9_score 196 = .ok (.iinc 3 1, 3) := by decide +kernel
theorem dX9_score_199 : decode cX9_score 199 = .ok (.aload_n 0, 1) := by decide +kernel
theorem dX9_score_200 : decode cX9_score 200 = .ok (.getfield 48, 3) := by decide +kernel
theorem dX9_score_203 : decode cX9_score 203 = .ok (.getfield 111, 3) := by decide +kernel
theorem dX9_score_206 : decode cX9_score 206 = .ok (.iload 4, 2) := by decide +kernel
theorem dX9_score_208 : decode cX9_score 208 = .ok (.iaload, 1) := by decide +kernel
theorem dX9_score_209 : decode cX9_score 209 = .ok (.istore 6, 2) := by decide +kernel
theorem dX9_score_211 : decode cX9_score 211 = .ok (.aload_n 0, 1) := by decide +kernel
theorem dX9_score_212 : decode cX9_score 212 = .ok (.getfield 48, 3) := by decide +kernel
theorem dX9_score_215 : decode cX9_score 215 = .ok (.getfield 124, 3) := by decide +kernel
theorem dX9_score_218 : decode cX9_score 218 = .ok (.iload 6, 2) := by decide +kernel
theorem dX9_score_220 : decode cX9_score 220 = .ok (.iaload, 1) := by decide +kernel
theorem dX9_score_221 : decode cX9_score 221 = .ok (.ifCond .ne 38, 3) := by decide +kernel
theorem dX9_score_224 : decode cX9_score 224 = .ok (.aload_n 0, 1) := by decide +kernel
theorem dX9_score_225 : decode cX9_score 225 = .ok (.getfield 48, 3) := by decide +kernel
theorem dX9_score_228 : decode cX9_score 228 = .ok (.getfield 121, 3) := by decide +kernel
theorem dX9_score_231 : decode cX9_score 231 = .ok (.iload 6, 2) := by decide +kernel
theorem dX9_score_233 : decode cX9_score 233 = .ok (.iaload, 1) := by decide +kernel
theorem dX9_score_234 : decode cX9_score 234 = .ok (.iload_n 1, 1) := by decide +kernel
theorem dX9_score_235 : decode cX9_score 235 = .ok (.if_icmp .ne 24, 3) := by decide +kernel
theorem dX9_score_238 : decode cX9_score 238 = .ok (.aload_n 2, 1) := by decide +kernel
theorem dX9_score_239 : decode cX9_score 239 = .ok (.iload 6, 2) := by decide +kernel
theorem dX9_score_241 : decode cX9_score 241 = .ok (.iaload, 1) := by decide +kernel
theorem dX9_score_242 : decode cX9_score 242 = .ok (.iconst 1, 1) := by decide +kernel
theorem dX9_score_243 : decode cX9_score 243 = .ok (.if_icmp .ne 16, 3) := by decide +kernel
theorem dX9_score_246 : decode cX9_score 246 = .ok (.iload_n 3, 1) := by decide +kernel
theorem dX9_score_247 : decode cX9_score 247 = .ok (.aload_n 0, 1) := by decide +kernel
theorem dX9_score_248 : decode cX9_score 248 = .ok (.getfield 48, 3) := by decide +kernel
theorem dX9_score_251 : decode cX9_score 251 = .ok (.getfield 127, 3) := by decide +kernel
theorem dX9_score_254 : decode cX9_score 254 = .ok (.iload 4, 2) := by decide +kernel
theorem dX9_score_256 : decode cX9_score 256 = .ok (.iaload, 1) := by decide +kernel
theorem dX9_score_257 : decode cX9_score 257 = .ok (.iadd, 1) := by decide +kernel
theorem dX9_score_258 : decode cX9_score 258 = .ok (.istore_n 3, 1) := by decide +kernel
theorem dX9_score_259 : decode cX9_score 259 = .ok (.iinc 4 1, 3) := by decide +kernel
theorem dX9_score_262 : decode cX9_score 262 = .ok (.goto (-246), 3) := by decide +kernel
theorem dX9_score_265 : decode cX9_score 265 = .ok (.iload_n 3, 1) := by decide +kernel
theorem dX9_score_266 : decode cX9_score 266 = .ok (.ireturn, 1) := by decide +kernel
theorem dX9_share_0 : decode cX9_share 0 = .ok (.aload_n 0, 1) := by decide +kernel
theorem dX9_share_1 : decode cX9_share 1 = .ok (.iconst 0, 1) := by decide +kernel
theorem dX9_share_2 : decode cX9_share 2 = .ok (.putfield 85, 3) := by decide +kernel
theorem dX9_share_5 : decode cX9_share 5 = .ok (.iconst 0, 1) := by decide +kernel
theorem dX9_share_6 : decode cX9_share 6 = .ok (.istore_n 1, 1) := by decide +kernel
theorem dX9_share_7 : decode cX9_share 7 = .ok (.iconst 0, 1) := by decide +kernel
theorem dX9_share_8 : decode cX9_share 8 = .ok (.istore_n 2, 1) := by decide +kernel
theorem dX9_share_9 : decode cX9_share 9 = .ok (.iconst 0, 1) := by decide +kernel
theorem dX9_share_10 : decode cX9_share 10 = .ok (.istore_n 3, 1) := by decide +kernel
theorem dX9_share_11 : decode cX9_share 11 = .ok (.iload_n 3, 1) := by decide +kernel
theorem dX9_share_12 : decode cX9_share 12 = .ok (.aload_n 0, 1) := by decide +kernel
theorem dX9_share_13 : decode cX9_share 13 = .ok (.getfield 48, 3) := by decide +kernel
theorem dX9_share_16 : decode cX9_share 16 = .ok (.getfield 95, 3) := by decide +kernel
theorem dX9_share_19 : decode cX9_share 19 = .ok (.if_icmp .ge 45, 3) := by decide +kernel
theorem dX9_share_22 : decode cX9_share 22 = .ok (.aload_n 0, 1) := by decide +kernel
theorem dX9_share_23 : decode cX9_share 23 = .ok (.getfield 48, 3) := by decide +kernel
theorem dX9_share_26 : decode cX9_share 26 = .ok (.getfield 124, 3) := by decide +kernel
theorem dX9_share_29 : decode cX9_share 29 = .ok (.iload_n 3, 1) := by decide +kernel
theorem dX9_share_30 : decode cX9_share 30 = .ok (.iaload, 1) := by decide +kernel
theorem dX9_share_31 : decode cX9_share 31 = .ok (.ifCond .eq 6, 3) := by decide +kernel
theorem dX9_share_34 : decode cX9_share 34 = .ok (.goto 24, 3) := by decide +kernel
theorem dX9_share_37 : decode cX9_share 37 = .ok (.iinc 1 1, 3) := by decide +kernel
theorem dX9_share_40 : decode cX9_share 40 = .ok (.iload_n 2, 1) := by decide +kernel
theorem dX9_share_41 : decode cX9_share 41 = .ok (.aload_n 0, 1) := by decide +kernel
theorem dX9_share_42 : decode cX9_share 42 = .ok (.getfield 55, 3) := by decide +kernel
theorem dX9_share_45 : decode cX9_share 45 = .ok (.iload_n 3, 1) := by decide +kernel
theorem dX9_share_46 : decode cX9_share 46 = .ok (.iaload, 1) := by decide +kernel
theorem dX9_share_47 : decode cX9_share 47 = .ok (.iconst 1, 1) := by decide +kernel
theorem dX9_share_48 : decode cX9_share 48 = .ok (.if_icmp .ne 7, 3) := by decide +kernel
theorem dX9_share_51 : decode cX9_share 51 = .ok (.iconst 1, 1) := by decide +kernel
theorem dX9_share_52 : decode cX9_share 52 = .ok (.goto 4, 3) := by decide +kernel
theorem dX9_share_55 : decode cX9_share 55 = .ok (.iconst 0, 1) := by decide +kernel
theorem dX9_share_56 : decode cX9_share 56 = .ok (.iadd, 1) := by decide +kernel
theorem dX9_share_57 : decode cX9_share 57 = .ok (.istore_n 2, 1) := by decide +kernel
theorem dX9_share_58 : decode cX9_share 58 = .ok (.iinc 3 1, 3) := by decide +kernel
theorem dX9_share_61 : decode cX9_share 61 = .ok (.goto (-50), 3) := by decide +kernel
theorem dX9_share_64 : decode cX9_share 64 = .ok (.iload_n 1, 1) := by decide +kernel
theorem dX9_share_65 : decode cX9_share 65 = .ok (.ifCond .ne 7, 3) := by decide +kernel
theorem dX9_share_68 : decode cX9_share 68 = .ok (.dconst 0, 1) := by decide +kernel
theorem dX9_share_69 : decode cX9_share 69 = .ok (.goto 8, 3) := by decide +kernel
theorem dX9_share_72 : decode cX9_share 72 = .ok (.iload_n 2, 1) := by decide +kernel
theorem dX9_share_73 : decode cX9_share 73 = .ok (.i2d, 1) := by decide +kernel
theorem dX9_share_74 : decode cX9_share 74 = .ok (.iload_n 1, 1) := by decide +kernel
theorem dX9_share_75 : decode cX9_share 75 = .ok (.i2d, 1) := by decide +kernel
theorem dX9_share_76 : decode cX9_share 76 = .ok (.ddiv, 1) := by decide +kernel
theorem dX9_share_77 : decode cX9_share 77 = .ok (.dreturn, 1) := by decide +kernel
theorem dX9_sheet_0 : decode cX9_sheet 0 = .ok (.aload_n 0, 1) := by decide +kernel
theorem dX9_sheet_1 : decode cX9_sheet 1 = .ok (.iconst 0, 1) := by decide +kernel
theorem dX9_sheet_2 : decode cX9_sheet 2 = .ok (.putfield 85, 3) := by decide +kernel
theorem dX9_sheet_5 : decode cX9_sheet 5 = .ok (.aload_n 0, 1) := by decide +kernel
theorem dX9_sheet_6 : decode cX9_sheet 6 = .ok (.iconst 0, 1) := by decide +kernel
theorem dX9_sheet_7 : decode cX9_sheet 7 = .ok (.putfield 331, 3) := by decide +kernel
theorem dX9_sheet_10 : decode cX9_sheet 10 = .ok (.iconst 0, 1) := by decide +kernel
theorem dX9_sheet_11 : decode cX9_sheet 11 = .ok (.istore_n 1, 1) := by decide +kernel
theorem dX9_sheet_12 : decode cX9_sheet 12 = .ok (.iload_n 1, 1) := by decide +kernel
theorem dX9_sheet_13 : decode cX9_sheet 13 = .ok (.aload_n 0, 1) := by decide +kernel
theorem dX9_sheet_14 : decode cX9_sheet 14 = .ok (.getfield 48, 3) := by decide +kernel
theorem dX9_sheet_17 : decode cX9_sheet 17 = .ok (.getfield 95, 3) := by decide +kernel
theorem dX9_sheet_20 : decode cX9_sheet 20 = .ok (.if_icmp .ge 100, 3) := by decide +kernel
theorem dX9_sheet_23 : decode cX9_sheet 23 = .ok (.aload_n 0, 1) := by decide +kernel
theorem dX9_sheet_24 : decode cX9_sheet 24 = .ok (.aload_n 0, 1) := by decide +kernel
theorem dX9_sheet_25 : decode cX9_sheet 25 = .ok (.getfield 48, 3) := by decide +kernel
theorem dX9_sheet_28 : decode cX9_sheet 28 = .ok (.getfield 378, 3) := by decide +kernel
theorem dX9_sheet_31 : decode cX9_sheet 31 = .ok (.iload_n 1, 1) := by decide +kernel
theorem dX9_sheet_32 : decode cX9_sheet 32 = .ok (.laload, 1) := by decide +kernel
theorem dX9_sheet_33 : decode cX9_sheet 33 = .ok (.invokevirtual 380, 3) := by decide +kernel
theorem dX9_sheet_36 : decode cX9_sheet 36 = .ok (.aload_n 0, 1) := by decide +kernel
theorem dX9_sheet_37 : decode cX9_sheet 37 = .ok (.bipush 32, 2) := by decide +kernel
theorem dX9_sheet_39 : decode cX9_sheet 39 = .ok (.invokevirtual 374, 3) := by decide +kernel
theorem dX9_sheet_42 : decode cX9_sheet 42 = .ok (.aload_n 0, 1) := by decide +kernel
theorem dX9_sheet_43 : decode cX9_sheet 43 = .ok (.aload_n 0, 1) := by decide +kernel
theorem dX9_sheet_44 : decode cX9_sheet 44 = .ok (.getfield 48, 3) := by decide +kernel
theorem dX9_sheet_47 : decode cX9_sheet 47 = .ok (.getfield 264, 3) := by decide +kernel
theorem dX9_sheet_50 : decode cX9_sheet 50 = .ok (.aload_n 0, 1) := by decide +kernel
theorem dX9_sheet_51 : decode cX9_sheet 51 = .ok (.getfield 48, 3) := by decide +kernel
theorem dX9_sheet_54 : decode cX9_sheet 54 = .ok (.getfield 121, 3) := by decide +kernel
theorem dX9_sheet_57 : decode cX9_sheet 57 = .ok (.iload_n 1, 1) := by decide +kernel
theorem dX9_sheet_58 : decode cX9_sheet 58 = .ok (.iaload, 1) := by decide +kernel
theorem dX9_sheet_59 : decode cX9_sheet 59 = .ok (.laload, 1) := by decide +kernel
theorem dX9_sheet_60 : decode cX9_sheet 60 = .ok (.invokevirtual 380, 3) := by decide +kernel
theorem dX9_sheet_63 : decode cX9_sheet 63 = .ok (.aload_n 0, 1) := by decide +kernel
theorem dX9_sheet_64 : decode cX9_sheet 64 = .ok (.bipush 32, 2) := by decide +kernel
theorem dX9_sheet_66 : decode cX9_sheet 66 = .ok (.invokevirtual 374, 3) := by decide +kernel
theorem dX9_sheet_69 : decode cX9_sheet 69 = .ok (.aload_n 0, 1) := by decide +kernel
theorem dX9_sheet_70 : decode cX9_sheet 70 = .ok (.aload_n 0, 1) := by decide +kernel
theorem dX9_sheet_71 : decode cX9_sheet 71 = .ok (.getfield 55, 3) := by decide +kernel
theorem dX9_sheet_74 : decode cX9_sheet 74 = .ok (.iload_n 1, 1) := by decide +kernel
theorem dX9_sheet_75 : decode cX9_sheet 75 = .ok (.iaload, 1) := by decide +kernel
theorem dX9_sheet_76 : decode cX9_sheet 76 = .ok (.iconst 1, 1) := by decide +kernel
theorem dX9_sheet_77 : decode cX9_sheet 77 = .ok (.if_icmp .ne 8, 3) := by decide +kernel
theorem dX9_sheet_80 : decode cX9_sheet 80 = .ok (.ldc 245, 2) := by decide +kernel
theorem dX9_sheet_82 : decode cX9_sheet 82 = .ok (.goto 20, 3) := by decide +kernel
theorem dX9_sheet_85 : decode cX9_sheet 85 = .ok (.aload_n 0, 1) := by decide +kernel
theorem dX9_sheet_86 : decode cX9_sheet 86 = .ok (.getfield 55, 3) := by decide +kernel
theorem dX9_sheet_89 : decode cX9_sheet 89 = .ok (.iload_n 1, 1) := by decide +kernel
theorem dX9_sheet_90 : decode cX9_sheet 90 = .ok (.iaload, 1) := by decide +kernel
theorem dX9_sheet_91 : decode cX9_sheet 91 = .ok (.iconst 2, 1) := by decide +kernel
theorem dX9_sheet_92 : decode cX9_sheet 92 = .ok (.if_icmp .ne 8, 3) := by decide +kernel
theorem dX9_sheet_95 : decode cX9_sheet 95 = .ok (.ldc 247, 2) := by decide +kernel
theorem dX9_sheet_97 : decode cX9_sheet 97 = .ok (.goto 5, 3) := by decide +kernel
theorem dX9_sheet_100 : decode cX9_sheet 100 = .ok (.ldc 249, 2) := by decide +kernel
theorem dX9_sheet_102 : decode cX9_sheet 102 = .ok (.invokestatic 171, 3) := by decide +kernel
theorem dX9_sheet_105 : decode cX9_sheet 105 = .ok (.invokevirtual 380, 3) := by decide +kernel
theorem dX9_sheet_108 : decode cX9_sheet 108 = .ok (.aload_n 0, 1) := by decide +kernel
theorem dX9_sheet_109 : decode cX9_sheet 109 = .ok (.bipush 10, 2) := by decide +kernel
theorem dX9_sheet_111 : decode cX9_sheet 111 = .ok (.invokevirtual 374, 3) := by decide +kernel
theorem dX9_sheet_114 : decode cX9_sheet 114 = .ok (.iinc 1 1, 3) := by decide +kernel
theorem dX9_sheet_117 : decode cX9_sheet 117 = .ok (.goto (-105), 3) := by decide +kernel
theorem dX9_sheet_120 : decode cX9_sheet 120 = .ok (.aload_n 0, 1) := by decide +kernel
theorem dX9_sheet_121 : decode cX9_sheet 121 = .ok (.getfield 331, 3) := by decide +kernel
theorem dX9_sheet_124 : decode cX9_sheet 124 = .ok (.ireturn, 1) := by decide +kernel
theorem dX9_single_0 : decode cX9_single 0 = .ok (.aload_n 0, 1) := by decide +kernel
theorem dX9_single_1 : decode cX9_single 1 = .ok (.ldc 239, 2) := by decide +kernel
theorem dX9_single_3 : decode cX9_single 3 = .ok (.invokevirtual 175, 3) := by decide +kernel
theorem dX9_single_6 : decode cX9_single 6 = .ok (.ifCond .ne 12, 3) := by decide +kernel
theorem dX9_single_9 : decode cX9_single 9 = .ok (.aload_n 0, 1) := by decide +kernel
theorem dX9_single_10 : decode cX9_single 10 = .ok (.bipush 91, 2) := by decide +kernel
theorem dX9_single_12 : decode cX9_single 12 = .ok (.invokevirtual 241, 3) := by decide +kernel
theorem dX9_single_15 : decode cX9_single 15 = .ok (.ifCond .eq 71, 3) := by decide +kernel
theorem dX9_single_18 : decode cX9_single 18 = .ok (.iload_n 1, 1) := by decide +kernel
theorem dX9_single_19 : decode cX9_single 19 = .ok (.bipush 6, 2) := by decide +kernel
theorem dX9_single_21 : decode cX9_single 21 = .ok (.if_icmp .ne 5, 3) := by decide +kernel
theorem dX9_single_24 : decode cX9_single 24 = .ok (.iconst 0, 1) := by decide +kernel
theorem dX9_single_25 : decode cX9_single 25 = .ok (.ireturn, 1) := by decide +kernel
theorem dX9_single_26 : decode cX9_single 26 = .ok (.aload_n 0, 1) := by decide +kernel
theorem dX9_single_27 : decode cX9_single 27 = .ok (.ldc 239, 2) := by decide +kernel
theorem dX9_single_29 : decode cX9_single 29 = .ok (.invokevirtual 175, 3) := by decide +kernel
theorem dX9_single_32 : decode cX9_single 32 = .ok (.istore_n 2, 1) := by decide +kernel
theorem dX9_single_33 : decode cX9_single 33 = .ok (.aload_n 0, 1) := by decide +kernel
theorem dX9_single_34 : decode cX9_single 34 = .ok (.dup, 1) := by decide +kernel
theorem dX9_single_35 : decode cX9_single 35 = .ok (.getfield 168, 3) := by decide +kernel
theorem dX9_single_38 : decode cX9_single 38 = .ok (.iconst 1, 1) := by decide +kernel
theorem dX9_single_39 : decode cX9_single 39 = .ok (.iadd, 1) := by decide +kernel
theorem dX9_single_40 : decode cX9_single 40 = .ok (.putfield 168, 3) := by decide +kernel
theorem dX9_single_43 : decode cX9_single 43 = .ok (.iload_n 2, 1) := by decide +kernel
theorem dX9_single_44 : decode cX9_single 44 = .ok (.ifCond .eq 13, 3) := by decide +kernel
theorem dX9_single_47 : decode cX9_single 47 = .ok (.aload_n 0, 1) := by decide +kernel
theorem dX9_single_48 : decode cX9_single 48 = .ok (.iload_n 1, 1) := by decide +kernel
theorem dX9_single_49 : decode cX9_single 49 = .ok (.iconst 1, 1) := by decide +kernel
theorem dX9_single_50 : decode cX9_single 50 = .ok (.iadd, 1) := by decide +kernel
theorem dX9_single_51 : decode cX9_single 51 = .ok (.invokevirtual 234, 3) := by decide +kernel
theorem dX9_single_54 : decode cX9_single 54 = .ok (.goto 31, 3) := by decide +kernel
theorem dX9_single_57 : decode cX9_single 57 = .ok (.aload_n 0, 1) := by decide +kernel
theorem dX9_single_58 : decode cX9_single 58 = .ok (.iload_n 1, 1) := by decide +kernel
theorem dX9_single_59 : decode cX9_single 59 = .ok (.iconst 1, 1) := by decide +kernel
theorem dX9_single_60 : decode cX9_single 60 = .ok (.iadd, 1) := by decide +kernel
theorem dX9_single_61 : decode cX9_single 61 = .ok (.invokevirtual 226, 3) := by decide +kernel
theorem dX9_single_64 : decode cX9_single 64 = .ok (.ifCond .eq 20, 3) := by decide +kernel
theorem dX9_single_67 : decode cX9_single 67 = .ok (.aload_n 0, 1) := by decide +kernel
theorem dX9_single_68 : decode cX9_single 68 = .ok (.aload_n 0, 1) := by decide +kernel
theorem dX9_single_69 : decode cX9_single 69 = .ok (.bipush 93, 2) := by decide +kernel
theorem dX9_single_71 : decode cX9_single 71 = .ok (.invokevirtual 241, 3) := by decide +kernel
theorem dX9_single_74 : decode cX9_single 74 = .ok (.invokevirtual 179, 3) := by decide +kernel
theorem dX9_single_77 : decode cX9_single 77 = .ok (.ifCond .eq 7, 3) := by decide +kernel
theorem dX9_single_80 : decode cX9_single 80 = .ok (.iconst 1, 1) := by decide +kernel
theorem dX9_single_81 : decode cX9_single 81 = .ok (.goto 4, 3) := by decide +kernel
theorem dX9_single_84 : decode cX9_single 84 = .ok (.iconst 0, 1) := by decide +kernel
theorem dX9_single_85 : decode cX9_single 85 = .ok (.ireturn, 1) := by decide +kernel
theorem dX9_single_86 : decode cX9_single 86 = .ok (.aload_n 0, 1) := by decide +kernel
theorem dX9_single_87 : decode cX9_single 87 = .ok (.ldc 245, 2) := by decide +kernel
theorem dX9_single_89 : decode cX9_single 89 = .ok (.invokevirtual 189, 3) := by decide +kernel
theorem dX9_single_92 : decode cX9_single 92 = .ok (.ifCond .ne 30, 3) := by decide +kernel
theorem dX9_single_95 : decode cX9_single 95 = .ok (.aload_n 0, 1) := by decide +kernel
theorem dX9_single_96 : decode cX9_single 96 = .ok (.ldc 247, 2) := by decide +kernel
theorem dX9_single_98 : decode cX9_single 98 = .ok (.invokevirtual 189, 3) := by decide +kernel
theorem dX9_single_101 : decode cX9_single 101 = .ok (.ifCond .ne 21, 3) := by decide +kernel
theorem dX9_single_104 : decode cX9_single 104 = .ok (.aload_n 0, 1) := by decide +kernel
theorem dX9_single_105 : decode cX9_single 105 = .ok (.ldc 249, 2) := by decide +kernel
theorem dX9_single_107 : decode cX9_single 107 = .ok (.invokevirtual 189, 3) := by decide +kernel
theorem dX9_single_110 : decode cX9_single 110 = .ok (.ifCond .ne 12, 3) := by decide +kernel
theorem dX9_single_113 : decode cX9_single 113 = .ok (.aload_n 0, 1) := by decide +kernel
theorem dX9_single_114 : decode cX9_single 114 = .ok (.ldc 251, 2) := by decide +kernel
theorem dX9_single_116 : decode cX9_single 116 = .ok (.invokevirtual 189, 3) := by decide +kernel
theorem dX9_single_119 : decode cX9_single 119 = .ok (.ifCond .eq 14, 3) := by decide +kernel
theorem dX9_single_122 : decode cX9_single 122 = .ok (.aload_n 0, 1) := by decide +kernel
theorem dX9_single_123 : decode cX9_single 123 = .ok (.invokevirtual 192, 3) := by decide +kernel
theorem dX9_single_126 : decode cX9_single 126 = .ok (.ifCond .eq 7, 3) := by decide +kernel
theorem dX9_single_129 : decode cX9_single 129 = .ok (.iconst 1, 1) := by decide +kernel
theorem dX9_single_130 : decode cX9_single 130 = .ok (.goto 4, 3) := by decide +kernel
theorem dX9_single_133 : decode cX9_single 133 = .ok (.iconst 0, 1) := by decide +kernel
theorem dX9_single_134 : decode cX9_single 134 = .ok (.ireturn, 1) := by decide +kernel
theorem dX9_singleHolds_0 : decode cX9_singleHolds 0 = .ok (.aload_n 0, 1) := by decide +kernel
theorem dX9_singleHolds_1 : decode cX9_singleHolds 1 = .ok (.ldc 239, 2) := by decide +kernel
theorem dX9_singleHolds_3 : decode cX9_singleHolds 3 = .ok (.invokevirtual 189, 3) := by decide +kernel
theorem dX9_singleHolds_6 : decode cX9_singleHolds 6 = .ok (.ifCond .eq 16, 3) := by decide +kernel
theorem dX9_singleHolds_9 : decode cX9_singleHolds 9 = .ok (.aload_n 0, 1) := by decide +kernel
theorem dX9_singleHolds_10 : decode cX9_singleHolds 10 = .ok (.invokevirtual 297, 3) := by decide +kernel
theorem dX9_singleHolds_13 : decode cX9_singleHolds 13 = .ok (.ifCond .ne 7, 3) := by decide +kernel
theorem dX9_singleHolds_16 : decode cX9_singleHolds 16 = .ok (.iconst 1, 1) := by decide +kernel
theorem dX9_singleHolds_17 : decode cX9_singleHolds 17 = .ok (.goto 4, 3) := by decide +kernel
theorem dX9_singleHolds_20 : decode cX9_singleHolds 20 = .ok (.iconst 0, 1) := by decide +kernel
theorem dX9_singleHolds_21 : decode cX9_singleHolds 21 = .ok (.ireturn, 1) := by decide +kernel
theorem dX9_singleHolds_22 : decode cX9_singleHolds 22 = .ok (.aload_n 0, 1) := by decide +kernel
theorem dX9_singleHolds_23 : decode cX9_singleHolds 23 = .ok (.aload_n 0, 1) := by decide +kernel
theorem dX9_singleHolds_24 : decode cX9_singleHolds 24 = .ok (.bipush 91, 2) := by decide +kernel
theorem dX9_singleHolds_26 : decode cX9_singleHolds 26 = .ok (.invokevirtual 241, 3) := by decide +kernel
theorem dX9_singleHolds_29 : decode cX9_singleHolds 29 = .ok (.invokevirtual 179, 3) := by decide +kernel
theorem dX9_singleHolds_32 : decode cX9_singleHolds 32 = .ok (.ifCond .eq 20, 3) := by decide +kernel
theorem dX9_singleHolds_35 : decode cX9_singleHolds 35 = .ok (.aload_n 0, 1) := by decide +kernel
theorem dX9_singleHolds_36 : decode cX9_singleHolds 36 = .ok (.invokevirtual 291, 3) := by decide +kernel
theorem dX9_singleHolds_39 : decode cX9_singleHolds 39 = .ok (.istore_n 1, 1) := by decide +kernel
theorem dX9_singleHolds_40 : decode cX9_singleHolds 40 = .ok (.aload_n 0, 1) := by decide +kernel
theorem dX9_singleHolds_41 : decode cX9_singleHolds 41 = .ok (.dup, 1) := by decide +kernel
theorem dX9_singleHolds_42 : decode cX9_singleHolds 42 = .ok (.getfield 168, 3) := by decide +kernel
theorem dX9_singleHolds_45 : decode cX9_singleHolds 45 = .ok (.iconst 1, 1) := by decide +kernel
theorem dX9_singleHolds_46 : decode cX9_singleHolds 46 = .ok (.iadd, 1) := by decide +kernel
theorem dX9_singleHolds_47 : decode cX9_singleHolds 47 = .ok (.putfield 168, 3) := by decide +kernel
theorem dX9_singleHolds_50 : decode cX9_singleHolds 50 = .ok (.iload_n 1, 1) := by decide +kernel
theorem dX9_singleHolds_51 : decode cX9_singleHolds 51 = .ok (.ireturn, 1) := by decide +kernel
theorem dX9_singleHolds_52 : decode cX9_singleHolds 52 = .ok (.aload_n 0, 1) := by decide +kernel
theorem dX9_singleHolds_53 : decode cX9_singleHolds 53 = .ok (.ldc 251, 2) := by decide +kernel
theorem dX9_singleHolds_55 : decode cX9_singleHolds 55 = .ok (.invokevirtual 175, 3) := by decide +kernel
theorem dX9_singleHolds_58 : decode cX9_singleHolds 58 = .ok (.istore_n 1, 1) := by decide +kernel
theorem dX9_singleHolds_59 : decode cX9_singleHolds 59 = .ok (.aload_n 0, 1) := by decide +kernel
theorem dX9_singleHolds_60 : decode cX9_singleHolds 60 = .ok (.ldc 245, 2) := by decide +kernel
theorem dX9_singleHolds_62 : decode cX9_singleHolds 62 = .ok (.invokevirtual 175, 3) := by decide +kernel
theorem dX9_singleHolds_65 : decode cX9_singleHolds 65 = .ok (.ifCond .eq 7, 3) := by decide +kernel
theorem dX9_singleHolds_68 : decode cX9_singleHolds 68 = .ok (.iconst 1, 1) := by decide +kernel
theorem dX9_singleHolds_69 : decode cX9_singleHolds 69 = .ok (.goto 17, 3) := by decide +kernel
theorem dX9_singleHolds_72 : decode cX9_singleHolds 72 = .ok (.aload_n 0, 1) := by decide +kernel
theorem dX9_singleHolds_73 : decode cX9_singleHolds 73 = .ok (.ldc 247, 2) := by decide +kernel
theorem dX9_singleHolds_75 : decode cX9_singleHolds 75 = .ok (.invokevirtual 175, 3) := by decide +kernel
theorem dX9_singleHolds_78 : decode cX9_singleHolds 78 = .ok (.ifCond .eq 7, 3) := by decide +kernel
theorem dX9_singleHolds_81 : decode cX9_singleHolds 81 = .ok (.iconst 2, 1) := by decide +kernel
theorem dX9_singleHolds_82 : decode cX9_singleHolds 82 = .ok (.goto 4, 3) := by decide +kernel
theorem dX9_singleHolds_85 : decode cX9_singleHolds 85 = .ok (.iconst 0, 1) := by decide +kernel
theorem dX9_singleHolds_86 : decode cX9_singleHolds 86 = .ok (.istore_n 2, 1) := by decide +kernel
theorem dX9_singleHolds_87 : decode cX9_singleHolds 87 = .ok (.aload_n 0, 1) := by decide +kernel
theorem dX9_singleHolds_88 : decode cX9_singleHolds 88 = .ok (.getfield 48, 3) := by decide +kernel
theorem dX9_singleHolds_91 : decode cX9_singleHolds 91 = .ok (.aload_n 0, 1) := by decide +kernel
theorem dX9_singleHolds_92 : decode cX9_singleHolds 92 = .ok (.getfield 40, 3) := by decide +kernel
theorem dX9_singleHolds_95 : decode cX9_singleHolds 95 = .ok (.aload_n 0, 1) := by decide +kernel
theorem dX9_singleHolds_96 : decode cX9_singleHolds 96 = .ok (.getfield 168, 3) := by decide +kernel
theorem dX9_singleHolds_99 : decode cX9_singleHolds 99 = .ok (.iconst 1, 1) := by decide +kernel
theorem dX9_singleHolds_100 : decode cX9_singleHolds 100 = .ok (.iadd, 1) := by decide +kernel
theorem dX9_singleHolds_101 : decode cX9_singleHolds 101 = .ok (.laload, 1) := by decide +kernel
theorem dX9_singleHolds_102 : decode cX9_singleHolds 102 = .ok (.invokevirtual 266, 3) := by decide +kernel
theorem dX9_singleHolds_105 : decode cX9_singleHolds 105 = .ok (.istore_n 3, 1) := by decide +kernel
theorem dX9_singleHolds_106 : decode cX9_singleHolds 106 = .ok (.aload_n 0, 1) := by decide +kernel
theorem dX9_singleHolds_107 : decode cX9_singleHolds 107 = .ok (.dup, 1) := by decide +kernel
theorem dX9_singleHolds_108 : decode cX9_singleHolds 108 = .ok (.getfield 168, 3) := by decide +kernel
theorem dX9_singleHolds_111 : decode cX9_singleHolds 111 = .ok (.iconst 2, 1) := by decide +kernel
theorem dX9_singleHolds_112 : decode cX9_singleHolds 112 = .ok (.iadd, 1) := by decide +kernel
theorem dX9_singleHolds_113 : decode cX9_singleHolds 113 = .ok (.putfield 168, 3) := by decide +kernel
theorem dX9_singleHolds_116 : decode cX9_singleHolds 116 = .ok (.iload_n 1, 1) := by decide +kernel
theorem dX9_singleHolds_117 : decode cX9_singleHolds 117 = .ok (.ifCond .eq 24, 3) := by decide +kernel
theorem dX9_singleHolds_120 : decode cX9_singleHolds 120 = .ok (.aload_n 0, 1) := by decide +kernel
theorem dX9_singleHolds_121 : decode cX9_singleHolds 121 = .ok (.getfield 48, 3) := by decide +kernel
theorem dX9_singleHolds_124 : decode cX9_singleHolds 124 = .ok (.getfield 98, 3) := by decide +kernel
theorem dX9_singleHolds_127 : decode cX9_singleHolds 127 = .ok (.iload_n 3, 1) := by decide +kernel
theorem dX9_singleHolds_128 : decode cX9_singleHolds 128 = .ok (.iaload, 1) := by decide +kernel
theorem dX9_singleHolds_129 : decode cX9_singleHolds 129 = .ok (.iconst 1, 1) := by decide +kernel
theorem dX9_singleHolds_130 : decode cX9_singleHolds 130 = .ok (.if_icmp .ne 7, 3) := by decide +kernel
theorem dX9_singleHolds_133 : decode cX9_singleHolds 133 = .ok (.iconst 1, 1) := by decide +kernel
theorem dX9_singleHolds_134 : decode cX9_singleHolds 134 = .ok (.goto 22, 3) := by decide +kernel
theorem dX9_singleHolds_137 : decode cX9_singleHolds 137 = .ok (.iconst 0, 1) := by decide +kernel
theorem dX9_singleHolds_138 : decode cX9_singleHolds 138 = .ok (.goto 18, 3) := by decide +kernel
theorem dX9_singleHolds_141 : decode cX9_singleHolds 141 = .ok (.aload_n 0, 1) := by decide +kernel
theorem dX9_singleHolds_142 : decode cX9_singleHolds 142 = .ok (.getfield 61, 3) := by decide +kernel
theorem dX9_singleHolds_145 : decode cX9_singleHolds 145 = .ok (.iload_n 3, 1) := by decide +kernel
theorem dX9_singleHolds_146 : decode cX9_singleHolds 146 = .ok (.iaload, 1) := by decide +kernel
theorem dX9_singleHolds_147 : decode cX9_singleHolds 147 = .ok (.iload_n 2, 1) := by decide +kernel
theorem dX9_singleHolds_148 : decode cX9_singleHolds 148 = .ok (.if_icmp .ne 7, 3) := by decide +kernel
theorem dX9_singleHolds_151 : decode cX9_singleHolds 151 = .ok (.iconst 1, 1) := by decide +kernel
theorem dX9_singleHolds_152 : decode cX9_singleHolds 152 = .ok (.goto 4, 3) := by decide +kernel
theorem dX9_singleHolds_155 : decode cX9_singleHolds 155 = .ok (.iconst 0, 1) := by decide +kernel
theorem dX9_singleHolds_156 : decode cX9_singleHolds 156 = .ok (.ireturn, 1) := by decide +kernel
theorem dX9_sized_0 : decode cX9_sized 0 = .ok (.aload_n 0, 1) := by decide +kernel
theorem dX9_sized_1 : decode cX9_sized 1 = .ok (.aload_n 1, 1) := by decide +kernel
theorem dX9_sized_2 : decode cX9_sized 2 = .ok (.invokevirtual 189, 3) := by decide +kernel
theorem dX9_sized_5 : decode cX9_sized 5 = .ok (.ifCond .ne 5, 3) := by decide +kernel
theorem dX9_sized_8 : decode cX9_sized 8 = .ok (.iload_n 2, 1) := by decide +kernel
theorem dX9_sized_9 : decode cX9_sized 9 = .ok (.ireturn, 1) := by decide +kernel
theorem dX9_sized_10 : decode cX9_sized 10 = .ok (.aload_n 0, 1) := by decide +kernel
theorem dX9_sized_11 : decode cX9_sized 11 = .ok (.getfield 40, 3) := by decide +kernel
theorem dX9_sized_14 : decode cX9_sized 14 = .ok (.aload_n 0, 1) := by decide +kernel
theorem dX9_sized_15 : decode cX9_sized 15 = .ok (.getfield 168, 3) := by decide +kernel
theorem dX9_sized_18 : decode cX9_sized 18 = .ok (.laload, 1) := by decide +kernel
theorem dX9_sized_19 : decode cX9_sized 19 = .ok (.l2i, 1) := by decide +kernel
theorem dX9_sized_20 : decode cX9_sized 20 = .ok (.iconst 1, 1) := by decide +kernel
theorem dX9_sized_21 : decode cX9_sized 21 = .ok (.bipush 50, 2) := by decide +kernel
theorem dX9_sized_23 : decode cX9_sized 23 = .ok (.invokestatic 91, 3) := by decide +kernel
theorem dX9_sized_26 : decode cX9_sized 26 = .ok (.ifCond .ne 5, 3) := by decide +kernel
theorem dX9_sized_29 : decode cX9_sized 29 = .ok (.iconst 0, 1) := by decide +kernel
theorem dX9_sized_30 : decode cX9_sized 30 = .ok (.ireturn, 1) := by decide +kernel
theorem dX9_sized_31 : decode cX9_sized 31 = .ok (.aload_n 0, 1) := by decide +kernel
theorem dX9_sized_32 : decode cX9_sized 32 = .ok (.dup, 1) := by decide +kernel
theorem dX9_sized_33 : decode cX9_sized 33 = .ok (.getfield 168, 3) := by decide +kernel
theorem dX9_sized_36 : decode cX9_sized 36 = .ok (.iconst 1, 1) := by decide +kernel
theorem dX9_sized_37 : decode cX9_sized 37 = .ok (.iadd, 1) := by decide +kernel
theorem dX9_sized_38 : decode cX9_sized 38 = .ok (.putfield 168, 3) := by decide +kernel
theorem dX9_sized_41 : decode cX9_sized 41 = .ok (.aload_n 0, 1) := by decide +kernel
theorem dX9_sized_42 : decode cX9_sized 42 = .ok (.getfield 40, 3) := by decide +kernel
theorem dX9_sized_45 : decode cX9_sized 45 = .ok (.aload_n 0, 1) := by decide +kernel
theorem dX9_sized_46 : decode cX9_sized 46 = .ok (.getfield 168, 3) := by decide +kernel
theorem dX9_sized_49 : decode cX9_sized 49 = .ok (.iconst 1, 1) := by decide +kernel
theorem dX9_sized_50 : decode cX9_sized 50 = .ok (.isub, 1) := by decide +kernel
theorem dX9_sized_51 : decode cX9_sized 51 = .ok (.laload, 1) := by decide +kernel
theorem dX9_sized_52 : decode cX9_sized 52 = .ok (.l2i, 1) := by decide +kernel
theorem dX9_sized_53 : decode cX9_sized 53 = .ok (.ireturn, 1) := by decide +kernel
theorem dX9_speaker_0 : decode cX9_speaker 0 = .ok (.aload_n 0, 1) := by decide +kernel
theorem dX9_speaker_1 : decode cX9_speaker 1 = .ok (.iconst 0, 1) := by decide +kernel
theorem dX9_speaker_2 : decode cX9_speaker 2 = .ok (.putfield 85, 3) := by decide +kernel
theorem dX9_speaker_5 : decode cX9_speaker 5 = .ok (.aload_n 0, 1) := by decide +kernel
theorem dX9_speaker_6 : decode cX9_speaker 6 = .ok (.iload_n 1, 1) := by decide +kernel
theorem dX9_speaker_7 : decode cX9_speaker 7 = .ok (.invokevirtual 340, 3) := by decide +kernel
theorem dX9_speaker_10 : decode cX9_speaker 10 = .ok (.ifCond .eq 22, 3) := by decide +kernel
theorem dX9_speaker_13 : decode cX9_speaker 13 = .ok (.iload_n 2, 1) := by decide +kernel
theorem dX9_speaker_14 : decode cX9_speaker 14 = .ok (.iconst 0, 1) := by decide +kernel
theorem dX9_speaker_15 : decode cX9_speaker 15 = .ok (.bipush 6, 2) := by decide +kernel
theorem dX9_speaker_17 : decode cX9_speaker 17 = .ok (.invokestatic 91, 3) := by decide +kernel
theorem dX9_speaker_20 : decode cX9_speaker 20 = .ok (.ifCond .eq 12, 3) := by decide +kernel
theorem dX9_speaker_23 : decode cX9_speaker 23 = .ok (.aload_n 0, 1) := by decide +kernel
theorem dX9_speaker_24 : decode cX9_speaker 24 = .ok (.iload_n 1, 1) := by decide +kernel
theorem dX9_speaker_25 : decode cX9_speaker 25 = .ok (.iload_n 2, 1) := by decide +kernel
theorem dX9_speaker_26 : decode cX9_speaker 26 = .ok (.invokevirtual 343, 3) := by decide +kernel
theorem dX9_speaker_29 : decode cX9_speaker 29 = .ok (.goto 8, 3) := by decide +kernel
theorem dX9_speaker_32 : decode cX9_speaker 32 = .ok (.aload_n 0, 1) := by decide +kernel
theorem dX9_speaker_33 : decode cX9_speaker 33 = .ok (.iconst 1, 1) := by decide +kernel
theorem dX9_speaker_34 : decode cX9_speaker 34 = .ok (.invokevirtual 312, 3) := by decide +kernel
theorem dX9_speaker_37 : decode cX9_speaker 37 = .ok (.ireturn, 1) := by decide +kernel
theorem dX9_speakerLine_0 : decode cX9_speakerLine 0 = .ok (.aload_n 0, 1) := by decide +kernel
theorem dX9_speakerLine_1 : decode cX9_speakerLine 1 = .ok (.getfield 168, 3) := by decide +kernel
theorem dX9_speakerLine_4 : decode cX9_speakerLine 4 = .ok (.iconst 1, 1) := by decide +kernel
theorem dX9_speakerLine_5 : decode cX9_speakerLine 5 = .ok (.iadd, 1) := by decide +kernel
theorem dX9_speakerLine_6 : decode cX9_speakerLine 6 = .ok (.istore_n 1, 1) := by decide +kernel
theorem dX9_speakerLine_7 : decode cX9_speakerLine 7 = .ok (.aload_n 0, 1) := by decide +kernel
theorem dX9_speakerLine_8 : decode cX9_speakerLine 8 = .ok (.dup, 1) := by decide +kernel
theorem dX9_speakerLine_9 : decode cX9_speakerLine 9 = .ok (.getfield 168, 3) := by decide +kernel
theorem dX9_speakerLine_12 : decode cX9_speakerLine 12 = .ok (.iconst 2, 1) := by decide +kernel
theorem dX9_speakerLine_13 : decode cX9_speakerLine 13 = .ok (.iadd, 1) := by decide +kernel
theorem dX9_speakerLine_14 : decode cX9_speakerLine 14 = .ok (.putfield 168, 3) := by decide +kernel
theorem dX9_speakerLine_17 : decode cX9_speakerLine 17 = .ok (.aload_n 0, 1) := by decide +kernel
theorem dX9_speakerLine_18 : decode cX9_speakerLine 18 = .ok (.getfield 48, 3) := by decide +kernel
theorem dX9_speakerLine_21 : decode cX9_speakerLine 21 = .ok (.aload_n 0, 1) := by decide +kernel
theorem dX9_speakerLine_22 : decode cX9_speakerLine 22 = .ok (.getfield 40, 3) := by decide +kernel
theorem dX9_speakerLine_25 : decode cX9_speakerLine 25 = .ok (.iload_n 1, 1) := by decide +kernel
theorem dX9_speakerLine_26 : decode cX9_speakerLine 26 = .ok (.laload, 1) := by decide +kernel
theorem dX9_speakerLine_27 : decode cX9_speakerLine 27 = .ok (.invokevirtual 258, 3) := by decide +kernel
theorem dX9_speakerLine_30 : decode cX9_speakerLine 30 = .ok (.iconst (-1), 1) := by decide +kernel
theorem dX9_speakerLine_31 : decode cX9_speakerLine 31 = .ok (.if_icmp .eq 10, 3) := by decide +kernel
theorem dX9_speakerLine_34 : decode cX9_speakerLine 34 = .ok (.aload_n 0, 1) := by decide +kernel
theorem dX9_speakerLine_35 : decode cX9_speakerLine 35 = .ok (.iconst 2, 1) := by decide +kernel
theorem dX9_speakerLine_36 : decode cX9_speakerLine 36 = .ok (.iload_n 1, 1) := by decide +kernel
theorem dX9_speakerLine_37 : decode cX9_speakerLine 37 = .ok (.invokevirtual 255, 3) := by decide +kernel
theorem dX9_speakerLine_40 : decode cX9_speakerLine 40 = .ok (.ireturn, 1) := by decide +kernel
theorem dX9_speakerLine_41 : decode cX9_speakerLine 41 = .ok (.aload_n 0, 1) := by decide +kernel
theorem dX9_speakerLine_42 : decode cX9_speakerLine 42 = .ok (.getfield 48, 3) := by decide +kernel
theorem dX9_speakerLine_45 : decode cX9_speakerLine 45 = .ok (.getfield 88, 3) := by decide +kernel
theorem dX9_speakerLine_48 : decode cX9_speakerLine 48 = .ok (.bipush 6, 2) := by decide +kernel
theorem dX9_speakerLine_50 : decode cX9_speakerLine 50 = .ok (.if_icmp .ne 10, 3) := by decide +kernel
theorem dX9_speakerLine_53 : decode cX9_speakerLine 53 = .ok (.aload_n 0, 1) := by decide +kernel
theorem dX9_speakerLine_54 : decode cX9_speakerLine 54 = .ok (.iconst 4, 1) := by decide +kernel
theorem dX9_speakerLine_55 : decode cX9_speakerLine 55 = .ok (.iload_n 1, 1) := by decide +kernel
theorem dX9_speakerLine_56 : decode cX9_speakerLine 56 = .ok (.invokevirtual 255, 3) := by decide +kernel
theorem dX9_speakerLine_59 : decode cX9_speakerLine 59 = .ok (.ireturn, 1) := by decide +kernel
theorem dX9_speakerLine_60 : decode cX9_speakerLine 60 = .ok (.sipush 300, 3) := by decide +kernel
theorem dX9_speakerLine_63 : decode cX9_speakerLine 63 = .ok (.istore_n 2, 1) := by decide +kernel
theorem dX9_speakerLine_64 : decode cX9_speakerLine 64 = .ok (.aload_n 0, 1) := by decide +kernel
theorem dX9_speakerLine_65 : decode cX9_speakerLine 65 = .ok (.ldc 196, 2) := by decide +kernel
theorem dX9_speakerLine_67 : decode cX9_speakerLine 67 = .ok (.invokevirtual 189, 3) := by decide +kernel
theorem dX9_speakerLine_70 : decode cX9_speakerLine 70 = .ok (.ifCond .eq 50, 3) := by decide +kernel
theorem dX9_speakerLine_73 : decode cX9_speakerLine 73 = .ok (.aload_n 0, 1) := by decide +kernel
theorem dX9_speakerLine_74 : decode cX9_speakerLine 74 = .ok (.getfield 40, 3) := by decide +kernel
theorem dX9_speakerLine_77 : decode cX9_speakerLine 77 = .ok (.aload_n 0, 1) := by decide +kernel
theorem dX9_speakerLine_78 : decode cX9_speakerLine 78 = .ok (.getfield 168, 3) := by decide +kernel
theorem dX9_speakerLine_81 : decode cX9_speakerLine 81 = .ok (.laload, 1) := by decide +kernel
theorem dX9_speakerLine_82 : decode cX9_speakerLine 82 = .ok (.ldc2_w 262, 3) := by decide +kernel
theorem dX9_speakerLine_85 : decode cX9_speakerLine 85 = .ok (.lcmp, 1) := by decide +kernel
theorem dX9_speakerLine_86 : decode cX9_speakerLine 86 = .ok (.ifCond .le 13, 3) := by decide +kernel
theorem dX9_speakerLine_89 : decode cX9_speakerLine 89 = .ok (.aload_n 0, 1) := by decide +kernel
theorem dX9_speakerLine_90 : decode cX9_speakerLine 90 = .ok (.iconst 5, 1) := by decide +kernel
theorem dX9_speakerLine_91 : decode cX9_speakerLine 91 = .ok (.aload_n 0, 1) := by decide +kernel
theorem dX9_speakerLine_92 : decode cX9_speakerLine 92 = .ok (.getfield 168, 3) := by decide +kernel
theorem dX9_speakerLine_95 : decode cX9_speakerLine 95 = .ok (.invokevirtual 255, 3) := by decide +kernel
theorem dX9_speakerLine_98 : decode cX9_speakerLine 98 = .ok (.ireturn, 1) := by decide +kernel
theorem dX9_speakerLine_99 : decode cX9_speakerLine 99 = .ok (.aload_n 0, 1) := by decide +kernel
theorem dX9_speakerLine_100 : decode cX9_speakerLine 100 = .ok (.getfield 40, 3) := by decide +kernel
theorem dX9_speakerLine_103 : decode cX9_speakerLine 103 = .ok (.aload_n 0, 1) := by decide +kernel
theorem dX9_speakerLine_104 : decode cX9_speakerLine 104 = .ok (.getfield 168, 3) := by decide +kernel
theorem dX9_speakerLine_107 : decode cX9_speakerLine 107 = .ok (.laload, 1) := by decide +kernel
theorem dX9_speakerLine_108 : decode cX9_speakerLine 108 = .ok (.l2i, 1) := by decide +kernel
theorem dX9_speakerLine_109 : decode cX9_speakerLine 109 = .ok (.istore_n 2, 1) := by decide +kernel
theorem dX9_speakerLine_110 : decode cX9_speakerLine 110 = .ok (.aload_n 0, 1) := by decide +kernel
theorem dX9_speakerLine_111 : decode cX9_speakerLine 111 = .ok (.dup, 1) := by decide +kernel
theorem dX9_speakerLine_112 : decode cX9_speakerLine 112 = .ok (.getfield 168, 3) := by decide +kernel
theorem dX9_speakerLine_115 : decode cX9_speakerLine 115 = .ok (.iconst 1, 1) := by decide +kernel
theorem dX9_speakerLine_116 : decode cX9_speakerLine 116 = .ok (.iadd, 1) := by decide +kernel
theorem dX9_speakerLine_117 : decode cX9_speakerLine 117 = .ok (.putfield 168, 3) := by decide +kernel
theorem dX9_speakerLine_120 : decode cX9_speakerLine 120 = .ok (.aload_n 0, 1) := by decide +kernel
theorem dX9_speakerLine_121 : decode cX9_speakerLine 121 = .ok (.getfield 48, 3) := by decide +kernel
theorem dX9_speakerLine_124 : decode cX9_speakerLine 124 = .ok (.getfield 264, 3) := by decide +kernel
theorem dX9_speakerLine_127 : decode cX9_speakerLine 127 = .ok (.aload_n 0, 1) := by decide +kernel
theorem dX9_speakerLine_128 : decode cX9_speakerLine 128 = .ok (.getfield 48, 3) := by decide +kernel
theorem dX9_speakerLine_131 : decode cX9_speakerLine 131 = .ok (.getfield 88, 3) := by decide +kernel
theorem dX9_speakerLine_134 : decode cX9_speakerLine 134 = .ok (.aload_n 0, 1) := by decide +kernel
theorem dX9_speakerLine_135 : decode cX9_speakerLine 135 = .ok (.getfield 40, 3) := by decide +kernel
theorem dX9_speakerLine_138 : decode cX9_speakerLine 138 = .ok (.iload_n 1, 1) := by decide +kernel
theorem dX9_speakerLine_139 : decode cX9_speakerLine 139 = .ok (.laload, 1) := by decide +kernel
theorem dX9_speakerLine_140 : decode cX9_speakerLine 140 = .ok (.lastore, 1) := by decide +kernel
theorem dX9_speakerLine_141 : decode cX9_speakerLine 141 = .ok (.aload_n 0, 1) := by decide +kernel
theorem dX9_speakerLine_142 : decode cX9_speakerLine 142 = .ok (.getfield 48, 3) := by decide +kernel
theorem dX9_speakerLine_145 : decode cX9_speakerLine 145 = .ok (.getfield 118, 3) := by decide +kernel
theorem dX9_speakerLine_148 : decode cX9_speakerLine 148 = .ok (.aload_n 0, 1) := by decide +kernel
theorem dX9_speakerLine_149 : decode cX9_speakerLine 149 = .ok (.getfield 48, 3) := by decide +kernel
theorem dX9_speakerLine_152 : decode cX9_speakerLine 152 = .ok (.getfield 88, 3) := by decide +kernel
theorem dX9_speakerLine_155 : decode cX9_speakerLine 155 = .ok (.iload_n 2, 1) := by decide +kernel
theorem dX9_speakerLine_156 : decode cX9_speakerLine 156 = .ok (.iastore, 1) := by decide +kernel
theorem dX9_speakerLine_157 : decode cX9_speakerLine 157 = .ok (.aload_n 0, 1) := by decide +kernel
theorem dX9_speakerLine_158 : decode cX9_speakerLine 158 = .ok (.getfield 48, 3) := by decide +kernel
theorem dX9_speakerLine_161 : decode cX9_speakerLine 161 = .ok (.dup, 1) := by decide +kernel
theorem dX9_speakerLine_162 : decode cX9_speakerLine 162 = .ok (.getfield 88, 3) := by decide +kernel
theorem dX9_speakerLine_165 : decode cX9_speakerLine 165 = .ok (.iconst 1, 1) := by decide +kernel
theorem dX9_speakerLine_166 : decode cX9_speakerLine 166 = .ok (.iadd, 1) := by decide +kernel
theorem dX9_speakerLine_167 : decode cX9_speakerLine 167 = .ok (.putfield 88, 3) := by decide +kernel
theorem dX9_speakerLine_170 : decode cX9_speakerLine 170 = .ok (.iconst 0, 1) := by decide +kernel
theorem dX9_speakerLine_171 : decode cX9_speakerLine 171 = .ok (.ireturn, 1) := by decide +kernel
theorem dX9_speakerTold_0 : decode cX9_speakerTold 0 = .ok (.iconst 3, 1) := by decide +kernel
theorem dX9_speakerTold_1 : decode cX9_speakerTold 1 = .ok (.newarray .int, 2) := by decide +kernel
theorem dX9_speakerTold_3 : decode cX9_speakerTold 3 = .ok (.astore_n 3, 1) := by decide +kernel
theorem dX9_speakerTold_4 : decode cX9_speakerTold 4 = .ok (.iconst 0, 1) := by decide +kernel
theorem dX9_speakerTold_5 : decode cX9_speakerTold 5 = .ok (.istore 4, 2) := by decide +kernel
theorem dX9_speakerTold_7 : decode cX9_speakerTold 7 = .ok (.iconst 0, 1) := by decide +kernel
theorem dX9_speakerTold_8 : decode cX9_speakerTold 8 = .ok (.istore 5, 2) := by decide +kernel
theorem dX9_speakerTold_10 : decode cX9_speakerTold 10 = .ok (.iload 5, 2) := by decide +kernel
theorem dX9_speakerTold_12 : decode cX9_speakerTold 12 = .ok (.aload_n 0, 1) := by decide +kernel
theorem dX9_speakerTold_13 : decode cX9_speakerTold 13 = .ok (.getfield 48, 3) := by decide +kernel
theorem dX9_speakerTold_16 : decode cX9_speakerTold 16 = .ok (.getfield 95, 3) := by decide +kernel
theorem dX9_speakerTold_19 : decode cX9_speakerTold 19 = .ok (.if_icmp .ge 57, 3) := by decide +kernel
theorem dX9_speakerTold_22 : decode cX9_speakerTold 22 = .ok (.aload_n 0, 1) := by decide +kernel
theorem dX9_speakerTold_23 : decode cX9_speakerTold 23 = .ok (.getfield 48, 3) := by decide +kernel
theorem dX9_speakerTold_26 : decode cX9_speakerTold 26 = .ok (.getfield 121, 3) := by decide +kernel
theorem dX9_speakerTold_29 : decode cX9_speakerTold 29 = .ok (.iload 5, 2) := by decide +kernel
theorem dX9_speakerTold_31 : decode cX9_speakerTold 31 = .ok (.iaload, 1) := by decide +kernel
theorem dX9_speakerTold_32 : decode cX9_speakerTold 32 = .ok (.iload_n 1, 1) := by decide +kernel
theorem dX9_speakerTold_33 : decode cX9_speakerTold 33 = .ok (.if_icmp .eq 6, 3) := by decide +kernel
theorem dX9_speakerTold_36 : decode cX9_speakerTold 36 = .ok (.goto 34, 3) := by decide +kernel
theorem dX9_speakerTold_39 : decode cX9_speakerTold 39 = .ok (.aload_n 3, 1) := by decide +kernel
theorem dX9_speakerTold_40 : decode cX9_speakerTold 40 = .ok (.aload_n 0, 1) := by decide +kernel
theorem dX9_speakerTold_41 : decode cX9_speakerTold 41 = .ok (.getfield 48, 3) := by decide +kernel
theorem dX9_speakerTold_44 : decode cX9_speakerTold 44 = .ok (.getfield 124, 3) := by decide +kernel
theorem dX9_speakerTold_47 : decode cX9_speakerTold 47 = .ok (.iload 5, 2) := by decide +kernel
theorem dX9_speakerTold_49 : decode cX9_speakerTold 49 = .ok (.iaload, 1) := by decide +kernel
theorem dX9_speakerTold_50 : decode cX9_speakerTold 50 = .ok (.dup2, 1) := by decide +kernel
theorem dX9_speakerTold_51 : decode cX9_speakerTold 51 = .ok (.iaload, 1) := by decide +kernel
theorem dX9_speakerTold_52 : decode cX9_speakerTold 52 = .ok (.iconst 1, 1) := by decide +kernel
theorem dX9_speakerTold_53 : decode cX9_speakerTold 53 = .ok (.iadd, 1) := by decide +kernel
theorem dX9_speakerTold_54 : decode cX9_speakerTold 54 = .ok (.iastore, 1) := by decide +kernel
theorem dX9_speakerTold_55 : decode cX9_speakerTold 55 = .ok (.iload 4, 2) := by decide +kernel
theorem dX9_speakerTold_57 : decode cX9_speakerTold 57 = .ok (.aload_n 0, 1) := by decide +kernel
theorem dX9_speakerTold_58 : decode cX9_speakerTold 58 = .ok (.getfield 48, 3) := by decide +kernel
theorem dX9_speakerTold_61 : decode cX9_speakerTold 61 = .ok (.getfield 98, 3) := by decide +kernel
theorem dX9_speakerTold_64 : decode cX9_speakerTold 64 = .ok (.iload 5, 2) := by decide +kernel
theorem dX9_speakerTold_66 : decode cX9_speakerTold 66 = .ok (.iaload, 1) := by decide +kernel
theorem dX9_speakerTold_67 : decode cX9_speakerTold 67 = .ok (.iadd, 1) := by decide +kernel
theorem dX9_speakerTold_68 : decode cX9_speakerTold 68 = .ok (.istore 4, 2) := by decide +kernel
theorem dX9_speakerTold_70 : decode cX9_speakerTold 70 = .ok (.iinc 5 1, 3) := by decide +kernel
theorem dX9_speakerTold_73 : decode cX9_speakerTold 73 = .ok (.goto (-63), 3) := by decide +kernel
theorem dX9_speakerTold_76 : decode cX9_speakerTold 76 = .ok (.bipush 7, 2) := by decide +kernel
theorem dX9_speakerTold_78 : decode cX9_speakerTold 78 = .ok (.newarray .int, 2) := by decide +kernel
theorem dX9_speakerTold_80 : decode cX9_speakerTold 80 = .ok (.dup, 1) := by decide +kernel
theorem dX9_speakerTold_81 : decode cX9_speakerTold 81 = .ok (.iconst 0, 1) := by decide +kernel
theorem dX9_speakerTold_82 : decode cX9_speakerTold 82 = .ok (.aload_n 0, 1) := by decide +kernel
theorem dX9_speakerTold_83 : decode cX9_speakerTold 83 = .ok (.getfield 48, 3) := by decide +kernel
theorem dX9_speakerTold_86 : decode cX9_speakerTold 86 = .ok (.getfield 118, 3) := by decide +kernel
theorem dX9_speakerTold_89 : decode cX9_speakerTold 89 = .ok (.iload_n 1, 1) := by decide +kernel
theorem dX9_speakerTold_90 : decode cX9_speakerTold 90 = .ok (.iaload, 1) := by decide +kernel
theorem dX9_speakerTold_91 : decode cX9_speakerTold 91 = .ok (.iastore, 1) := by decide +kernel
theorem dX9_speakerTold_92 : decode cX9_speakerTold 92 = .ok (.dup, 1) := by decide +kernel
theorem dX9_speakerTold_93 : decode cX9_speakerTold 93 = .ok (.iconst 1, 1) := by decide +kernel
theorem dX9_speakerTold_94 : decode cX9_speakerTold 94 = .ok (.aload_n 0, 1) := by decide +kernel
theorem dX9_speakerTold_95 : decode cX9_speakerTold 95 = .ok (.iload_n 1, 1) := by decide +kernel
theorem dX9_speakerTold_96 : decode cX9_speakerTold 96 = .ok (.aload_n 0, 1) := by decide +kernel
theorem dX9_speakerTold_97 : decode cX9_speakerTold 97 = .ok (.getfield 55, 3) := by decide +kernel
theorem dX9_speakerTold_100 : decode cX9_speakerTold 100 = .ok (.invokevirtual 130, 3) := by decide +kernel
theorem dX9_speakerTold_103 : decode cX9_speakerTold 103 = .ok (.iastore, 1) := by decide +kernel
theorem dX9_speakerTold_104 : decode cX9_speakerTold 104 = .ok (.dup, 1) := by decide +kernel
theorem dX9_speakerTold_105 : decode cX9_speakerTold 105 = .ok (.iconst 2, 1) := by decide +kernel
theorem dX9_speakerTold_106 : decode cX9_speakerTold 106 = .ok (.aload_n 0, 1) := by decide +kernel
theorem dX9_speakerTold_107 : decode cX9_speakerTold 107 = .ok (.iload_n 1, 1) := by decide +kernel
theorem dX9_speakerTold_108 : decode cX9_speakerTold 108 = .ok (.aload_n 0, 1) := by decide +kernel
theorem dX9_speakerTold_109 : decode cX9_speakerTold 109 = .ok (.getfield 55, 3) := by decide +kernel
theorem dX9_speakerTold_112 : decode cX9_speakerTold 112 = .ok (.invokevirtual 337, 3) := by decide +kernel
theorem dX9_speakerTold_115 : decode cX9_speakerTold 115 = .ok (.iastore, 1) := by decide +kernel
theorem dX9_speakerTold_116 : decode cX9_speakerTold 116 = .ok (.dup, 1) := by decide +kernel
theorem dX9_speakerTold_117 : decode cX9_speakerTold 117 = .ok (.iconst 3, 1) := by decide +kernel
theorem dX9_speakerTold_118 : decode cX9_speakerTold 118 = .ok (.aload_n 3, 1) := by decide +kernel
theorem dX9_speakerTold_119 : decode cX9_speakerTold 119 = .ok (.iconst 0, 1) := by decide +kernel
theorem dX9_speakerTold_120 : decode cX9_speakerTold 120 = .ok (.iaload, 1) := by decide +kernel
theorem dX9_speakerTold_121 : decode cX9_speakerTold 121 = .ok (.iastore, 1) := by decide +kernel
theorem dX9_speakerTold_122 : decode cX9_speakerTold 122 = .ok (.dup, 1) := by decide +kernel
theorem dX9_speakerTold_123 : decode cX9_speakerTold 123 = .ok (.iconst 4, 1) := by decide +kernel
theorem dX9_speakerTold_124 : decode cX9_speakerTold 124 = .ok (.aload_n 3, 1) := by decide +kernel
theorem dX9_speakerTold_125 : decode cX9_speakerTold 125 = .ok (.iconst 1, 1) := by decide +kernel
theorem dX9_speakerTold_126 : decode cX9_speakerTold 126 = .ok (.iaload, 1) := by decide +kernel
theorem dX9_speakerTold_127 : decode cX9_speakerTold 127 = .ok (.iastore, 1) := by decide +kernel
theorem dX9_speakerTold_128 : decode cX9_speakerTold 128 = .ok (.dup, 1) := by decide +kernel
theorem dX9_speakerTold_129 : decode cX9_speakerTold 129 = .ok (.iconst 5, 1) := by decide +kernel
theorem dX9_speakerTold_130 : decode cX9_speakerTold 130 = .ok (.aload_n 3, 1) := by decide +kernel
theorem dX9_speakerTold_131 : decode cX9_speakerTold 131 = .ok (.iconst 2, 1) := by decide +kernel
theorem dX9_speakerTold_132 : decode cX9_speakerTold 132 = .ok (.iaload, 1) := by decide +kernel
theorem dX9_speakerTold_133 : decode cX9_speakerTold 133 = .ok (.iastore, 1) := by decide +kernel
theorem dX9_speakerTold_134 : decode cX9_speakerTold 134 = .ok (.dup, 1) := by decide +kernel
theorem dX9_speakerTold_135 : decode cX9_speakerTold 135 = .ok (.bipush 6, 2) := by decide +kernel
theorem dX9_speakerTold_137 : decode cX9_speakerTold 137 = .ok (.iload 4, 2) := by decide +kernel
theorem dX9_speakerTold_139 : decode cX9_speakerTold 139 = .ok (.iastore, 1) := by decide +kernel
theorem dX9_speakerTold_140 : decode cX9_speakerTold 140 = .ok (.astore 5, 2) := by decide +kernel
theorem dX9_speakerTold_142 : decode cX9_speakerTold 142 = .ok (.aload 5, 2) := by decide +kernel
theorem dX9_speakerTold_144 : decode cX9_speakerTold 144 = .ok (.iload_n 2, 1) := by decide +kernel
theorem dX9_speakerTold_145 : decode cX9_speakerTold 145 = .ok (.iaload, 1) := by decide +kernel
theorem dX9_speakerTold_146 : decode cX9_speakerTold 146 = .ok (.ireturn, 1) := by decide +kernel
theorem dX9_stand_0 : decode cX9_stand 0 = .ok (.iconst 0, 1) := by decide +kernel
theorem dX9_stand_1 : decode cX9_stand 1 = .ok (.istore_n 3, 1) := by decide +kernel
theorem dX9_stand_2 : decode cX9_stand 2 = .ok (.iload_n 3, 1) := by decide +kernel
theorem dX9_stand_3 : decode cX9_stand 3 = .ok (.aload_n 0, 1) := by decide +kernel
theorem dX9_stand_4 : decode cX9_stand 4 = .ok (.getfield 48, 3) := by decide +kernel
theorem dX9_stand_7 : decode cX9_stand 7 = .ok (.getfield 95, 3) := by decide +kernel
theorem dX9_stand_10 : decode cX9_stand 10 = .ok (.if_icmp .ge 24, 3) := by decide +kernel
theorem dX9_stand_13 : decode cX9_stand 13 = .ok (.aload_n 0, 1) := by decide +kernel
theorem dX9_stand_14 : decode cX9_stand 14 = .ok (.getfield 76, 3) := by decide +kernel
theorem dX9_stand_17 : decode cX9_stand 17 = .ok (.iload_n 3, 1) := by decide +kernel
theorem dX9_stand_18 : decode cX9_stand 18 = .ok (.iconst (-1), 1) := by decide +kernel
theorem dX9_stand_19 : decode cX9_stand 19 = .ok (.iastore, 1) := by decide +kernel
theorem dX9_stand_20 : decode cX9_stand 20 = .ok (.aload_n 1, 1) := by decide +kernel
theorem dX9_stand_21 : decode cX9_stand 21 = .ok (.iload_n 3, 1) := by decide +kernel
theorem dX9_stand_22 : decode cX9_stand 22 = .ok (.iconst 0, 1) := by decide +kernel
theorem dX9_stand_23 : decode cX9_stand 23 = .ok (.iastore, 1) := by decide +kernel
theorem dX9_stand_24 : decode cX9_stand 24 = .ok (.aload_n 2, 1) := by decide +kernel
theorem dX9_stand_25 : decode cX9_stand 25 = .ok (.iload_n 3, 1) := by decide +kernel
theorem dX9_stand_26 : decode cX9_stand 26 = .ok (.iconst 0, 1) := by decide +kernel
theorem dX9_stand_27 : decode cX9_stand 27 = .ok (.iastore, 1) := by decide +kernel
theorem dX9_stand_28 : decode cX9_stand 28 = .ok (.iinc 3 1, 3) := by decide +kernel
theorem dX9_stand_31 : decode cX9_stand 31 = .ok (.goto (-29), 3) := by decide +kernel
theorem dX9_stand_34 : decode cX9_stand 34 = .ok (.aload_n 0, 1) := by decide +kernel
theorem dX9_stand_35 : decode cX9_stand 35 = .ok (.getfield 48, 3) := by decide +kernel
theorem dX9_stand_38 : decode cX9_stand 38 = .ok (.getfield 95, 3) := by decide +kernel
theorem dX9_stand_41 : decode cX9_stand 41 = .ok (.iconst 1, 1) := by decide +kernel
theorem dX9_stand_42 : decode cX9_stand 42 = .ok (.isub, 1) := by decide +kernel
theorem dX9_stand_43 : decode cX9_stand 43 = .ok (.istore_n 3, 1) := by decide +kernel
theorem dX9_stand_44 : decode cX9_stand 44 = .ok (.iload_n 3, 1) := by decide +kernel
theorem dX9_stand_45 : decode cX9_stand 45 = .ok (.ifCond .lt 58, 3) := by decide +kernel
theorem dX9_stand_48 : decode cX9_stand 48 = .ok (.aload_n 0, 1) := by decide +kernel
theorem dX9_stand_49 : decode cX9_stand 49 = .ok (.getfield 48, 3) := by decide +kernel
theorem dX9_stand_52 : decode cX9_stand 52 = .ok (.iload_n 3, 1) := by decide +kernel
theorem dX9_stand_53 : decode cX9_stand 53 = .ok (.invokevirtual 108, 3) := by decide +kernel
theorem dX9_stand_56 : decode cX9_stand 56 = .ok (.ifCond .ne 6, 3) := by decide +kernel
theorem dX9_stand_59 : decode cX9_stand 59 = .ok (.goto 38, 3) := by decide +kernel
theorem dX9_stand_62 : decode cX9_stand 62 = .ok (.aload_n 0, 1) := by decide +kernel
theorem dX9_stand_63 : decode cX9_stand 63 = .ok (.getfield 79, 3) := by decide +kernel
theorem dX9_stand_66 : decode cX9_stand 66 = .ok (.iload_n 3, 1) := by decide +kernel
theorem dX9_stand_67 : decode cX9_stand 67 = .ok (.aload_n 0, 1) := by decide +kernel
theorem dX9_stand_68 : decode cX9_stand 68 = .ok (.getfield 76, 3) := by decide +kernel
theorem dX9_stand_71 : decode cX9_stand 71 = .ok (.aload_n 0, 1) := by decide +kernel
theorem dX9_stand_72 : decode cX9_stand 72 = .ok (.getfield 48, 3) := by decide +kernel
theorem dX9_stand_75 : decode cX9_stand 75 = .ok (.getfield 111, 3) := by decide +kernel
theorem dX9_stand_78 : decode cX9_stand 78 = .ok (.iload_n 3, 1) := by decide +kernel
theorem dX9_stand_79 : decode cX9_stand 79 = .ok (.iaload, 1) := by decide +kernel
theorem dX9_stand_80 : decode cX9_stand 80 = .ok (.iaload, 1) := by decide +kernel
theorem dX9_stand_81 : decode cX9_stand 81 = .ok (.iastore, 1) := by decide +kernel
theorem dX9_stand_82 : decode cX9_stand 82 = .ok (.aload_n 0, 1) := by decide +kernel
theorem dX9_stand_83 : decode cX9_stand 83 = .ok (.getfield 76, 3) := by decide +kernel
theorem dX9_stand_86 : decode cX9_stand 86 = .ok (.aload_n 0, 1) := by decide +kernel
theorem dX9_stand_87 : decode cX9_stand 87 = .ok (.getfield 48, 3) := by decide +kernel
theorem dX9_stand_90 : decode cX9_stand 90 = .ok (.getfield 111, 3) := by decide +kernel
theorem dX9_stand_93 : decode cX9_stand 93 = .ok (.iload_n 3, 1) := by decide +kernel
theorem dX9_stand_94 : decode cX9_stand 94 = .ok (.iaload, 1) := by decide +kernel
theorem dX9_stand_95 : decode cX9_stand 95 = .ok (.iload_n 3, 1) := by decide +kernel
theorem dX9_stand_96 : decode cX9_stand 96 = .ok (.iastore, 1) := by decide +kernel
theorem dX9_stand_97 : decode cX9_stand 97 = .ok (.iinc 3 (-1), 3) := by decide +kernel
theorem dX9_stand_100 : decode cX9_stand 100 = .ok (.goto (-56), 3) := by decide +kernel
theorem dX9_stand_103 : decode cX9_stand 103 = .ok (.iconst 0, 1) := by decide +kernel
theorem dX9_stand_104 : decode cX9_stand 104 = .ok (.istore_n 3, 1) := by decide +kernel
theorem dX9_stand_105 : decode cX9_stand 105 = .ok (.iconst 0, 1) := by decide +kernel
theorem dX9_stand_106 : decode cX9_stand 106 = .ok (.istore 4, 2) := by decide +kernel
theorem dX9_stand_108 : decode cX9_stand 108 = .ok (.iconst 0, 1) := by decide +kernel
theorem dX9_stand_109 : decode cX9_stand 109 = .ok (.istore 5, 2) := by decide +kernel
theorem dX9_stand_111 : decode cX9_stand 111 = .ok (.iload 5, 2) := by decide +kernel
theorem dX9_stand_113 : decode cX9_stand 113 = .ok (.aload_n 0, 1) := by decide +kernel
theorem dX9_stand_114 : decode cX9_stand 114 = .ok (.getfield 48, 3) := by decide +kernel
theorem dX9_stand_117 : decode cX9_stand 117 = .ok (.getfield 95, 3) := by decide +kernel
theorem dX9_stand_120 : decode cX9_stand 120 = .ok (.if_icmp .ge 34, 3) := by decide +kernel
theorem dX9_stand_123 : decode cX9_stand 123 = .ok (.aload_n 0, 1) := by decide +kernel
theorem dX9_stand_124 : decode cX9_stand 124 = .ok (.getfield 82, 3) := by decide +kernel
theorem dX9_stand_127 : decode cX9_stand 127 = .ok (.iload 5, 2) := by decide +kernel
theorem dX9_stand_129 : decode cX9_stand 129 = .ok (.aload_n 1, 1) := by decide +kernel
theorem dX9_stand_130 : decode cX9_stand 130 = .ok (.iload 5, 2) := by decide +kernel
theorem dX9_stand_132 : decode cX9_stand 132 = .ok (.iaload, 1) := by decide +kernel
theorem dX9_stand_133 : decode cX9_stand 133 = .ok (.ifCond .ne 13, 3) := by decide +kernel
theorem dX9_stand_136 : decode cX9_stand 136 = .ok (.aload_n 0, 1) := by decide +kernel
theorem dX9_stand_137 : decode cX9_stand 137 = .ok (.iload 5, 2) := by decide +kernel
theorem dX9_stand_139 : decode cX9_stand 139 = .ok (.aload_n 1, 1) := by decide +kernel
theorem dX9_stand_140 : decode cX9_stand 140 = .ok (.invokevirtual 114, 3) := by decide +kernel
theorem dX9_stand_143 : decode cX9_stand 143 = .ok (.goto 4, 3) := by decide +kernel
theorem dX9_stand_146 : decode cX9_stand 146 = .ok (.iconst 0, 1) := by decide +kernel
theorem dX9_stand_147 : decode cX9_stand 147 = .ok (.iastore, 1) := by decide +kernel
theorem dX9_stand_148 : decode cX9_stand 148 = .ok (.iinc 5 1, 3) := by decide +kernel
theorem dX9_stand_151 : decode cX9_stand 151 = .ok (.goto (-40), 3) := by decide +kernel
theorem dX9_stand_154 : decode cX9_stand 154 = .ok (.iconst 0, 1) := by decide +kernel
theorem dX9_stand_155 : decode cX9_stand 155 = .ok (.istore 5, 2) := by decide +kernel
theorem dX9_stand_157 : decode cX9_stand 157 = .ok (.iload 5, 2) := by decide +kernel
theorem dX9_stand_159 : decode cX9_stand 159 = .ok (.aload_n 0, 1) := by decide +kernel
theorem dX9_stand_160 : decode cX9_stand 160 = .ok (.getfield 48, 3) := by decide +kernel
theorem dX9_stand_163 : decode cX9_stand 163 = .ok (.getfield 95, 3) := by decide +kernel
theorem dX9_stand_166 : decode cX9_stand 166 = .ok (.if_icmp .ge 43, 3) := by decide +kernel
theorem dX9_stand_169 : decode cX9_stand 169 = .ok (.aload_n 0, 1) := by decide +kernel
theorem dX9_stand_170 : decode cX9_stand 170 = .ok (.getfield 82, 3) := by decide +kernel
theorem dX9_stand_173 : decode cX9_stand 173 = .ok (.iload 5, 2) := by decide +kernel
theorem dX9_stand_175 : decode cX9_stand 175 = .ok (.iaload, 1) := by decide +kernel
theorem dX9_stand_176 : decode cX9_stand 176 = .ok (.ifCond .ne 6, 3) := by decide +kernel
theorem dX9_stand_179 : decode cX9_stand 179 = .ok (.goto 24, 3) := by decide +kernel
theorem dX9_stand_182 : decode cX9_stand 182 = .ok (.aload_n 1, 1) := by decide +kernel
theorem dX9_stand_183 : decode cX9_stand 183 = .ok (.iload 5, 2) := by decide +kernel
theorem dX9_stand_185 : decode cX9_stand 185 = .ok (.aload_n 0, 1) := by decide +kernel
theorem dX9_stand_186 : decode cX9_stand 186 = .ok (.getfield 82, 3) := by decide +kernel
theorem dX9_stand_189 : decode cX9_stand 189 = .ok (.iload 5, 2) := by decide +kernel
theorem dX9_stand_191 : decode cX9_stand 191 = .ok (.iaload, 1) := by decide +kernel
theorem dX9_stand_192 : decode cX9_stand 192 = .ok (.iastore, 1) := by decide +kernel
theorem dX9_stand_193 : decode cX9_stand 193 = .ok (.aload_n 2, 1) := by decide +kernel
theorem dX9_stand_194 : decode cX9_stand 194 = .ok (.iload 5, 2) := by decide +kernel
theorem dX9_stand_196 : decode cX9_stand 196 = .ok (.iload_n 3, 1) := by decide +kernel
theorem dX9_stand_197 : decode cX9_stand 197 = .ok (.iconst 1, 1) := by decide +kernel
theorem dX9_stand_198 : decode cX9_stand 198 = .ok (.iadd, 1) := by decide +kernel
theorem dX9_stand_199 : decode cX9_stand 199 = .ok (.iastore, 1) := by decide +kernel
theorem dX9_stand_200 : decode cX9_stand 200 = .ok (.iconst 1, 1) := by decide +kernel
theorem dX9_stand_201 : decode cX9_stand 201 = .ok (.istore 4, 2) := by decide +kernel
theorem dX9_stand_203 : decode cX9_stand 203 = .ok (.iinc 5 1, 3) := by decide +kernel
theorem dX9_stand_206 : decode cX9_stand 206 = .ok (.goto (-49), 3) := by decide +kernel
theorem dX9_stand_209 : decode cX9_stand 209 = .ok (.iload 4, 2) := by decide +kernel
theorem dX9_stand_211 : decode cX9_stand 211 = .ok (.ifCond .ne 5, 3) := by decide +kernel
theorem dX9_stand_214 : decode cX9_stand 214 = .ok (.iload_n 3, 1) := by decide +kernel
theorem dX9_stand_215 : decode cX9_stand 215 = .ok (.ireturn, 1) := by decide +kernel
theorem dX9_stand_216 : decode cX9_stand 216 = .ok (.iinc 3 1, 3) := by decide +kernel
theorem dX9_stand_219 : decode cX9_stand 219 = .ok (.goto (-114), 3) := by decide +kernel
theorem dX9_take_0 : decode cX9_take 0 = .ok (.aload_n 0, 1) := by decide +kernel
theorem dX9_take_1 : decode cX9_take 1 = .ok (.getfield 48, 3) := by decide +kernel
theorem dX9_take_4 : decode cX9_take 4 = .ok (.getfield 118, 3) := by decide +kernel
theorem dX9_take_7 : decode cX9_take 7 = .ok (.iload_n 1, 1) := by decide +kernel
theorem dX9_take_8 : decode cX9_take 8 = .ok (.iaload, 1) := by decide +kernel
theorem dX9_take_9 : decode cX9_take 9 = .ok (.iload_n 2, 1) := by decide +kernel
theorem dX9_take_10 : decode cX9_take 10 = .ok (.if_icmp .ge 14, 3) := by decide +kernel
theorem dX9_take_13 : decode cX9_take 13 = .ok (.aload_n 0, 1) := by decide +kernel
theorem dX9_take_14 : decode cX9_take 14 = .ok (.bipush 7, 2) := by decide +kernel
theorem dX9_take_16 : decode cX9_take 16 = .ok (.aload_n 0, 1) := by decide +kernel
theorem dX9_take_17 : decode cX9_take 17 = .ok (.getfield 168, 3) := by decide +kernel
theorem dX9_take_20 : decode cX9_take 20 = .ok (.invokevirtual 255, 3) := by decide +kernel
theorem dX9_take_23 : decode cX9_take 23 = .ok (.ireturn, 1) := by decide +kernel
theorem dX9_take_24 : decode cX9_take 24 = .ok (.aload_n 0, 1) := by decide +kernel
theorem dX9_take_25 : decode cX9_take 25 = .ok (.getfield 48, 3) := by decide +kernel
theorem dX9_take_28 : decode cX9_take 28 = .ok (.getfield 118, 3) := by decide +kernel
theorem dX9_take_31 : decode cX9_take 31 = .ok (.iload_n 1, 1) := by decide +kernel
theorem dX9_take_32 : decode cX9_take 32 = .ok (.dup2, 1) := by decide +kernel
theorem dX9_take_33 : decode cX9_take 33 = .ok (.iaload, 1) := by decide +kernel
theorem dX9_take_34 : decode cX9_take 34 = .ok (.iload_n 2, 1) := by decide +kernel
theorem dX9_take_35 : decode cX9_take 35 = .ok (.isub, 1) := by decide +kernel
theorem dX9_take_36 : decode cX9_take 36 = .ok (.iastore, 1) := by decide +kernel
theorem dX9_take_37 : decode cX9_take 37 = .ok (.iconst 0, 1) := by decide +kernel
theorem dX9_take_38 : decode cX9_take 38 = .ok (.ireturn, 1) := by decide +kernel
theorem dX9_tell_0 : decode cX9_tell 0 = .ok (.aload_n 0, 1) := by decide +kernel
theorem dX9_tell_1 : decode cX9_tell 1 = .ok (.iconst 0, 1) := by decide +kernel
theorem dX9_tell_2 : decode cX9_tell 2 = .ok (.putfield 85, 3) := by decide +kernel
theorem dX9_tell_5 : decode cX9_tell 5 = .ok (.aload_n 0, 1) := by decide +kernel
theorem dX9_tell_6 : decode cX9_tell 6 = .ok (.iconst (-1), 1) := by decide +kernel
theorem dX9_tell_7 : decode cX9_tell 7 = .ok (.putfield 23, 3) := by decide +kernel
theorem dX9_tell_10 : decode cX9_tell 10 = .ok (.aload_n 0, 1) := by decide +kernel
theorem dX9_tell_11 : decode cX9_tell 11 = .ok (.invokevirtual 315, 3) := by decide +kernel
theorem dX9_tell_14 : decode cX9_tell 14 = .ok (.aload_n 0, 1) := by decide +kernel
theorem dX9_tell_15 : decode cX9_tell 15 = .ok (.iconst 0, 1) := by decide +kernel
theorem dX9_tell_16 : decode cX9_tell 16 = .ok (.putfield 145, 3) := by decide +kernel
theorem dX9_tell_19 : decode cX9_tell 19 = .ok (.aload_n 0, 1) := by decide +kernel
theorem dX9_tell_20 : decode cX9_tell 20 = .ok (.invokevirtual 318, 3) := by decide +kernel
theorem dX9_tell_23 : decode cX9_tell 23 = .ok (.ifCond .ne 13, 3) := by decide +kernel
theorem dX9_tell_26 : decode cX9_tell 26 = .ok (.aload_n 0, 1) := by decide +kernel
theorem dX9_tell_27 : decode cX9_tell 27 = .ok (.iconst 1, 1) := by decide +kernel
theorem dX9_tell_28 : decode cX9_tell 28 = .ok (.aload_n 0, 1) := by decide +kernel
theorem dX9_tell_29 : decode cX9_tell 29 = .ok (.getfield 168, 3) := by decide +kernel
theorem dX9_tell_32 : decode cX9_tell 32 = .ok (.invokevirtual 255, 3) := by decide +kernel
theorem dX9_tell_35 : decode cX9_tell 35 = .ok (.ireturn, 1) := by decide +kernel
theorem dX9_tell_36 : decode cX9_tell 36 = .ok (.aload_n 0, 1) := by decide +kernel
theorem dX9_tell_37 : decode cX9_tell 37 = .ok (.getfield 52, 3) := by decide +kernel
theorem dX9_tell_40 : decode cX9_tell 40 = .ok (.aload_n 0, 1) := by decide +kernel
theorem dX9_tell_41 : decode cX9_tell 41 = .ok (.getfield 48, 3) := by decide +kernel
theorem dX9_tell_44 : decode cX9_tell 44 = .ok (.invokevirtual 321, 3) := by decide +kernel
theorem dX9_tell_47 : decode cX9_tell 47 = .ok (.aload_n 0, 1) := by decide +kernel
theorem dX9_tell_48 : decode cX9_tell 48 = .ok (.invokevirtual 325, 3) := by decide +kernel
theorem dX9_tell_51 : decode cX9_tell 51 = .ok (.istore_n 1, 1) := by decide +kernel
theorem dX9_tell_52 : decode cX9_tell 52 = .ok (.iload_n 1, 1) := by decide +kernel
theorem dX9_tell_53 : decode cX9_tell 53 = .ok (.ifCond .le 17, 3) := by decide +kernel
theorem dX9_tell_56 : decode cX9_tell 56 = .ok (.aload_n 0, 1) := by decide +kernel
theorem dX9_tell_57 : decode cX9_tell 57 = .ok (.getfield 48, 3) := by decide +kernel
theorem dX9_tell_60 : decode cX9_tell 60 = .ok (.aload_n 0, 1) := by decide +kernel
theorem dX9_tell_61 : decode cX9_tell 61 = .ok (.getfield 52, 3) := by decide +kernel
theorem dX9_tell_64 : decode cX9_tell 64 = .ok (.invokevirtual 321, 3) := by decide +kernel
theorem dX9_tell_67 : decode cX9_tell 67 = .ok (.goto 19, 3) := by decide +kernel
theorem dX9_tell_70 : decode cX9_tell 70 = .ok (.aload_n 0, 1) := by decide +kernel
theorem dX9_tell_71 : decode cX9_tell 71 = .ok (.aload_n 0, 1) := by decide +kernel
theorem dX9_tell_72 : decode cX9_tell 72 = .ok (.aload_n 0, 1) := by decide +kernel
theorem dX9_tell_73 : decode cX9_tell 73 = .ok (.getfield 55, 3) := by decide +kernel
theorem dX9_tell_76 : decode cX9_tell 76 = .ok (.aload_n 0, 1) := by decide +kernel
theorem dX9_tell_77 : decode cX9_tell 77 = .ok (.getfield 58, 3) := by decide +kernel
theorem dX9_tell_80 : decode cX9_tell 80 = .ok (.invokevirtual 287, 3) := by decide +kernel
theorem dX9_tell_83 : decode cX9_tell 83 = .ok (.putfield 328, 3) := by decide +kernel
theorem dX9_tell_86 : decode cX9_tell 86 = .ok (.iload_n 1, 1) := by decide +kernel
theorem dX9_tell_87 : decode cX9_tell 87 = .ok (.ireturn, 1) := by decide +kernel
theorem dX9_test_0 : decode cX9_test 0 = .ok (.aload_n 0, 1) := by decide +kernel
theorem dX9_test_1 : decode cX9_test 1 = .ok (.iload_n 1, 1) := by decide +kernel
theorem dX9_test_2 : decode cX9_test 2 = .ok (.invokevirtual 229, 3) := by decide +kernel
theorem dX9_test_5 : decode cX9_test 5 = .ok (.ifCond .ne 5, 3) := by decide +kernel
theorem dX9_test_8 : decode cX9_test 8 = .ok (.iconst 0, 1) := by decide +kernel
theorem dX9_test_9 : decode cX9_test 9 = .ok (.ireturn, 1) := by decide +kernel
theorem dX9_test_10 : decode cX9_test 10 = .ok (.aload_n 0, 1) := by decide +kernel
theorem dX9_test_11 : decode cX9_test 11 = .ok (.ldc 232, 2) := by decide +kernel
theorem dX9_test_13 : decode cX9_test 13 = .ok (.invokevirtual 189, 3) := by decide +kernel
theorem dX9_test_16 : decode cX9_test 16 = .ok (.ifCond .eq 13, 3) := by decide +kernel
theorem dX9_test_19 : decode cX9_test 19 = .ok (.aload_n 0, 1) := by decide +kernel
theorem dX9_test_20 : decode cX9_test 20 = .ok (.iload_n 1, 1) := by decide +kernel
theorem dX9_test_21 : decode cX9_test 21 = .ok (.invokevirtual 229, 3) := by decide +kernel
theorem dX9_test_24 : decode cX9_test 24 = .ok (.ifCond .ne (-14), 3) := by decide +kernel
theorem dX9_test_27 : decode cX9_test 27 = .ok (.iconst 0, 1) := by decide +kernel
theorem dX9_test_28 : decode cX9_test 28 = .ok (.ireturn, 1) := by decide +kernel
theorem dX9_test_29 : decode cX9_test 29 = .ok (.iconst 1, 1) := by decide +kernel
theorem dX9_test_30 : decode cX9_test 30 = .ok (.ireturn, 1) := by decide +kernel
theorem dX9_testHolds_0 : decode cX9_testHolds 0 = .ok (.aload_n 0, 1) := by decide +kernel
theorem dX9_testHolds_1 : decode cX9_testHolds 1 = .ok (.invokevirtual 294, 3) := by decide +kernel
theorem dX9_testHolds_4 : decode cX9_testHolds 4 = .ok (.istore_n 1, 1) := by decide +kernel
theorem dX9_testHolds_5 : decode cX9_testHolds 5 = .ok (.aload_n 0, 1) := by decide +kernel
theorem dX9_testHolds_6 : decode cX9_testHolds 6 = .ok (.ldc 232, 2) := by decide +kernel
theorem dX9_testHolds_8 : decode cX9_testHolds 8 = .ok (.invokevirtual 189, 3) := by decide +kernel
theorem dX9_testHolds_11 : decode cX9_testHolds 11 = .ok (.ifCond .eq 13, 3) := by decide +kernel
theorem dX9_testHolds_14 : decode cX9_testHolds 14 = .ok (.iload_n 1, 1) := by decide +kernel
theorem dX9_testHolds_15 : decode cX9_testHolds 15 = .ok (.aload_n 0, 1) := by decide +kernel
theorem dX9_testHolds_16 : decode cX9_testHolds 16 = .ok (.invokevirtual 294, 3) := by decide +kernel
theorem dX9_testHolds_19 : decode cX9_testHolds 19 = .ok (.ior, 1) := by decide +kernel
theorem dX9_testHolds_20 : decode cX9_testHolds 20 = .ok (.istore_n 1, 1) := by decide +kernel
theorem dX9_testHolds_21 : decode cX9_testHolds 21 = .ok (.goto (-16), 3) := by decide +kernel
theorem dX9_testHolds_24 : decode cX9_testHolds 24 = .ok (.iload_n 1, 1) := by decide +kernel
theorem dX9_testHolds_25 : decode cX9_testHolds 25 = .ok (.ireturn, 1) := by decide +kernel
theorem dX9_thrown_0 : decode cX9_thrown 0 = .ok (.aload_n 0, 1) := by decide +kernel
theorem dX9_thrown_1 : decode cX9_thrown 1 = .ok (.getfield 85, 3) := by decide +kernel
theorem dX9_thrown_4 : decode cX9_thrown 4 = .ok (.ireturn, 1) := by decide +kernel
theorem dX9_token_0 : decode cX9_token 0 = .ok (.aload_n 0, 1) := by decide +kernel
theorem dX9_token_1 : decode cX9_token 1 = .ok (.getfield 34, 3) := by decide +kernel
theorem dX9_token_4 : decode cX9_token 4 = .ok (.aload_n 0, 1) := by decide +kernel
theorem dX9_token_5 : decode cX9_token 5 = .ok (.getfield 142, 3) := by decide +kernel
theorem dX9_token_8 : decode cX9_token 8 = .ok (.aload_n 0, 1) := by decide +kernel
theorem dX9_token_9 : decode cX9_token 9 = .ok (.getfield 142, 3) := by decide +kernel
theorem dX9_token_12 : decode cX9_token 12 = .ok (.sipush 400, 3) := by decide +kernel
theorem dX9_token_15 : decode cX9_token 15 = .ok (.if_icmp .ne 11, 3) := by decide +kernel
theorem dX9_token_18 : decode cX9_token 18 = .ok (.iload_n 1, 1) := by decide +kernel
theorem dX9_token_19 : decode cX9_token 19 = .ok (.ifCond .eq 7, 3) := by decide +kernel
theorem dX9_token_22 : decode cX9_token 22 = .ok (.iconst 1, 1) := by decide +kernel
theorem dX9_token_23 : decode cX9_token 23 = .ok (.goto 4, 3) := by decide +kernel
theorem dX9_token_26 : decode cX9_token 26 = .ok (.iload_n 1, 1) := by decide +kernel
theorem dX9_token_27 : decode cX9_token 27 = .ok (.iastore, 1) := by decide +kernel
theorem dX9_token_28 : decode cX9_token 28 = .ok (.aload_n 0, 1) := by decide +kernel
theorem dX9_token_29 : decode cX9_token 29 = .ok (.getfield 37, 3) := by decide +kernel
theorem dX9_token_32 : decode cX9_token 32 = .ok (.aload_n 0, 1) := by decide +kernel
theorem dX9_token_33 : decode cX9_token 33 = .ok (.getfield 142, 3) := by decide +kernel
theorem dX9_token_36 : decode cX9_token 36 = .ok (.iload_n 2, 1) := by decide +kernel
theorem dX9_token_37 : decode cX9_token 37 = .ok (.iastore, 1) := by decide +kernel
theorem dX9_token_38 : decode cX9_token 38 = .ok (.aload_n 0, 1) := by decide +kernel
theorem dX9_token_39 : decode cX9_token 39 = .ok (.getfield 40, 3) := by decide +kernel
theorem dX9_token_42 : decode cX9_token 42 = .ok (.aload_n 0, 1) := by decide +kernel
theorem dX9_token_43 : decode cX9_token 43 = .ok (.getfield 142, 3) := by decide +kernel
theorem dX9_token_46 : decode cX9_token 46 = .ok (.lload_n 3, 1) := by decide +kernel
theorem dX9_token_47 : decode cX9_token 47 = .ok (.lastore, 1) := by decide +kernel
theorem dX9_token_48 : decode cX9_token 48 = .ok (.aload_n 0, 1) := by decide +kernel
theorem dX9_token_49 : decode cX9_token 49 = .ok (.dup, 1) := by decide +kernel
theorem dX9_token_50 : decode cX9_token 50 = .ok (.getfield 142, 3) := by decide +kernel
theorem dX9_token_53 : decode cX9_token 53 = .ok (.iconst 1, 1) := by decide +kernel
theorem dX9_token_54 : decode cX9_token 54 = .ok (.iadd, 1) := by decide +kernel
theorem dX9_token_55 : decode cX9_token 55 = .ok (.putfield 142, 3) := by decide +kernel
theorem dX9_token_58 : decode cX9_token 58 = .ok (.return_, 1) := by decide +kernel
theorem dX9_trim_0 : decode cX9_trim 0 = .ok (.aload_n 0, 1) := by decide +kernel
theorem dX9_trim_1 : decode cX9_trim 1 = .ok (.iconst 0, 1) := by decide +kernel
theorem dX9_trim_2 : decode cX9_trim 2 = .ok (.putfield 85, 3) := by decide +kernel
theorem dX9_trim_5 : decode cX9_trim 5 = .ok (.iload_n 1, 1) := by decide +kernel
theorem dX9_trim_6 : decode cX9_trim 6 = .ok (.iconst 0, 1) := by decide +kernel
theorem dX9_trim_7 : decode cX9_trim 7 = .ok (.aload_n 0, 1) := by decide +kernel
theorem dX9_trim_8 : decode cX9_trim 8 = .ok (.getfield 145, 3) := by decide +kernel
theorem dX9_trim_11 : decode cX9_trim 11 = .ok (.invokestatic 91, 3) := by decide +kernel
theorem dX9_trim_14 : decode cX9_trim 14 = .ok (.ifCond .ne 9, 3) := by decide +kernel
theorem dX9_trim_17 : decode cX9_trim 17 = .ok (.aload_n 0, 1) := by decide +kernel
theorem dX9_trim_18 : decode cX9_trim 18 = .ok (.iconst 1, 1) := by decide +kernel
theorem dX9_trim_19 : decode cX9_trim 19 = .ok (.invokevirtual 312, 3) := by decide +kernel
theorem dX9_trim_22 : decode cX9_trim 22 = .ok (.ireturn, 1) := by decide +kernel
theorem dX9_trim_23 : decode cX9_trim 23 = .ok (.aload_n 0, 1) := by decide +kernel
theorem dX9_trim_24 : decode cX9_trim 24 = .ok (.iload_n 1, 1) := by decide +kernel
theorem dX9_trim_25 : decode cX9_trim 25 = .ok (.putfield 145, 3) := by decide +kernel
theorem dX9_trim_28 : decode cX9_trim 28 = .ok (.iload_n 1, 1) := by decide +kernel
theorem dX9_trim_29 : decode cX9_trim 29 = .ok (.ireturn, 1) := by decide +kernel
theorem dX9_unknown_0 : decode cX9_unknown 0 = .ok (.aload_n 0, 1) := by decide +kernel
theorem dX9_unknown_1 : decode cX9_unknown 1 = .ok (.getfield 168, 3) := by decide +kernel
theorem dX9_unknown_4 : decode cX9_unknown 4 = .ok (.istore_n 1, 1) := by decide +kernel
theorem dX9_unknown_5 : decode cX9_unknown 5 = .ok (.aload_n 0, 1) := by decide +kernel
theorem dX9_unknown_6 : decode cX9_unknown 6 = .ok (.getfield 40, 3) := by decide +kernel
theorem dX9_unknown_9 : decode cX9_unknown 9 = .ok (.iload_n 1, 1) := by decide +kernel
theorem dX9_unknown_10 : decode cX9_unknown 10 = .ok (.laload, 1) := by decide +kernel
theorem dX9_unknown_11 : decode cX9_unknown 11 = .ok (.ldc2_w 166, 3) := by decide +kernel
theorem dX9_unknown_14 : decode cX9_unknown 14 = .ok (.lcmp, 1) := by decide +kernel
theorem dX9_unknown_15 : decode cX9_unknown 15 = .ok (.ifCond .ne 13, 3) := by decide +kernel
theorem dX9_unknown_18 : decode cX9_unknown 18 = .ok (.aload_n 0, 1) := by decide +kernel
theorem dX9_unknown_19 : decode cX9_unknown 19 = .ok (.getfield 34, 3) := by decide +kernel
theorem dX9_unknown_22 : decode cX9_unknown 22 = .ok (.iload_n 1, 1) := by decide +kernel
theorem dX9_unknown_23 : decode cX9_unknown 23 = .ok (.iaload, 1) := by decide +kernel
theorem dX9_unknown_24 : decode cX9_unknown 24 = .ok (.iconst 4, 1) := by decide +kernel
theorem dX9_unknown_25 : decode cX9_unknown 25 = .ok (.if_icmp .eq 50, 3) := by decide +kernel
theorem dX9_unknown_28 : decode cX9_unknown 28 = .ok (.aload_n 0, 1) := by decide +kernel
theorem dX9_unknown_29 : decode cX9_unknown 29 = .ok (.getfield 34, 3) := by decide +kernel
theorem dX9_unknown_32 : decode cX9_unknown 32 = .ok (.iload_n 1, 1) := by decide +kernel
theorem dX9_unknown_33 : decode cX9_unknown 33 = .ok (.iaload, 1) := by decide +kernel
theorem dX9_unknown_34 : decode cX9_unknown 34 = .ok (.iconst 2, 1) := by decide +kernel
theorem dX9_unknown_35 : decode cX9_unknown 35 = .ok (.if_icmp .ne 34, 3) := by decide +kernel
theorem dX9_unknown_38 : decode cX9_unknown 38 = .ok (.aload_n 0, 1) := by decide +kernel
theorem dX9_unknown_39 : decode cX9_unknown 39 = .ok (.getfield 40, 3) := by decide +kernel
theorem dX9_unknown_42 : decode cX9_unknown 42 = .ok (.iload_n 1, 1) := by decide +kernel
theorem dX9_unknown_43 : decode cX9_unknown 43 = .ok (.laload, 1) := by decide +kernel
theorem dX9_unknown_44 : decode cX9_unknown 44 = .ok (.invokestatic 183, 3) := by decide +kernel
theorem dX9_unknown_47 : decode cX9_unknown 47 = .ok (.ifCond .ne 22, 3) := by decide +kernel
theorem dX9_unknown_50 : decode cX9_unknown 50 = .ok (.aload_n 0, 1) := by decide +kernel
theorem dX9_unknown_51 : decode cX9_unknown 51 = .ok (.getfield 48, 3) := by decide +kernel
theorem dX9_unknown_54 : decode cX9_unknown 54 = .ok (.aload_n 0, 1) := by decide +kernel
theorem dX9_unknown_55 : decode cX9_unknown 55 = .ok (.getfield 40, 3) := by decide +kernel
theorem dX9_unknown_58 : decode cX9_unknown 58 = .ok (.iload_n 1, 1) := by decide +kernel
theorem dX9_unknown_59 : decode cX9_unknown 59 = .ok (.laload, 1) := by decide +kernel
theorem dX9_unknown_60 : decode cX9_unknown 60 = .ok (.invokevirtual 266, 3) := by decide +kernel
theorem dX9_unknown_63 : decode cX9_unknown 63 = .ok (.iconst (-1), 1) := by decide +kernel
theorem dX9_unknown_64 : decode cX9_unknown 64 = .ok (.if_icmp .ne 5, 3) := by decide +kernel
theorem dX9_unknown_67 : decode cX9_unknown 67 = .ok (.iload_n 1, 1) := by decide +kernel
theorem dX9_unknown_68 : decode cX9_unknown 68 = .ok (.ireturn, 1) := by decide +kernel
theorem dX9_unknown_69 : decode cX9_unknown 69 = .ok (.iinc 1 1, 3) := by decide +kernel
theorem dX9_unknown_72 : decode cX9_unknown 72 = .ok (.goto (-67), 3) := by decide +kernel
theorem dX9_unknown_75 : decode cX9_unknown 75 = .ok (.iconst (-1), 1) := by decide +kernel
theorem dX9_unknown_76 : decode cX9_unknown 76 = .ok (.ireturn, 1) := by decide +kernel
theorem dX9_why_0 : decode cX9_why 0 = .ok (.aload_n 0, 1) := by decide +kernel
theorem dX9_why_1 : decode cX9_why 1 = .ok (.iconst 0, 1) := by decide +kernel
theorem dX9_why_2 : decode cX9_why 2 = .ok (.putfield 85, 3) := by decide +kernel
theorem dX9_why_5 : decode cX9_why 5 = .ok (.aload_n 0, 1) := by decide +kernel
theorem dX9_why_6 : decode cX9_why 6 = .ok (.iload_n 1, 1) := by decide +kernel
theorem dX9_why_7 : decode cX9_why 7 = .ok (.invokevirtual 348, 3) := by decide +kernel
theorem dX9_why_10 : decode cX9_why 10 = .ok (.ifCond .eq 11, 3) := by decide +kernel
theorem dX9_why_13 : decode cX9_why 13 = .ok (.aload_n 0, 1) := by decide +kernel
theorem dX9_why_14 : decode cX9_why 14 = .ok (.iload_n 1, 1) := by decide +kernel
theorem dX9_why_15 : decode cX9_why 15 = .ok (.invokevirtual 354, 3) := by decide +kernel
theorem dX9_why_18 : decode cX9_why 18 = .ok (.goto 8, 3) := by decide +kernel
theorem dX9_why_21 : decode cX9_why 21 = .ok (.aload_n 0, 1) := by decide +kernel
theorem dX9_why_22 : decode cX9_why 22 = .ok (.iconst 1, 1) := by decide +kernel
theorem dX9_why_23 : decode cX9_why 23 = .ok (.invokevirtual 312, 3) := by decide +kernel
theorem dX9_why_26 : decode cX9_why 26 = .ok (.ireturn, 1) := by decide +kernel
theorem dX9_whyOf_0 : decode cX9_whyOf 0 = .ok (.aload_n 0, 1) := by decide +kernel
theorem dX9_whyOf_1 : decode cX9_whyOf 1 = .ok (.getfield 55, 3) := by decide +kernel
theorem dX9_whyOf_4 : decode cX9_whyOf 4 = .ok (.iload_n 1, 1) := by decide +kernel
theorem dX9_whyOf_5 : decode cX9_whyOf 5 = .ok (.iaload, 1) := by decide +kernel
theorem dX9_whyOf_6 : decode cX9_whyOf 6 = .ok (.iconst 2, 1) := by decide +kernel
theorem dX9_whyOf_7 : decode cX9_whyOf 7 = .ok (.if_icmp .eq 5, 3) := by decide +kernel
theorem dX9_whyOf_10 : decode cX9_whyOf 10 = .ok (.iconst (-1), 1) := by decide +kernel
theorem dX9_whyOf_11 : decode cX9_whyOf 11 = .ok (.ireturn, 1) := by decide +kernel
theorem dX9_whyOf_12 : decode cX9_whyOf 12 = .ok (.iconst 0, 1) := by decide +kernel
theorem dX9_whyOf_13 : decode cX9_whyOf 13 = .ok (.istore_n 2, 1) := by decide +kernel
theorem dX9_whyOf_14 : decode cX9_whyOf 14 = .ok (.iload_n 2, 1) := by decide +kernel
theorem dX9_whyOf_15 : decode cX9_whyOf 15 = .ok (.aload_n 0, 1) := by decide +kernel
theorem dX9_whyOf_16 : decode cX9_whyOf 16 = .ok (.getfield 48, 3) := by decide +kernel
theorem dX9_whyOf_19 : decode cX9_whyOf 19 = .ok (.getfield 95, 3) := by decide +kernel
theorem dX9_whyOf_22 : decode cX9_whyOf 22 = .ok (.if_icmp .ge 45, 3) := by decide +kernel
theorem dX9_whyOf_25 : decode cX9_whyOf 25 = .ok (.aload_n 0, 1) := by decide +kernel
theorem dX9_whyOf_26 : decode cX9_whyOf 26 = .ok (.getfield 55, 3) := by decide +kernel
theorem dX9_whyOf_29 : decode cX9_whyOf 29 = .ok (.iload_n 2, 1) := by decide +kernel
theorem dX9_whyOf_30 : decode cX9_whyOf 30 = .ok (.iaload, 1) := by decide +kernel
theorem dX9_whyOf_31 : decode cX9_whyOf 31 = .ok (.iconst 1, 1) := by decide +kernel
theorem dX9_whyOf_32 : decode cX9_whyOf 32 = .ok (.if_icmp .ne 29, 3) := by decide +kernel
theorem dX9_whyOf_35 : decode cX9_whyOf 35 = .ok (.aload_n 0, 1) := by decide +kernel
theorem dX9_whyOf_36 : decode cX9_whyOf 36 = .ok (.getfield 48, 3) := by decide +kernel
theorem dX9_whyOf_39 : decode cX9_whyOf 39 = .ok (.iload_n 2, 1) := by decide +kernel
theorem dX9_whyOf_40 : decode cX9_whyOf 40 = .ok (.invokevirtual 108, 3) := by decide +kernel
theorem dX9_whyOf_43 : decode cX9_whyOf 43 = .ok (.ifCond .eq 18, 3) := by decide +kernel
theorem dX9_whyOf_46 : decode cX9_whyOf 46 = .ok (.aload_n 0, 1) := by decide +kernel
theorem dX9_whyOf_47 : decode cX9_whyOf 47 = .ok (.getfield 48, 3) := by decide +kernel
theorem dX9_whyOf_50 : decode cX9_whyOf 50 = .ok (.getfield 111, 3) := by decide +kernel
theorem dX9_whyOf_53 : decode cX9_whyOf 53 = .ok (.iload_n 2, 1) := by decide +kernel
theorem dX9_whyOf_54 : decode cX9_whyOf 54 = .ok (.iaload, 1) := by decide +kernel
theorem dX9_whyOf_55 : decode cX9_whyOf 55 = .ok (.iload_n 1, 1) := by decide +kernel
theorem dX9_whyOf_56 : decode cX9_whyOf 56 = .ok (.if_icmp .ne 5, 3) := by decide +kernel
theorem dX9_whyOf_59 : decode cX9_whyOf 59 = .ok (.iload_n 2, 1) := by decide +kernel
theorem dX9_whyOf_60 : decode cX9_whyOf 60 = .ok (.ireturn, 1) := by decide +kernel
theorem dX9_whyOf_61 : decode cX9_whyOf 61 = .ok (.iinc 2 1, 3) := by decide +kernel
theorem dX9_whyOf_64 : decode cX9_whyOf 64 = .ok (.goto (-50), 3) := by decide +kernel
theorem dX9_whyOf_67 : decode cX9_whyOf 67 = .ok (.aload_n 0, 1) := by decide +kernel
theorem dX9_whyOf_68 : decode cX9_whyOf 68 = .ok (.getfield 48, 3) := by decide +kernel
theorem dX9_whyOf_71 : decode cX9_whyOf 71 = .ok (.getfield 98, 3) := by decide +kernel
theorem dX9_whyOf_74 : decode cX9_whyOf 74 = .ok (.iload_n 1, 1) := by decide +kernel
theorem dX9_whyOf_75 : decode cX9_whyOf 75 = .ok (.iaload, 1) := by decide +kernel
theorem dX9_whyOf_76 : decode cX9_whyOf 76 = .ok (.iconst 1, 1) := by decide +kernel
theorem dX9_whyOf_77 : decode cX9_whyOf 77 = .ok (.if_icmp .ne 8, 3) := by decide +kernel
theorem dX9_whyOf_80 : decode cX9_whyOf 80 = .ok (.bipush (-2), 2) := by decide +kernel
theorem dX9_whyOf_82 : decode cX9_whyOf 82 = .ok (.goto 5, 3) := by decide +kernel
theorem dX9_whyOf_85 : decode cX9_whyOf 85 = .ok (.bipush (-3), 2) := by decide +kernel
theorem dX9_whyOf_87 : decode cX9_whyOf 87 = .ok (.ireturn, 1) := by decide +kernel
theorem dX9_word_0 : decode cX9_word 0 = .ok (.aload_n 0, 1) := by decide +kernel
theorem dX9_word_1 : decode cX9_word 1 = .ok (.aload_n 0, 1) := by decide +kernel
theorem dX9_word_2 : decode cX9_word 2 = .ok (.aload_n 1, 1) := by decide +kernel
theorem dX9_word_3 : decode cX9_word 3 = .ok (.invokevirtual 175, 3) := by decide +kernel
theorem dX9_word_6 : decode cX9_word 6 = .ok (.invokevirtual 179, 3) := by decide +kernel
theorem dX9_word_9 : decode cX9_word 9 = .ok (.ireturn, 1) := by decide +kernel
