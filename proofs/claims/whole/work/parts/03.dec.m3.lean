theorem dX10_laidBy_17 : decode cX10_laidBy 17 = .ok (.iaload, 1) := by decide +kernel
theorem dX10_laidBy_18 : decode cX10_laidBy 18 = .ok (.if_icmp .le 7, 3) := by decide +kernel
theorem dX10_laidBy_21 : decode cX10_laidBy 21 = .ok (.iconst 1, 1) := by decide +kernel
theorem dX10_laidBy_22 : decode cX10_laidBy 22 = .ok (.goto 10, 3) := by decide +kernel
theorem dX10_laidBy_25 : decode cX10_laidBy 25 = .ok (.aload_n 0, 1) := by decide +kernel
theorem dX10_laidBy_26 : decode cX10_laidBy 26 = .ok (.getfield 62, 3) := by decide +kernel
theorem dX10_laidBy_29 : decode cX10_laidBy 29 = .ok (.iload_n 3, 1) := by decide +kernel
theorem dX10_laidBy_30 : decode cX10_laidBy 30 = .ok (.iaload, 1) := by decide +kernel
theorem dX10_laidBy_31 : decode cX10_laidBy 31 = .ok (.ineg, 1) := by decide +kernel
theorem dX10_laidBy_32 : decode cX10_laidBy 32 = .ok (.ireturn, 1) := by decide +kernel
theorem dX10_boxedBy_0 : decode cX10_boxedBy 0 = .ok (.iload_n 1, 1) := by decide +kernel
theorem dX10_boxedBy_1 : decode cX10_boxedBy 1 = .ok (.iconst 1, 1) := by decide +kernel
theorem dX10_boxedBy_2 : decode cX10_boxedBy 2 = .ok (.iload_n 2, 1) := by decide +kernel
theorem dX10_boxedBy_3 : decode cX10_boxedBy 3 = .ok (.ishl, 1) := by decide +kernel
theorem dX10_boxedBy_4 : decode cX10_boxedBy 4 = .ok (.ior, 1) := by decide +kernel
theorem dX10_boxedBy_5 : decode cX10_boxedBy 5 = .ok (.istore_n 3, 1) := by decide +kernel
theorem dX10_boxedBy_6 : decode cX10_boxedBy 6 = .ok (.aload_n 0, 1) := by decide +kernel
theorem dX10_boxedBy_7 : decode cX10_boxedBy 7 = .ok (.getfield 65, 3) := by decide +kernel
theorem dX10_boxedBy_10 : decode cX10_boxedBy 10 = .ok (.iload_n 3, 1) := by decide +kernel
theorem dX10_boxedBy_11 : decode cX10_boxedBy 11 = .ok (.iaload, 1) := by decide +kernel
theorem dX10_boxedBy_12 : decode cX10_boxedBy 12 = .ok (.aload_n 0, 1) := by decide +kernel
theorem dX10_boxedBy_13 : decode cX10_boxedBy 13 = .ok (.getfield 65, 3) := by decide +kernel
theorem dX10_boxedBy_16 : decode cX10_boxedBy 16 = .ok (.iload_n 1, 1) := by decide +kernel
theorem dX10_boxedBy_17 : decode cX10_boxedBy 17 = .ok (.iaload, 1) := by decide +kernel
theorem dX10_boxedBy_18 : decode cX10_boxedBy 18 = .ok (.isub, 1) := by decide +kernel
theorem dX10_boxedBy_19 : decode cX10_boxedBy 19 = .ok (.istore 4, 2) := by decide +kernel
theorem dX10_boxedBy_21 : decode cX10_boxedBy 21 = .ok (.iload 4, 2) := by decide +kernel
theorem dX10_boxedBy_23 : decode cX10_boxedBy 23 = .ok (.ifCond .le 15, 3) := by decide +kernel
theorem dX10_boxedBy_26 : decode cX10_boxedBy 26 = .ok (.iload 4, 2) := by decide +kernel
theorem dX10_boxedBy_28 : decode cX10_boxedBy 28 = .ok (.aload_n 0, 1) := by decide +kernel
theorem dX10_boxedBy_29 : decode cX10_boxedBy 29 = .ok (.getfield 62, 3) := by decide +kernel
theorem dX10_boxedBy_32 : decode cX10_boxedBy 32 = .ok (.iload_n 3, 1) := by decide +kernel
theorem dX10_boxedBy_33 : decode cX10_boxedBy 33 = .ok (.iaload, 1) := by decide +kernel
theorem dX10_boxedBy_34 : decode cX10_boxedBy 34 = .ok (.iadd, 1) := by decide +kernel
theorem dX10_boxedBy_35 : decode cX10_boxedBy 35 = .ok (.goto 10, 3) := by decide +kernel
theorem dX10_boxedBy_38 : decode cX10_boxedBy 38 = .ok (.aload_n 0, 1) := by decide +kernel
theorem dX10_boxedBy_39 : decode cX10_boxedBy 39 = .ok (.getfield 62, 3) := by decide +kernel
theorem dX10_boxedBy_42 : decode cX10_boxedBy 42 = .ok (.iload_n 3, 1) := by decide +kernel
theorem dX10_boxedBy_43 : decode cX10_boxedBy 43 = .ok (.iaload, 1) := by decide +kernel
theorem dX10_boxedBy_44 : decode cX10_boxedBy 44 = .ok (.ineg, 1) := by decide +kernel
theorem dX10_boxedBy_45 : decode cX10_boxedBy 45 = .ok (.ireturn, 1) := by decide +kernel
theorem dX10_playedBy_0 : decode cX10_playedBy 0 = .ok (.iload_n 3, 1) := by decide +kernel
theorem dX10_playedBy_1 : decode cX10_playedBy 1 = .ok (.ifCond .eq 12, 3) := by decide +kernel
theorem dX10_playedBy_4 : decode cX10_playedBy 4 = .ok (.aload_n 0, 1) := by decide +kernel
theorem dX10_playedBy_5 : decode cX10_playedBy 5 = .ok (.iload_n 1, 1) := by decide +kernel
theorem dX10_playedBy_6 : decode cX10_playedBy 6 = .ok (.iload_n 2, 1) := by decide +kernel
theorem dX10_playedBy_7 : decode cX10_playedBy 7 = .ok (.invokevirtual 311, 3) := by decide +kernel
theorem dX10_playedBy_10 : decode cX10_playedBy 10 = .ok (.goto 9, 3) := by decide +kernel
theorem dX10_playedBy_13 : decode cX10_playedBy 13 = .ok (.aload_n 0, 1) := by decide +kernel
theorem dX10_playedBy_14 : decode cX10_playedBy 14 = .ok (.iload_n 1, 1) := by decide +kernel
theorem dX10_playedBy_15 : decode cX10_playedBy 15 = .ok (.iload_n 2, 1) := by decide +kernel
theorem dX10_playedBy_16 : decode cX10_playedBy 16 = .ok (.invokevirtual 314, 3) := by decide +kernel
theorem dX10_playedBy_19 : decode cX10_playedBy 19 = .ok (.ireturn, 1) := by decide +kernel
theorem dX10_findGame_0 : decode cX10_findGame 0 = .ok (.iconst 1, 1) := by decide +kernel
theorem dX10_findGame_1 : decode cX10_findGame 1 = .ok (.aload_n 0, 1) := by decide +kernel
theorem dX10_findGame_2 : decode cX10_findGame 2 = .ok (.getfield 267, 3) := by decide +kernel
theorem dX10_findGame_5 : decode cX10_findGame 5 = .ok (.ishl, 1) := by decide +kernel
theorem dX10_findGame_6 : decode cX10_findGame 6 = .ok (.iconst 1, 1) := by decide +kernel
theorem dX10_findGame_7 : decode cX10_findGame 7 = .ok (.isub, 1) := by decide +kernel
theorem dX10_findGame_8 : decode cX10_findGame 8 = .ok (.istore_n 2, 1) := by decide +kernel
theorem dX10_findGame_9 : decode cX10_findGame 9 = .ok (.aload_n 0, 1) := by decide +kernel
theorem dX10_findGame_10 : decode cX10_findGame 10 = .ok (.getfield 62, 3) := by decide +kernel
theorem dX10_findGame_13 : decode cX10_findGame 13 = .ok (.iload_n 2, 1) := by decide +kernel
theorem dX10_findGame_14 : decode cX10_findGame 14 = .ok (.iconst 0, 1) := by decide +kernel
theorem dX10_findGame_15 : decode cX10_findGame 15 = .ok (.iastore, 1) := by decide +kernel
theorem dX10_findGame_16 : decode cX10_findGame 16 = .ok (.iload_n 2, 1) := by decide +kernel
theorem dX10_findGame_17 : decode cX10_findGame 17 = .ok (.iconst 1, 1) := by decide +kernel
theorem dX10_findGame_18 : decode cX10_findGame 18 = .ok (.isub, 1) := by decide +kernel
theorem dX10_findGame_19 : decode cX10_findGame 19 = .ok (.istore_n 3, 1) := by decide +kernel
theorem dX10_findGame_20 : decode cX10_findGame 20 = .ok (.iload_n 3, 1) := by decide +kernel
theorem dX10_findGame_21 : decode cX10_findGame 21 = .ok (.ifCond .lt 75, 3) := by decide +kernel
theorem dX10_findGame_24 : decode cX10_findGame 24 = .ok (.ldc_w 317, 3) := by decide +kernel
theorem dX10_findGame_27 : decode cX10_findGame 27 = .ok (.istore 4, 2) := by decide +kernel
theorem dX10_findGame_29 : decode cX10_findGame 29 = .ok (.iconst 0, 1) := by decide +kernel
theorem dX10_findGame_30 : decode cX10_findGame 30 = .ok (.istore 5, 2) := by decide +kernel
theorem dX10_findGame_32 : decode cX10_findGame 32 = .ok (.iload 5, 2) := by decide +kernel
theorem dX10_findGame_34 : decode cX10_findGame 34 = .ok (.aload_n 0, 1) := by decide +kernel
theorem dX10_findGame_35 : decode cX10_findGame 35 = .ok (.getfield 267, 3) := by decide +kernel
theorem dX10_findGame_38 : decode cX10_findGame 38 = .ok (.if_icmp .ge 44, 3) := by decide +kernel
theorem dX10_findGame_41 : decode cX10_findGame 41 = .ok (.iload_n 3, 1) := by decide +kernel
theorem dX10_findGame_42 : decode cX10_findGame 42 = .ok (.iload 5, 2) := by decide +kernel
theorem dX10_findGame_44 : decode cX10_findGame 44 = .ok (.ishr, 1) := by decide +kernel
theorem dX10_findGame_45 : decode cX10_findGame 45 = .ok (.iconst 1, 1) := by decide +kernel
theorem dX10_findGame_46 : decode cX10_findGame 46 = .ok (.iand, 1) := by decide +kernel
theorem dX10_findGame_47 : decode cX10_findGame 47 = .ok (.ifCond .ne 29, 3) := by decide +kernel
theorem dX10_findGame_50 : decode cX10_findGame 50 = .ok (.aload_n 0, 1) := by decide +kernel
theorem dX10_findGame_51 : decode cX10_findGame 51 = .ok (.iload_n 3, 1) := by decide +kernel
theorem dX10_findGame_52 : decode cX10_findGame 52 = .ok (.iload 5, 2) := by decide +kernel
theorem dX10_findGame_54 : decode cX10_findGame 54 = .ok (.iload_n 1, 1) := by decide +kernel
theorem dX10_findGame_55 : decode cX10_findGame 55 = .ok (.invokevirtual 318, 3) := by decide +kernel
theorem dX10_findGame_58 : decode cX10_findGame 58 = .ok (.istore 6, 2) := by decide +kernel
theorem dX10_findGame_60 : decode cX10_findGame 60 = .ok (.iload 6, 2) := by decide +kernel
theorem dX10_findGame_62 : decode cX10_findGame 62 = .ok (.iload 4, 2) := by decide +kernel
theorem dX10_findGame_64 : decode cX10_findGame 64 = .ok (.if_icmp .le 8, 3) := by decide +kernel
theorem dX10_findGame_67 : decode cX10_findGame 67 = .ok (.iload 6, 2) := by decide +kernel
theorem dX10_findGame_69 : decode cX10_findGame 69 = .ok (.goto 5, 3) := by decide +kernel
theorem dX10_findGame_72 : decode cX10_findGame 72 = .ok (.iload 4, 2) := by decide +kernel
theorem dX10_findGame_74 : decode cX10_findGame 74 = .ok (.istore 4, 2) := by decide +kernel
theorem dX10_findGame_76 : decode cX10_findGame 76 = .ok (.iinc 5 1, 3) := by decide +kernel
theorem dX10_findGame_79 : decode cX10_findGame 79 = .ok (.goto (-47), 3) := by decide +kernel
theorem dX10_findGame_82 : decode cX10_findGame 82 = .ok (.aload_n 0, 1) := by decide +kernel
theorem dX10_findGame_83 : decode cX10_findGame 83 = .ok (.getfield 62, 3) := by decide +kernel
theorem dX10_findGame_86 : decode cX10_findGame 86 = .ok (.iload_n 3, 1) := by decide +kernel
theorem dX10_findGame_87 : decode cX10_findGame 87 = .ok (.iload 4, 2) := by decide +kernel
theorem dX10_findGame_89 : decode cX10_findGame 89 = .ok (.iastore, 1) := by decide +kernel
theorem dX10_findGame_90 : decode cX10_findGame 90 = .ok (.iinc 3 (-1), 3) := by decide +kernel
theorem dX10_findGame_93 : decode cX10_findGame 93 = .ok (.goto (-73), 3) := by decide +kernel
theorem dX10_findGame_96 : decode cX10_findGame 96 = .ok (.return_, 1) := by decide +kernel
theorem dX10_bestPlace_0 : decode cX10_bestPlace 0 = .ok (.iconst 0, 1) := by decide +kernel
theorem dX10_bestPlace_1 : decode cX10_bestPlace 1 = .ok (.istore_n 2, 1) := by decide +kernel
theorem dX10_bestPlace_2 : decode cX10_bestPlace 2 = .ok (.aload_n 0, 1) := by decide +kernel
theorem dX10_bestPlace_3 : decode cX10_bestPlace 3 = .ok (.iconst 0, 1) := by decide +kernel
theorem dX10_bestPlace_4 : decode cX10_bestPlace 4 = .ok (.iload_n 2, 1) := by decide +kernel
theorem dX10_bestPlace_5 : decode cX10_bestPlace 5 = .ok (.iload_n 1, 1) := by decide +kernel
theorem dX10_bestPlace_6 : decode cX10_bestPlace 6 = .ok (.invokevirtual 318, 3) := by decide +kernel
theorem dX10_bestPlace_9 : decode cX10_bestPlace 9 = .ok (.aload_n 0, 1) := by decide +kernel
theorem dX10_bestPlace_10 : decode cX10_bestPlace 10 = .ok (.getfield 62, 3) := by decide +kernel
theorem dX10_bestPlace_13 : decode cX10_bestPlace 13 = .ok (.iconst 0, 1) := by decide +kernel
theorem dX10_bestPlace_14 : decode cX10_bestPlace 14 = .ok (.iaload, 1) := by decide +kernel
theorem dX10_bestPlace_15 : decode cX10_bestPlace 15 = .ok (.if_icmp .eq 9, 3) := by decide +kernel
theorem dX10_bestPlace_18 : decode cX10_bestPlace 18 = .ok (.iinc 2 1, 3) := by decide +kernel
theorem dX10_bestPlace_21 : decode cX10_bestPlace 21 = .ok (.goto (-19), 3) := by decide +kernel
theorem dX10_bestPlace_24 : decode cX10_bestPlace 24 = .ok (.aload_n 0, 1) := by decide +kernel
theorem dX10_bestPlace_25 : decode cX10_bestPlace 25 = .ok (.getfield 53, 3) := by decide +kernel
theorem dX10_bestPlace_28 : decode cX10_bestPlace 28 = .ok (.iload_n 2, 1) := by decide +kernel
theorem dX10_bestPlace_29 : decode cX10_bestPlace 29 = .ok (.iaload, 1) := by decide +kernel
theorem dX10_bestPlace_30 : decode cX10_bestPlace 30 = .ok (.ireturn, 1) := by decide +kernel
theorem dX10_laying_0 : decode cX10_laying 0 = .ok (.iload_n 1, 1) := by decide +kernel
theorem dX10_laying_1 : decode cX10_laying 1 = .ok (.i2l, 1) := by decide +kernel
theorem dX10_laying_2 : decode cX10_laying 2 = .ok (.lconst 0, 1) := by decide +kernel
theorem dX10_laying_3 : decode cX10_laying 3 = .ok (.lconst 1, 1) := by decide +kernel
theorem dX10_laying_4 : decode cX10_laying 4 = .ok (.invokestatic 134, 3) := by decide +kernel
theorem dX10_laying_7 : decode cX10_laying 7 = .ok (.ifCond .ne 5, 3) := by decide +kernel
theorem dX10_laying_10 : decode cX10_laying 10 = .ok (.iconst (-1), 1) := by decide +kernel
theorem dX10_laying_11 : decode cX10_laying 11 = .ok (.ireturn, 1) := by decide +kernel
theorem dX10_laying_12 : decode cX10_laying 12 = .ok (.aload_n 0, 1) := by decide +kernel
theorem dX10_laying_13 : decode cX10_laying 13 = .ok (.invokevirtual 322, 3) := by decide +kernel
theorem dX10_laying_16 : decode cX10_laying 16 = .ok (.ifCond .ne 6, 3) := by decide +kernel
theorem dX10_laying_19 : decode cX10_laying 19 = .ok (.bipush (-2), 2) := by decide +kernel
theorem dX10_laying_21 : decode cX10_laying 21 = .ok (.ireturn, 1) := by decide +kernel
theorem dX10_laying_22 : decode cX10_laying 22 = .ok (.aload_n 0, 1) := by decide +kernel
theorem dX10_laying_23 : decode cX10_laying 23 = .ok (.iconst 0, 1) := by decide +kernel
theorem dX10_laying_24 : decode cX10_laying 24 = .ok (.invokevirtual 326, 3) := by decide +kernel
theorem dX10_laying_27 : decode cX10_laying 27 = .ok (.iload_n 1, 1) := by decide +kernel
theorem dX10_laying_28 : decode cX10_laying 28 = .ok (.iconst 1, 1) := by decide +kernel
theorem dX10_laying_29 : decode cX10_laying 29 = .ok (.if_icmp .ne 11, 3) := by decide +kernel
theorem dX10_laying_32 : decode cX10_laying 32 = .ok (.aload_n 0, 1) := by decide +kernel
theorem dX10_laying_33 : decode cX10_laying 33 = .ok (.iconst 0, 1) := by decide +kernel
theorem dX10_laying_34 : decode cX10_laying 34 = .ok (.invokevirtual 329, 3) := by decide +kernel
theorem dX10_laying_37 : decode cX10_laying 37 = .ok (.goto 30, 3) := by decide +kernel
theorem dX10_laying_40 : decode cX10_laying 40 = .ok (.aload_n 0, 1) := by decide +kernel
theorem dX10_laying_41 : decode cX10_laying 41 = .ok (.getfield 62, 3) := by decide +kernel
theorem dX10_laying_44 : decode cX10_laying 44 = .ok (.iconst 0, 1) := by decide +kernel
theorem dX10_laying_45 : decode cX10_laying 45 = .ok (.iaload, 1) := by decide +kernel
theorem dX10_laying_46 : decode cX10_laying 46 = .ok (.ifCond .le 7, 3) := by decide +kernel
theorem dX10_laying_49 : decode cX10_laying 49 = .ok (.iconst 1, 1) := by decide +kernel
theorem dX10_laying_50 : decode cX10_laying 50 = .ok (.goto 17, 3) := by decide +kernel
theorem dX10_laying_53 : decode cX10_laying 53 = .ok (.aload_n 0, 1) := by decide +kernel
theorem dX10_laying_54 : decode cX10_laying 54 = .ok (.getfield 62, 3) := by decide +kernel
theorem dX10_laying_57 : decode cX10_laying 57 = .ok (.iconst 0, 1) := by decide +kernel
theorem dX10_laying_58 : decode cX10_laying 58 = .ok (.iaload, 1) := by decide +kernel
theorem dX10_laying_59 : decode cX10_laying 59 = .ok (.ifCond .ge 7, 3) := by decide +kernel
theorem dX10_laying_62 : decode cX10_laying 62 = .ok (.iconst 2, 1) := by decide +kernel
theorem dX10_laying_63 : decode cX10_laying 63 = .ok (.goto 4, 3) := by decide +kernel
theorem dX10_laying_66 : decode cX10_laying 66 = .ok (.iconst 0, 1) := by decide +kernel
theorem dX10_laying_67 : decode cX10_laying 67 = .ok (.ireturn, 1) := by decide +kernel
theorem dX10_boxes_0 : decode cX10_boxes 0 = .ok (.iload_n 1, 1) := by decide +kernel
theorem dX10_boxes_1 : decode cX10_boxes 1 = .ok (.i2l, 1) := by decide +kernel
theorem dX10_boxes_2 : decode cX10_boxes 2 = .ok (.lconst 0, 1) := by decide +kernel
theorem dX10_boxes_3 : decode cX10_boxes 3 = .ok (.lconst 1, 1) := by decide +kernel
theorem dX10_boxes_4 : decode cX10_boxes 4 = .ok (.invokestatic 134, 3) := by decide +kernel
theorem dX10_boxes_7 : decode cX10_boxes 7 = .ok (.ifCond .ne 5, 3) := by decide +kernel
theorem dX10_boxes_10 : decode cX10_boxes 10 = .ok (.iconst (-1), 1) := by decide +kernel
theorem dX10_boxes_11 : decode cX10_boxes 11 = .ok (.ireturn, 1) := by decide +kernel
theorem dX10_boxes_12 : decode cX10_boxes 12 = .ok (.aload_n 0, 1) := by decide +kernel
theorem dX10_boxes_13 : decode cX10_boxes 13 = .ok (.invokevirtual 322, 3) := by decide +kernel
theorem dX10_boxes_16 : decode cX10_boxes 16 = .ok (.ifCond .ne 6, 3) := by decide +kernel
theorem dX10_boxes_19 : decode cX10_boxes 19 = .ok (.bipush (-2), 2) := by decide +kernel
theorem dX10_boxes_21 : decode cX10_boxes 21 = .ok (.ireturn, 1) := by decide +kernel
theorem dX10_boxes_22 : decode cX10_boxes 22 = .ok (.aload_n 0, 1) := by decide +kernel
theorem dX10_boxes_23 : decode cX10_boxes 23 = .ok (.iconst 1, 1) := by decide +kernel
theorem dX10_boxes_24 : decode cX10_boxes 24 = .ok (.invokevirtual 326, 3) := by decide +kernel
theorem dX10_boxes_27 : decode cX10_boxes 27 = .ok (.iload_n 1, 1) := by decide +kernel
theorem dX10_boxes_28 : decode cX10_boxes 28 = .ok (.iconst 1, 1) := by decide +kernel
theorem dX10_boxes_29 : decode cX10_boxes 29 = .ok (.if_icmp .ne 11, 3) := by decide +kernel
theorem dX10_boxes_32 : decode cX10_boxes 32 = .ok (.aload_n 0, 1) := by decide +kernel
theorem dX10_boxes_33 : decode cX10_boxes 33 = .ok (.iconst 1, 1) := by decide +kernel
theorem dX10_boxes_34 : decode cX10_boxes 34 = .ok (.invokevirtual 329, 3) := by decide +kernel
theorem dX10_boxes_37 : decode cX10_boxes 37 = .ok (.goto 12, 3) := by decide +kernel
theorem dX10_boxes_40 : decode cX10_boxes 40 = .ok (.aload_n 0, 1) := by decide +kernel
theorem dX10_boxes_41 : decode cX10_boxes 41 = .ok (.getfield 62, 3) := by decide +kernel
theorem dX10_boxes_44 : decode cX10_boxes 44 = .ok (.iconst 0, 1) := by decide +kernel
theorem dX10_boxes_45 : decode cX10_boxes 45 = .ok (.iaload, 1) := by decide +kernel
theorem dX10_boxes_46 : decode cX10_boxes 46 = .ok (.bipush 100, 2) := by decide +kernel
theorem dX10_boxes_48 : decode cX10_boxes 48 = .ok (.iadd, 1) := by decide +kernel
theorem dX10_boxes_49 : decode cX10_boxes 49 = .ok (.ireturn, 1) := by decide +kernel
theorem dX10_common_0 : decode cX10_common 0 = .ok (.lload_n 0, 1) := by decide +kernel
theorem dX10_common_1 : decode cX10_common 1 = .ok (.lstore 4, 2) := by decide +kernel
theorem dX10_common_3 : decode cX10_common 3 = .ok (.lload_n 2, 1) := by decide +kernel
theorem dX10_common_4 : decode cX10_common 4 = .ok (.lstore 6, 2) := by decide +kernel
theorem dX10_common_6 : decode cX10_common 6 = .ok (.lload 6, 2) := by decide +kernel
theorem dX10_common_8 : decode cX10_common 8 = .ok (.lconst 0, 1) := by decide +kernel
theorem dX10_common_9 : decode cX10_common 9 = .ok (.lcmp, 1) := by decide +kernel
theorem dX10_common_10 : decode cX10_common 10 = .ok (.ifCond .eq 21, 3) := by decide +kernel
theorem dX10_common_13 : decode cX10_common 13 = .ok (.lload 4, 2) := by decide +kernel
theorem dX10_common_15 : decode cX10_common 15 = .ok (.lload 6, 2) := by decide +kernel
theorem dX10_common_17 : decode cX10_common 17 = .ok (.lrem, 1) := by decide +kernel
theorem dX10_common_18 : decode cX10_common 18 = .ok (.lstore 8, 2) := by decide +kernel
theorem dX10_common_20 : decode cX10_common 20 = .ok (.lload 6, 2) := by decide +kernel
theorem dX10_common_22 : decode cX10_common 22 = .ok (.lstore 4, 2) := by decide +kernel
theorem dX10_common_24 : decode cX10_common 24 = .ok (.lload 8, 2) := by decide +kernel
theorem dX10_common_26 : decode cX10_common 26 = .ok (.lstore 6, 2) := by decide +kernel
theorem dX10_common_28 : decode cX10_common 28 = .ok (.goto (-22), 3) := by decide +kernel
theorem dX10_common_31 : decode cX10_common 31 = .ok (.lload 4, 2) := by decide +kernel
theorem dX10_common_33 : decode cX10_common 33 = .ok (.lreturn, 1) := by decide +kernel
theorem dX10_lowest_0 : decode cX10_lowest 0 = .ok (.lload_n 2, 1) := by decide +kernel
theorem dX10_lowest_1 : decode cX10_lowest 1 = .ok (.lload_n 0, 1) := by decide +kernel
theorem dX10_lowest_2 : decode cX10_lowest 2 = .ok (.invokestatic 332, 3) := by decide +kernel
theorem dX10_lowest_5 : decode cX10_lowest 5 = .ok (.lstore 5, 2) := by decide +kernel
theorem dX10_lowest_7 : decode cX10_lowest 7 = .ok (.iload 4, 2) := by decide +kernel
theorem dX10_lowest_9 : decode cX10_lowest 9 = .ok (.ifCond .ne 10, 3) := by decide +kernel
theorem dX10_lowest_12 : decode cX10_lowest 12 = .ok (.lload_n 0, 1) := by decide +kernel
theorem dX10_lowest_13 : decode cX10_lowest 13 = .ok (.lload 5, 2) := by decide +kernel
theorem dX10_lowest_15 : decode cX10_lowest 15 = .ok (.ldiv, 1) := by decide +kernel
theorem dX10_lowest_16 : decode cX10_lowest 16 = .ok (.goto 7, 3) := by decide +kernel
theorem dX10_lowest_19 : decode cX10_lowest 19 = .ok (.lload_n 2, 1) := by decide +kernel
theorem dX10_lowest_20 : decode cX10_lowest 20 = .ok (.lload 5, 2) := by decide +kernel
theorem dX10_lowest_22 : decode cX10_lowest 22 = .ok (.ldiv, 1) := by decide +kernel
theorem dX10_lowest_23 : decode cX10_lowest 23 = .ok (.lreturn, 1) := by decide +kernel
theorem dX10_mean_0 : decode cX10_mean 0 = .ok (.iload_n 1, 1) := by decide +kernel
theorem dX10_mean_1 : decode cX10_mean 1 = .ok (.i2l, 1) := by decide +kernel
theorem dX10_mean_2 : decode cX10_mean 2 = .ok (.lconst 0, 1) := by decide +kernel
theorem dX10_mean_3 : decode cX10_mean 3 = .ok (.lconst 1, 1) := by decide +kernel
theorem dX10_mean_4 : decode cX10_mean 4 = .ok (.invokestatic 134, 3) := by decide +kernel
theorem dX10_mean_7 : decode cX10_mean 7 = .ok (.ifCond .ne 7, 3) := by decide +kernel
theorem dX10_mean_10 : decode cX10_mean 10 = .ok (.ldc2_w 336, 3) := by decide +kernel
theorem dX10_mean_13 : decode cX10_mean 13 = .ok (.lreturn, 1) := by decide +kernel
theorem dX10_mean_14 : decode cX10_mean 14 = .ok (.lconst 0, 1) := by decide +kernel
theorem dX10_mean_15 : decode cX10_mean 15 = .ok (.lstore_n 2, 1) := by decide +kernel
theorem dX10_mean_16 : decode cX10_mean 16 = .ok (.iconst 0, 1) := by decide +kernel
theorem dX10_mean_17 : decode cX10_mean 17 = .ok (.istore 4, 2) := by decide +kernel
theorem dX10_mean_19 : decode cX10_mean 19 = .ok (.iload 4, 2) := by decide +kernel
theorem dX10_mean_21 : decode cX10_mean 21 = .ok (.aload_n 0, 1) := by decide +kernel
theorem dX10_mean_22 : decode cX10_mean 22 = .ok (.getfield 116, 3) := by decide +kernel
theorem dX10_mean_25 : decode cX10_mean 25 = .ok (.if_icmp .ge 57, 3) := by decide +kernel
theorem dX10_mean_28 : decode cX10_mean 28 = .ok (.lload_n 2, 1) := by decide +kernel
theorem dX10_mean_29 : decode cX10_mean 29 = .ok (.aload_n 0, 1) := by decide +kernel
theorem dX10_mean_30 : decode cX10_mean 30 = .ok (.iload 4, 2) := by decide +kernel
theorem dX10_mean_32 : decode cX10_mean 32 = .ok (.invokevirtual 205, 3) := by decide +kernel
theorem dX10_mean_35 : decode cX10_mean 35 = .ok (.ifCond .eq 38, 3) := by decide +kernel
theorem dX10_mean_38 : decode cX10_mean 38 = .ok (.aload_n 0, 1) := by decide +kernel
theorem dX10_mean_39 : decode cX10_mean 39 = .ok (.getfield 26, 3) := by decide +kernel
theorem dX10_mean_42 : decode cX10_mean 42 = .ok (.iload 4, 2) := by decide +kernel
theorem dX10_mean_44 : decode cX10_mean 44 = .ok (.iaload, 1) := by decide +kernel
theorem dX10_mean_45 : decode cX10_mean 45 = .ok (.aload_n 0, 1) := by decide +kernel
theorem dX10_mean_46 : decode cX10_mean 46 = .ok (.getfield 7, 3) := by decide +kernel
theorem dX10_mean_49 : decode cX10_mean 49 = .ok (.iconst 0, 1) := by decide +kernel
theorem dX10_mean_50 : decode cX10_mean 50 = .ok (.iaload, 1) := by decide +kernel
theorem dX10_mean_51 : decode cX10_mean 51 = .ok (.iconst (-1), 1) := by decide +kernel
theorem dX10_mean_52 : decode cX10_mean 52 = .ok (.ixor, 1) := by decide +kernel
theorem dX10_mean_53 : decode cX10_mean 53 = .ok (.iand, 1) := by decide +kernel
theorem dX10_mean_54 : decode cX10_mean 54 = .ok (.ifCond .ne 19, 3) := by decide +kernel
theorem dX10_mean_57 : decode cX10_mean 57 = .ok (.ldc2_w 338, 3) := by decide +kernel
theorem dX10_mean_60 : decode cX10_mean 60 = .ok (.iconst 4, 1) := by decide +kernel
theorem dX10_mean_61 : decode cX10_mean 61 = .ok (.aload_n 0, 1) := by decide +kernel
theorem dX10_mean_62 : decode cX10_mean 62 = .ok (.getfield 17, 3) := by decide +kernel
theorem dX10_mean_65 : decode cX10_mean 65 = .ok (.iload 4, 2) := by decide +kernel
theorem dX10_mean_67 : decode cX10_mean 67 = .ok (.iaload, 1) := by decide +kernel
theorem dX10_mean_68 : decode cX10_mean 68 = .ok (.imul, 1) := by decide +kernel
theorem dX10_mean_69 : decode cX10_mean 69 = .ok (.lshr, 1) := by decide +kernel
theorem dX10_mean_70 : decode cX10_mean 70 = .ok (.goto 4, 3) := by decide +kernel
theorem dX10_mean_73 : decode cX10_mean 73 = .ok (.lconst 0, 1) := by decide +kernel
theorem dX10_mean_74 : decode cX10_mean 74 = .ok (.ladd, 1) := by decide +kernel
theorem dX10_mean_75 : decode cX10_mean 75 = .ok (.lstore_n 2, 1) := by decide +kernel
theorem dX10_mean_76 : decode cX10_mean 76 = .ok (.iinc 4 1, 3) := by decide +kernel
theorem dX10_mean_79 : decode cX10_mean 79 = .ok (.goto (-60), 3) := by decide +kernel
theorem dX10_mean_82 : decode cX10_mean 82 = .ok (.lload_n 2, 1) := by decide +kernel
theorem dX10_mean_83 : decode cX10_mean 83 = .ok (.ldc2_w 338, 3) := by decide +kernel
theorem dX10_mean_86 : decode cX10_mean 86 = .ok (.iload_n 1, 1) := by decide +kernel
theorem dX10_mean_87 : decode cX10_mean 87 = .ok (.invokestatic 340, 3) := by decide +kernel
theorem dX10_mean_90 : decode cX10_mean 90 = .ok (.lreturn, 1) := by decide +kernel
theorem dX10_chance_0 : decode cX10_chance 0 = .ok (.iload_n 1, 1) := by decide +kernel
theorem dX10_chance_1 : decode cX10_chance 1 = .ok (.i2l, 1) := by decide +kernel
theorem dX10_chance_2 : decode cX10_chance 2 = .ok (.lconst 0, 1) := by decide +kernel
theorem dX10_chance_3 : decode cX10_chance 3 = .ok (.lconst 1, 1) := by decide +kernel
theorem dX10_chance_4 : decode cX10_chance 4 = .ok (.invokestatic 134, 3) := by decide +kernel
theorem dX10_chance_7 : decode cX10_chance 7 = .ok (.ifCond .ne 7, 3) := by decide +kernel
theorem dX10_chance_10 : decode cX10_chance 10 = .ok (.ldc2_w 336, 3) := by decide +kernel
theorem dX10_chance_13 : decode cX10_chance 13 = .ok (.lreturn, 1) := by decide +kernel
theorem dX10_chance_14 : decode cX10_chance 14 = .ok (.aload_n 0, 1) := by decide +kernel
theorem dX10_chance_15 : decode cX10_chance 15 = .ok (.aload_n 0, 1) := by decide +kernel
theorem dX10_chance_16 : decode cX10_chance 16 = .ok (.getfield 7, 3) := by decide +kernel
theorem dX10_chance_19 : decode cX10_chance 19 = .ok (.iconst 0, 1) := by decide +kernel
theorem dX10_chance_20 : decode cX10_chance 20 = .ok (.iaload, 1) := by decide +kernel
theorem dX10_chance_21 : decode cX10_chance 21 = .ok (.invokevirtual 272, 3) := by decide +kernel
theorem dX10_chance_24 : decode cX10_chance 24 = .ok (.aload_n 0, 1) := by decide +kernel
theorem dX10_chance_25 : decode cX10_chance 25 = .ok (.getfield 267, 3) := by decide +kernel
theorem dX10_chance_28 : decode cX10_chance 28 = .ok (.bipush 16, 2) := by decide +kernel
theorem dX10_chance_30 : decode cX10_chance 30 = .ok (.if_icmp .le 7, 3) := by decide +kernel
theorem dX10_chance_33 : decode cX10_chance 33 = .ok (.ldc2_w 344, 3) := by decide +kernel
theorem dX10_chance_36 : decode cX10_chance 36 = .ok (.lreturn, 1) := by decide +kernel
theorem dX10_chance_37 : decode cX10_chance 37 = .ok (.lconst 0, 1) := by decide +kernel
theorem dX10_chance_38 : decode cX10_chance 38 = .ok (.lstore_n 2, 1) := by decide +kernel
theorem dX10_chance_39 : decode cX10_chance 39 = .ok (.iconst 0, 1) := by decide +kernel
theorem dX10_chance_40 : decode cX10_chance 40 = .ok (.istore 4, 2) := by decide +kernel
theorem dX10_chance_42 : decode cX10_chance 42 = .ok (.iload 4, 2) := by decide +kernel
theorem dX10_chance_44 : decode cX10_chance 44 = .ok (.iconst 1, 1) := by decide +kernel
theorem dX10_chance_45 : decode cX10_chance 45 = .ok (.aload_n 0, 1) := by decide +kernel
theorem dX10_chance_46 : decode cX10_chance 46 = .ok (.getfield 267, 3) := by decide +kernel
theorem dX10_chance_49 : decode cX10_chance 49 = .ok (.ishl, 1) := by decide +kernel
theorem dX10_chance_50 : decode cX10_chance 50 = .ok (.if_icmp .ge 30, 3) := by decide +kernel
theorem dX10_chance_53 : decode cX10_chance 53 = .ok (.lload_n 2, 1) := by decide +kernel
theorem dX10_chance_54 : decode cX10_chance 54 = .ok (.aload_n 0, 1) := by decide +kernel
theorem dX10_chance_55 : decode cX10_chance 55 = .ok (.aload_n 0, 1) := by decide +kernel
theorem dX10_chance_56 : decode cX10_chance 56 = .ok (.iload 4, 2) := by decide +kernel
theorem dX10_chance_58 : decode cX10_chance 58 = .ok (.invokevirtual 304, 3) := by decide +kernel
theorem dX10_chance_61 : decode cX10_chance 61 = .ok (.invokevirtual 221, 3) := by decide +kernel
theorem dX10_chance_64 : decode cX10_chance 64 = .ok (.ifCond .ne 7, 3) := by decide +kernel
theorem dX10_chance_67 : decode cX10_chance 67 = .ok (.lconst 1, 1) := by decide +kernel
theorem dX10_chance_68 : decode cX10_chance 68 = .ok (.goto 4, 3) := by decide +kernel
theorem dX10_chance_71 : decode cX10_chance 71 = .ok (.lconst 0, 1) := by decide +kernel
theorem dX10_chance_72 : decode cX10_chance 72 = .ok (.ladd, 1) := by decide +kernel
theorem dX10_chance_73 : decode cX10_chance 73 = .ok (.lstore_n 2, 1) := by decide +kernel
theorem dX10_chance_74 : decode cX10_chance 74 = .ok (.iinc 4 1, 3) := by decide +kernel
theorem dX10_chance_77 : decode cX10_chance 77 = .ok (.goto (-35), 3) := by decide +kernel
theorem dX10_chance_80 : decode cX10_chance 80 = .ok (.lload_n 2, 1) := by decide +kernel
theorem dX10_chance_81 : decode cX10_chance 81 = .ok (.lconst 1, 1) := by decide +kernel
theorem dX10_chance_82 : decode cX10_chance 82 = .ok (.aload_n 0, 1) := by decide +kernel
theorem dX10_chance_83 : decode cX10_chance 83 = .ok (.getfield 267, 3) := by decide +kernel
theorem dX10_chance_86 : decode cX10_chance 86 = .ok (.lshl, 1) := by decide +kernel
theorem dX10_chance_87 : decode cX10_chance 87 = .ok (.iload_n 1, 1) := by decide +kernel
theorem dX10_chance_88 : decode cX10_chance 88 = .ok (.invokestatic 340, 3) := by decide +kernel
theorem dX10_chance_91 : decode cX10_chance 91 = .ok (.lreturn, 1) := by decide +kernel
theorem dX10_see_0 : decode cX10_see 0 = .ok (.iload_n 1, 1) := by decide +kernel
theorem dX10_see_1 : decode cX10_see 1 = .ok (.i2l, 1) := by decide +kernel
theorem dX10_see_2 : decode cX10_see 2 = .ok (.lconst 1, 1) := by decide +kernel
theorem dX10_see_3 : decode cX10_see 3 = .ok (.ldc2_w 216, 3) := by decide +kernel
theorem dX10_see_6 : decode cX10_see 6 = .ok (.invokestatic 134, 3) := by decide +kernel
theorem dX10_see_9 : decode cX10_see 9 = .ok (.ifCond .eq 21, 3) := by decide +kernel
theorem dX10_see_12 : decode cX10_see 12 = .ok (.iload_n 2, 1) := by decide +kernel
theorem dX10_see_13 : decode cX10_see 13 = .ok (.bipush (-4), 2) := by decide +kernel
theorem dX10_see_15 : decode cX10_see 15 = .ok (.if_icmp .eq 17, 3) := by decide +kernel
theorem dX10_see_18 : decode cX10_see 18 = .ok (.iload_n 2, 1) := by decide +kernel
theorem dX10_see_19 : decode cX10_see 19 = .ok (.i2l, 1) := by decide +kernel
theorem dX10_see_20 : decode cX10_see 20 = .ok (.lconst 0, 1) := by decide +kernel
theorem dX10_see_21 : decode cX10_see 21 = .ok (.ldc2_w 346, 3) := by decide +kernel
theorem dX10_see_24 : decode cX10_see 24 = .ok (.invokestatic 134, 3) := by decide +kernel
theorem dX10_see_27 : decode cX10_see 27 = .ok (.ifCond .ne 5, 3) := by decide +kernel
theorem dX10_see_30 : decode cX10_see 30 = .ok (.iconst (-1), 1) := by decide +kernel
theorem dX10_see_31 : decode cX10_see 31 = .ok (.ireturn, 1) := by decide +kernel
theorem dX10_see_32 : decode cX10_see 32 = .ok (.aload_n 0, 1) := by decide +kernel
theorem dX10_see_33 : decode cX10_see 33 = .ok (.getfield 7, 3) := by decide +kernel
theorem dX10_see_36 : decode cX10_see 36 = .ok (.bipush 32, 2) := by decide +kernel
theorem dX10_see_38 : decode cX10_see 38 = .ok (.iload_n 1, 1) := by decide +kernel
theorem dX10_see_39 : decode cX10_see 39 = .ok (.iadd, 1) := by decide +kernel
theorem dX10_see_40 : decode cX10_see 40 = .ok (.iaload, 1) := by decide +kernel
theorem dX10_see_41 : decode cX10_see 41 = .ok (.istore_n 3, 1) := by decide +kernel
theorem dX10_see_42 : decode cX10_see 42 = .ok (.aload_n 0, 1) := by decide +kernel
theorem dX10_see_43 : decode cX10_see 43 = .ok (.getfield 7, 3) := by decide +kernel
theorem dX10_see_46 : decode cX10_see 46 = .ok (.bipush 32, 2) := by decide +kernel
theorem dX10_see_48 : decode cX10_see 48 = .ok (.iload_n 1, 1) := by decide +kernel
theorem dX10_see_49 : decode cX10_see 49 = .ok (.iadd, 1) := by decide +kernel
theorem dX10_see_50 : decode cX10_see 50 = .ok (.iload_n 2, 1) := by decide +kernel
theorem dX10_see_51 : decode cX10_see 51 = .ok (.iastore, 1) := by decide +kernel
theorem dX10_see_52 : decode cX10_see 52 = .ok (.iload_n 3, 1) := by decide +kernel
theorem dX10_see_53 : decode cX10_see 53 = .ok (.ireturn, 1) := by decide +kernel
theorem dX10_isSo_0 : decode cX10_isSo 0 = .ok (.iconst 1, 1) := by decide +kernel
theorem dX10_isSo_1 : decode cX10_isSo 1 = .ok (.istore_n 2, 1) := by decide +kernel
theorem dX10_isSo_2 : decode cX10_isSo 2 = .ok (.iconst 1, 1) := by decide +kernel
theorem dX10_isSo_3 : decode cX10_isSo 3 = .ok (.istore_n 3, 1) := by decide +kernel
theorem dX10_isSo_4 : decode cX10_isSo 4 = .ok (.iload_n 3, 1) := by decide +kernel
theorem dX10_isSo_5 : decode cX10_isSo 5 = .ok (.iconst 3, 1) := by decide +kernel
theorem dX10_isSo_6 : decode cX10_isSo 6 = .ok (.if_icmp .gt 51, 3) := by decide +kernel
theorem dX10_isSo_9 : decode cX10_isSo 9 = .ok (.iload_n 2, 1) := by decide +kernel
theorem dX10_isSo_10 : decode cX10_isSo 10 = .ok (.ifCond .eq 39, 3) := by decide +kernel
theorem dX10_isSo_13 : decode cX10_isSo 13 = .ok (.aload_n 0, 1) := by decide +kernel
theorem dX10_isSo_14 : decode cX10_isSo 14 = .ok (.getfield 7, 3) := by decide +kernel
theorem dX10_isSo_17 : decode cX10_isSo 17 = .ok (.bipush 32, 2) := by decide +kernel
theorem dX10_isSo_19 : decode cX10_isSo 19 = .ok (.iload_n 3, 1) := by decide +kernel
theorem dX10_isSo_20 : decode cX10_isSo 20 = .ok (.iadd, 1) := by decide +kernel
theorem dX10_isSo_21 : decode cX10_isSo 21 = .ok (.iaload, 1) := by decide +kernel
theorem dX10_isSo_22 : decode cX10_isSo 22 = .ok (.bipush (-4), 2) := by decide +kernel
theorem dX10_isSo_24 : decode cX10_isSo 24 = .ok (.if_icmp .eq 21, 3) := by decide +kernel
theorem dX10_isSo_27 : decode cX10_isSo 27 = .ok (.aload_n 0, 1) := by decide +kernel
theorem dX10_isSo_28 : decode cX10_isSo 28 = .ok (.iload_n 3, 1) := by decide +kernel
theorem dX10_isSo_29 : decode cX10_isSo 29 = .ok (.iload_n 1, 1) := by decide +kernel
theorem dX10_isSo_30 : decode cX10_isSo 30 = .ok (.invokevirtual 218, 3) := by decide +kernel
theorem dX10_isSo_33 : decode cX10_isSo 33 = .ok (.aload_n 0, 1) := by decide +kernel
theorem dX10_isSo_34 : decode cX10_isSo 34 = .ok (.getfield 7, 3) := by decide +kernel
theorem dX10_isSo_37 : decode cX10_isSo 37 = .ok (.bipush 32, 2) := by decide +kernel
theorem dX10_isSo_39 : decode cX10_isSo 39 = .ok (.iload_n 3, 1) := by decide +kernel
theorem dX10_isSo_40 : decode cX10_isSo 40 = .ok (.iadd, 1) := by decide +kernel
theorem dX10_isSo_41 : decode cX10_isSo 41 = .ok (.iaload, 1) := by decide +kernel
theorem dX10_isSo_42 : decode cX10_isSo 42 = .ok (.if_icmp .ne 7, 3) := by decide +kernel
theorem dX10_isSo_45 : decode cX10_isSo 45 = .ok (.iconst 1, 1) := by decide +kernel
theorem dX10_isSo_46 : decode cX10_isSo 46 = .ok (.goto 4, 3) := by decide +kernel
theorem dX10_isSo_49 : decode cX10_isSo 49 = .ok (.iconst 0, 1) := by decide +kernel
theorem dX10_isSo_50 : decode cX10_isSo 50 = .ok (.istore_n 2, 1) := by decide +kernel
theorem dX10_isSo_51 : decode cX10_isSo 51 = .ok (.iinc 3 1, 3) := by decide +kernel
theorem dX10_isSo_54 : decode cX10_isSo 54 = .ok (.goto (-50), 3) := by decide +kernel
theorem dX10_isSo_57 : decode cX10_isSo 57 = .ok (.iload_n 2, 1) := by decide +kernel
theorem dX10_isSo_58 : decode cX10_isSo 58 = .ok (.ireturn, 1) := by decide +kernel
theorem dX10_gone_0 : decode cX10_gone 0 = .ok (.iload_n 1, 1) := by decide +kernel
theorem dX10_gone_1 : decode cX10_gone 1 = .ok (.i2l, 1) := by decide +kernel
theorem dX10_gone_2 : decode cX10_gone 2 = .ok (.lconst 0, 1) := by decide +kernel
theorem dX10_gone_3 : decode cX10_gone 3 = .ok (.ldc2_w 270, 3) := by decide +kernel
theorem dX10_gone_6 : decode cX10_gone 6 = .ok (.invokestatic 134, 3) := by decide +kernel
theorem dX10_gone_9 : decode cX10_gone 9 = .ok (.ifCond .eq 15, 3) := by decide +kernel
theorem dX10_gone_12 : decode cX10_gone 12 = .ok (.iload_n 2, 1) := by decide +kernel
theorem dX10_gone_13 : decode cX10_gone 13 = .ok (.i2l, 1) := by decide +kernel
theorem dX10_gone_14 : decode cX10_gone 14 = .ok (.lconst 0, 1) := by decide +kernel
theorem dX10_gone_15 : decode cX10_gone 15 = .ok (.ldc2_w 249, 3) := by decide +kernel
theorem dX10_gone_18 : decode cX10_gone 18 = .ok (.invokestatic 134, 3) := by decide +kernel
theorem dX10_gone_21 : decode cX10_gone 21 = .ok (.ifCond .ne 5, 3) := by decide +kernel
theorem dX10_gone_24 : decode cX10_gone 24 = .ok (.iconst (-1), 1) := by decide +kernel
theorem dX10_gone_25 : decode cX10_gone 25 = .ok (.ireturn, 1) := by decide +kernel
theorem dX10_gone_26 : decode cX10_gone 26 = .ok (.aload_n 0, 1) := by decide +kernel
theorem dX10_gone_27 : decode cX10_gone 27 = .ok (.aload_n 0, 1) := by decide +kernel
theorem dX10_gone_28 : decode cX10_gone 28 = .ok (.getfield 7, 3) := by decide +kernel
theorem dX10_gone_31 : decode cX10_gone 31 = .ok (.iconst 0, 1) := by decide +kernel
theorem dX10_gone_32 : decode cX10_gone 32 = .ok (.iaload, 1) := by decide +kernel
theorem dX10_gone_33 : decode cX10_gone 33 = .ok (.invokevirtual 272, 3) := by decide +kernel
theorem dX10_gone_36 : decode cX10_gone 36 = .ok (.aload_n 0, 1) := by decide +kernel
theorem dX10_gone_37 : decode cX10_gone 37 = .ok (.invokevirtual 295, 3) := by decide +kernel
theorem dX10_gone_40 : decode cX10_gone 40 = .ok (.aload_n 0, 1) := by decide +kernel
theorem dX10_gone_41 : decode cX10_gone 41 = .ok (.iload_n 1, 1) := by decide +kernel
theorem dX10_gone_42 : decode cX10_gone 42 = .ok (.invokevirtual 275, 3) := by decide +kernel
theorem dX10_gone_45 : decode cX10_gone 45 = .ok (.aload_n 0, 1) := by decide +kernel
theorem dX10_gone_46 : decode cX10_gone 46 = .ok (.getfield 267, 3) := by decide +kernel
theorem dX10_gone_49 : decode cX10_gone 49 = .ok (.iload_n 1, 1) := by decide +kernel
theorem dX10_gone_50 : decode cX10_gone 50 = .ok (.if_icmp .lt 7, 3) := by decide +kernel
theorem dX10_gone_53 : decode cX10_gone 53 = .ok (.iconst 1, 1) := by decide +kernel
theorem dX10_gone_54 : decode cX10_gone 54 = .ok (.goto 4, 3) := by decide +kernel
theorem dX10_gone_57 : decode cX10_gone 57 = .ok (.iconst 0, 1) := by decide +kernel
theorem dX10_gone_58 : decode cX10_gone 58 = .ok (.istore_n 3, 1) := by decide +kernel
theorem dX10_gone_59 : decode cX10_gone 59 = .ok (.iload_n 3, 1) := by decide +kernel
theorem dX10_gone_60 : decode cX10_gone 60 = .ok (.ifCond .eq 43, 3) := by decide +kernel
theorem dX10_gone_63 : decode cX10_gone 63 = .ok (.aload_n 0, 1) := by decide +kernel
theorem dX10_gone_64 : decode cX10_gone 64 = .ok (.iload_n 1, 1) := by decide +kernel
theorem dX10_gone_65 : decode cX10_gone 65 = .ok (.invokevirtual 278, 3) := by decide +kernel
theorem dX10_gone_68 : decode cX10_gone 68 = .ok (.istore 4, 2) := by decide +kernel
theorem dX10_gone_70 : decode cX10_gone 70 = .ok (.aload_n 0, 1) := by decide +kernel
theorem dX10_gone_71 : decode cX10_gone 71 = .ok (.aload_n 0, 1) := by decide +kernel
theorem dX10_gone_72 : decode cX10_gone 72 = .ok (.getfield 7, 3) := by decide +kernel
theorem dX10_gone_75 : decode cX10_gone 75 = .ok (.iconst 0, 1) := by decide +kernel
theorem dX10_gone_76 : decode cX10_gone 76 = .ok (.iaload, 1) := by decide +kernel
theorem dX10_gone_77 : decode cX10_gone 77 = .ok (.iload 4, 2) := by decide +kernel
theorem dX10_gone_79 : decode cX10_gone 79 = .ok (.iconst (-1), 1) := by decide +kernel
theorem dX10_gone_80 : decode cX10_gone 80 = .ok (.ixor, 1) := by decide +kernel
theorem dX10_gone_81 : decode cX10_gone 81 = .ok (.iand, 1) := by decide +kernel
theorem dX10_gone_82 : decode cX10_gone 82 = .ok (.invokevirtual 348, 3) := by decide +kernel
theorem dX10_gone_85 : decode cX10_gone 85 = .ok (.ifCond .eq 9, 3) := by decide +kernel
theorem dX10_gone_88 : decode cX10_gone 88 = .ok (.aload_n 0, 1) := by decide +kernel
theorem dX10_gone_89 : decode cX10_gone 89 = .ok (.iload 4, 2) := by decide +kernel
theorem dX10_gone_91 : decode cX10_gone 91 = .ok (.invokevirtual 298, 3) := by decide +kernel
theorem dX10_gone_94 : decode cX10_gone 94 = .ok (.aload_n 0, 1) := by decide +kernel
theorem dX10_gone_95 : decode cX10_gone 95 = .ok (.iload_n 1, 1) := by decide +kernel
theorem dX10_gone_96 : decode cX10_gone 96 = .ok (.invokevirtual 281, 3) := by decide +kernel
theorem dX10_gone_99 : decode cX10_gone 99 = .ok (.istore_n 3, 1) := by decide +kernel
theorem dX10_gone_100 : decode cX10_gone 100 = .ok (.goto (-41), 3) := by decide +kernel
theorem dX10_gone_103 : decode cX10_gone 103 = .ok (.iload_n 2, 1) := by decide +kernel
theorem dX10_gone_104 : decode cX10_gone 104 = .ok (.ifCond .ne 10, 3) := by decide +kernel
theorem dX10_gone_107 : decode cX10_gone 107 = .ok (.aload_n 0, 1) := by decide +kernel
theorem dX10_gone_108 : decode cX10_gone 108 = .ok (.getfield 284, 3) := by decide +kernel
theorem dX10_gone_111 : decode cX10_gone 111 = .ok (.goto 31, 3) := by decide +kernel
theorem dX10_gone_114 : decode cX10_gone 114 = .ok (.aload_n 0, 1) := by decide +kernel
theorem dX10_gone_115 : decode cX10_gone 115 = .ok (.getfield 284, 3) := by decide +kernel
theorem dX10_gone_118 : decode cX10_gone 118 = .ok (.ifCond .ne 8, 3) := by decide +kernel
theorem dX10_gone_121 : decode cX10_gone 121 = .ok (.bipush (-4), 2) := by decide +kernel
theorem dX10_gone_123 : decode cX10_gone 123 = .ok (.goto 19, 3) := by decide +kernel
theorem dX10_gone_126 : decode cX10_gone 126 = .ok (.iload_n 2, 1) := by decide +kernel
theorem dX10_gone_127 : decode cX10_gone 127 = .ok (.iconst 1, 1) := by decide +kernel
theorem dX10_gone_128 : decode cX10_gone 128 = .ok (.if_icmp .ne 10, 3) := by decide +kernel
theorem dX10_gone_131 : decode cX10_gone 131 = .ok (.aload_n 0, 1) := by decide +kernel
theorem dX10_gone_132 : decode cX10_gone 132 = .ok (.getfield 287, 3) := by decide +kernel
theorem dX10_gone_135 : decode cX10_gone 135 = .ok (.goto 7, 3) := by decide +kernel
theorem dX10_gone_138 : decode cX10_gone 138 = .ok (.aload_n 0, 1) := by decide +kernel
theorem dX10_gone_139 : decode cX10_gone 139 = .ok (.getfield 290, 3) := by decide +kernel
theorem dX10_gone_142 : decode cX10_gone 142 = .ok (.ireturn, 1) := by decide +kernel
theorem dX10_play_0 : decode cX10_play 0 = .ok (.iload_n 2, 1) := by decide +kernel
theorem dX10_play_1 : decode cX10_play 1 = .ok (.i2l, 1) := by decide +kernel
theorem dX10_play_2 : decode cX10_play 2 = .ok (.lconst 0, 1) := by decide +kernel
theorem dX10_play_3 : decode cX10_play 3 = .ok (.ldc2_w 351, 3) := by decide +kernel
theorem dX10_play_6 : decode cX10_play 6 = .ok (.invokestatic 134, 3) := by decide +kernel
theorem dX10_play_9 : decode cX10_play 9 = .ok (.ifCond .ne 5, 3) := by decide +kernel
theorem dX10_play_12 : decode cX10_play 12 = .ok (.iconst (-1), 1) := by decide +kernel
theorem dX10_play_13 : decode cX10_play 13 = .ok (.ireturn, 1) := by decide +kernel
theorem dX10_play_14 : decode cX10_play 14 = .ok (.iload_n 1, 1) := by decide +kernel
theorem dX10_play_15 : decode cX10_play 15 = .ok (.istore_n 3, 1) := by decide +kernel
theorem dX10_play_16 : decode cX10_play 16 = .ok (.aload_n 0, 1) := by decide +kernel
theorem dX10_play_17 : decode cX10_play 17 = .ok (.getfield 7, 3) := by decide +kernel
theorem dX10_play_20 : decode cX10_play 20 = .ok (.iconst 0, 1) := by decide +kernel
theorem dX10_play_21 : decode cX10_play 21 = .ok (.iaload, 1) := by decide +kernel
theorem dX10_play_22 : decode cX10_play 22 = .ok (.istore 4, 2) := by decide +kernel
theorem dX10_play_24 : decode cX10_play 24 = .ok (.iconst 0, 1) := by decide +kernel
theorem dX10_play_25 : decode cX10_play 25 = .ok (.istore 5, 2) := by decide +kernel
theorem dX10_play_27 : decode cX10_play 27 = .ok (.iload 5, 2) := by decide +kernel
theorem dX10_play_29 : decode cX10_play 29 = .ok (.iload_n 2, 1) := by decide +kernel
theorem dX10_play_30 : decode cX10_play 30 = .ok (.if_icmp .ge 41, 3) := by decide +kernel
theorem dX10_play_33 : decode cX10_play 33 = .ok (.iload_n 3, 1) := by decide +kernel
theorem dX10_play_34 : decode cX10_play 34 = .ok (.ldc_w 353, 3) := by decide +kernel
theorem dX10_play_37 : decode cX10_play 37 = .ok (.imul, 1) := by decide +kernel
theorem dX10_play_38 : decode cX10_play 38 = .ok (.sipush 12345, 3) := by decide +kernel
theorem dX10_play_41 : decode cX10_play 41 = .ok (.iadd, 1) := by decide +kernel
theorem dX10_play_42 : decode cX10_play 42 = .ok (.istore_n 3, 1) := by decide +kernel
theorem dX10_play_43 : decode cX10_play 43 = .ok (.iload 4, 2) := by decide +kernel
theorem dX10_play_45 : decode cX10_play 45 = .ok (.iconst 1, 1) := by decide +kernel
theorem dX10_play_46 : decode cX10_play 46 = .ok (.iload_n 3, 1) := by decide +kernel
theorem dX10_play_47 : decode cX10_play 47 = .ok (.bipush 16, 2) := by decide +kernel
theorem dX10_play_49 : decode cX10_play 49 = .ok (.ishr, 1) := by decide +kernel
theorem dX10_play_50 : decode cX10_play 50 = .ok (.sipush 32767, 3) := by decide +kernel
theorem dX10_play_53 : decode cX10_play 53 = .ok (.iand, 1) := by decide +kernel
theorem dX10_play_54 : decode cX10_play 54 = .ok (.aload_n 0, 1) := by decide +kernel
theorem dX10_play_55 : decode cX10_play 55 = .ok (.getfield 123, 3) := by decide +kernel
theorem dX10_play_58 : decode cX10_play 58 = .ok (.irem, 1) := by decide +kernel
theorem dX10_play_59 : decode cX10_play 59 = .ok (.ishl, 1) := by decide +kernel
theorem dX10_play_60 : decode cX10_play 60 = .ok (.iconst (-1), 1) := by decide +kernel
theorem dX10_play_61 : decode cX10_play 61 = .ok (.ixor, 1) := by decide +kernel
theorem dX10_play_62 : decode cX10_play 62 = .ok (.iand, 1) := by decide +kernel
theorem dX10_play_63 : decode cX10_play 63 = .ok (.istore 4, 2) := by decide +kernel
theorem dX10_play_65 : decode cX10_play 65 = .ok (.iinc 5 1, 3) := by decide +kernel
theorem dX10_play_68 : decode cX10_play 68 = .ok (.goto (-41), 3) := by decide +kernel
theorem dX10_play_71 : decode cX10_play 71 = .ok (.aload_n 0, 1) := by decide +kernel
theorem dX10_play_72 : decode cX10_play 72 = .ok (.iload 4, 2) := by decide +kernel
theorem dX10_play_74 : decode cX10_play 74 = .ok (.invokevirtual 221, 3) := by decide +kernel
theorem dX10_play_77 : decode cX10_play 77 = .ok (.ireturn, 1) := by decide +kernel
theorem dX10_copies_0 : decode cX10_copies 0 = .ok (.iconst 0, 1) := by decide +kernel
theorem dX10_copies_1 : decode cX10_copies 1 = .ok (.istore_n 3, 1) := by decide +kernel
theorem dX10_copies_2 : decode cX10_copies 2 = .ok (.iload_n 3, 1) := by decide +kernel
theorem dX10_copies_3 : decode cX10_copies 3 = .ok (.bipush 36, 2) := by decide +kernel
theorem dX10_copies_5 : decode cX10_copies 5 = .ok (.if_icmp .ge 25, 3) := by decide +kernel
theorem dX10_copies_8 : decode cX10_copies 8 = .ok (.aload_n 0, 1) := by decide +kernel
theorem dX10_copies_9 : decode cX10_copies 9 = .ok (.getfield 7, 3) := by decide +kernel
theorem dX10_copies_12 : decode cX10_copies 12 = .ok (.iload_n 1, 1) := by decide +kernel
theorem dX10_copies_13 : decode cX10_copies 13 = .ok (.iload_n 3, 1) := by decide +kernel
theorem dX10_copies_14 : decode cX10_copies 14 = .ok (.iadd, 1) := by decide +kernel
theorem dX10_copies_15 : decode cX10_copies 15 = .ok (.aload_n 0, 1) := by decide +kernel
theorem dX10_copies_16 : decode cX10_copies 16 = .ok (.getfield 7, 3) := by decide +kernel
theorem dX10_copies_19 : decode cX10_copies 19 = .ok (.iload_n 2, 1) := by decide +kernel
theorem dX10_copies_20 : decode cX10_copies 20 = .ok (.iload_n 3, 1) := by decide +kernel
theorem dX10_copies_21 : decode cX10_copies 21 = .ok (.iadd, 1) := by decide +kernel
theorem dX10_copies_22 : decode cX10_copies 22 = .ok (.iaload, 1) := by decide +kernel
theorem dX10_copies_23 : decode cX10_copies 23 = .ok (.iastore, 1) := by decide +kernel
theorem dX10_copies_24 : decode cX10_copies 24 = .ok (.iinc 3 1, 3) := by decide +kernel
theorem dX10_copies_27 : decode cX10_copies 27 = .ok (.goto (-25), 3) := by decide +kernel
theorem dX10_copies_30 : decode cX10_copies 30 = .ok (.return_, 1) := by decide +kernel
theorem dX10_keep_0 : decode cX10_keep 0 = .ok (.iload_n 1, 1) := by decide +kernel
theorem dX10_keep_1 : decode cX10_keep 1 = .ok (.i2l, 1) := by decide +kernel
theorem dX10_keep_2 : decode cX10_keep 2 = .ok (.lconst 0, 1) := by decide +kernel
theorem dX10_keep_3 : decode cX10_keep 3 = .ok (.lconst 1, 1) := by decide +kernel
theorem dX10_keep_4 : decode cX10_keep 4 = .ok (.invokestatic 134, 3) := by decide +kernel
theorem dX10_keep_7 : decode cX10_keep 7 = .ok (.ifCond .ne 5, 3) := by decide +kernel
theorem dX10_keep_10 : decode cX10_keep 10 = .ok (.iconst (-1), 1) := by decide +kernel
theorem dX10_keep_11 : decode cX10_keep 11 = .ok (.ireturn, 1) := by decide +kernel
theorem dX10_keep_12 : decode cX10_keep 12 = .ok (.aload_n 0, 1) := by decide +kernel
theorem dX10_keep_13 : decode cX10_keep 13 = .ok (.getfield 13, 3) := by decide +kernel
theorem dX10_keep_16 : decode cX10_keep 16 = .ok (.iload_n 1, 1) := by decide +kernel
theorem dX10_keep_17 : decode cX10_keep 17 = .ok (.baload, 1) := by decide +kernel
theorem dX10_keep_18 : decode cX10_keep 18 = .ok (.invokestatic 209, 3) := by decide +kernel
theorem dX10_keep_21 : decode cX10_keep 21 = .ok (.istore_n 2, 1) := by decide +kernel
theorem dX10_keep_22 : decode cX10_keep 22 = .ok (.aload_n 0, 1) := by decide +kernel
theorem dX10_keep_23 : decode cX10_keep 23 = .ok (.getfield 13, 3) := by decide +kernel
theorem dX10_keep_26 : decode cX10_keep 26 = .ok (.iload_n 1, 1) := by decide +kernel
theorem dX10_keep_27 : decode cX10_keep 27 = .ok (.iconst 1, 1) := by decide +kernel
theorem dX10_keep_28 : decode cX10_keep 28 = .ok (.bastore, 1) := by decide +kernel
theorem dX10_keep_29 : decode cX10_keep 29 = .ok (.aload_n 0, 1) := by decide +kernel
theorem dX10_keep_30 : decode cX10_keep 30 = .ok (.bipush 36, 2) := by decide +kernel
theorem dX10_keep_32 : decode cX10_keep 32 = .ok (.iload_n 1, 1) := by decide +kernel
theorem dX10_keep_33 : decode cX10_keep 33 = .ok (.iconst 1, 1) := by decide +kernel
theorem dX10_keep_34 : decode cX10_keep 34 = .ok (.iadd, 1) := by decide +kernel
theorem dX10_keep_35 : decode cX10_keep 35 = .ok (.imul, 1) := by decide +kernel
theorem dX10_keep_36 : decode cX10_keep 36 = .ok (.iconst 0, 1) := by decide +kernel
theorem dX10_keep_37 : decode cX10_keep 37 = .ok (.invokevirtual 354, 3) := by decide +kernel
theorem dX10_keep_40 : decode cX10_keep 40 = .ok (.iload_n 2, 1) := by decide +kernel
theorem dX10_keep_41 : decode cX10_keep 41 = .ok (.ireturn, 1) := by decide +kernel
theorem dX10_back_0 : decode cX10_back 0 = .ok (.iload_n 1, 1) := by decide +kernel
theorem dX10_back_1 : decode cX10_back 1 = .ok (.i2l, 1) := by decide +kernel
theorem dX10_back_2 : decode cX10_back 2 = .ok (.lconst 0, 1) := by decide +kernel
theorem dX10_back_3 : decode cX10_back 3 = .ok (.lconst 1, 1) := by decide +kernel
theorem dX10_back_4 : decode cX10_back 4 = .ok (.invokestatic 134, 3) := by decide +kernel
theorem dX10_back_7 : decode cX10_back 7 = .ok (.ifCond .ne 5, 3) := by decide +kernel
theorem dX10_back_10 : decode cX10_back 10 = .ok (.iconst (-1), 1) := by decide +kernel
theorem dX10_back_11 : decode cX10_back 11 = .ok (.ireturn, 1) := by decide +kernel
theorem dX10_back_12 : decode cX10_back 12 = .ok (.aload_n 0, 1) := by decide +kernel
theorem dX10_back_13 : decode cX10_back 13 = .ok (.getfield 13, 3) := by decide +kernel
theorem dX10_back_16 : decode cX10_back 16 = .ok (.iload_n 1, 1) := by decide +kernel
theorem dX10_back_17 : decode cX10_back 17 = .ok (.baload, 1) := by decide +kernel
theorem dX10_back_18 : decode cX10_back 18 = .ok (.ifCond .ne 6, 3) := by decide +kernel
theorem dX10_back_21 : decode cX10_back 21 = .ok (.bipush (-2), 2) := by decide +kernel
theorem dX10_back_23 : decode cX10_back 23 = .ok (.ireturn, 1) := by decide +kernel
theorem dX10_back_24 : decode cX10_back 24 = .ok (.aload_n 0, 1) := by decide +kernel
theorem dX10_back_25 : decode cX10_back 25 = .ok (.iconst 0, 1) := by decide +kernel
theorem dX10_back_26 : decode cX10_back 26 = .ok (.bipush 36, 2) := by decide +kernel
theorem dX10_back_28 : decode cX10_back 28 = .ok (.iload_n 1, 1) := by decide +kernel
theorem dX10_back_29 : decode cX10_back 29 = .ok (.iconst 1, 1) := by decide +kernel
theorem dX10_back_30 : decode cX10_back 30 = .ok (.iadd, 1) := by decide +kernel
theorem dX10_back_31 : decode cX10_back 31 = .ok (.imul, 1) := by decide +kernel
theorem dX10_back_32 : decode cX10_back 32 = .ok (.invokevirtual 354, 3) := by decide +kernel
theorem dX10_back_35 : decode cX10_back 35 = .ok (.aload_n 0, 1) := by decide +kernel
theorem dX10_back_36 : decode cX10_back 36 = .ok (.aload_n 0, 1) := by decide +kernel
theorem dX10_back_37 : decode cX10_back 37 = .ok (.getfield 7, 3) := by decide +kernel
theorem dX10_back_40 : decode cX10_back 40 = .ok (.iconst 0, 1) := by decide +kernel
theorem dX10_back_41 : decode cX10_back 41 = .ok (.iaload, 1) := by decide +kernel
theorem dX10_back_42 : decode cX10_back 42 = .ok (.invokevirtual 221, 3) := by decide +kernel
theorem dX10_back_45 : decode cX10_back 45 = .ok (.ireturn, 1) := by decide +kernel
theorem dX10_isSheet_0 : decode cX10_isSheet 0 = .ok (.iload_n 0, 1) := by decide +kernel
theorem dX10_isSheet_1 : decode cX10_isSheet 1 = .ok (.i2l, 1) := by decide +kernel
theorem dX10_isSheet_2 : decode cX10_isSheet 2 = .ok (.lconst 0, 1) := by decide +kernel
theorem dX10_isSheet_3 : decode cX10_isSheet 3 = .ok (.ldc2_w 216, 3) := by decide +kernel
theorem dX10_isSheet_6 : decode cX10_isSheet 6 = .ok (.invokestatic 134, 3) := by decide +kernel
theorem dX10_isSheet_9 : decode cX10_isSheet 9 = .ok (.ifCond .eq 19, 3) := by decide +kernel
theorem dX10_isSheet_12 : decode cX10_isSheet 12 = .ok (.iload_n 1, 1) := by decide +kernel
theorem dX10_isSheet_13 : decode cX10_isSheet 13 = .ok (.i2l, 1) := by decide +kernel
theorem dX10_isSheet_14 : decode cX10_isSheet 14 = .ok (.lconst 0, 1) := by decide +kernel
theorem dX10_isSheet_15 : decode cX10_isSheet 15 = .ok (.ldc2_w 249, 3) := by decide +kernel
theorem dX10_isSheet_18 : decode cX10_isSheet 18 = .ok (.invokestatic 134, 3) := by decide +kernel
theorem dX10_isSheet_21 : decode cX10_isSheet 21 = .ok (.ifCond .eq 7, 3) := by decide +kernel
theorem dX10_isSheet_24 : decode cX10_isSheet 24 = .ok (.iconst 1, 1) := by decide +kernel
theorem dX10_isSheet_25 : decode cX10_isSheet 25 = .ok (.goto 4, 3) := by decide +kernel
theorem dX10_isSheet_28 : decode cX10_isSheet 28 = .ok (.iconst 0, 1) := by decide +kernel
theorem dX10_isSheet_29 : decode cX10_isSheet 29 = .ok (.ireturn, 1) := by decide +kernel
theorem dX10_sheet_0 : decode cX10_sheet 0 = .ok (.iload_n 1, 1) := by decide +kernel
theorem dX10_sheet_1 : decode cX10_sheet 1 = .ok (.iload_n 2, 1) := by decide +kernel
theorem dX10_sheet_2 : decode cX10_sheet 2 = .ok (.invokestatic 357, 3) := by decide +kernel
theorem dX10_sheet_5 : decode cX10_sheet 5 = .ok (.ifCond .eq 9, 3) := by decide +kernel
theorem dX10_sheet_8 : decode cX10_sheet 8 = .ok (.iload_n 3, 1) := by decide +kernel
theorem dX10_sheet_9 : decode cX10_sheet 9 = .ok (.bipush 40, 2) := by decide +kernel
theorem dX10_sheet_11 : decode cX10_sheet 11 = .ok (.if_icmp .le 5, 3) := by decide +kernel
theorem dX10_sheet_14 : decode cX10_sheet 14 = .ok (.iconst (-1), 1) := by decide +kernel
theorem dX10_sheet_15 : decode cX10_sheet 15 = .ok (.ireturn, 1) := by decide +kernel
theorem dX10_sheet_16 : decode cX10_sheet 16 = .ok (.iload_n 3, 1) := by decide +kernel
theorem dX10_sheet_17 : decode cX10_sheet 17 = .ok (.ifCond .ge 6, 3) := by decide +kernel
theorem dX10_sheet_20 : decode cX10_sheet 20 = .ok (.bipush (-14), 2) := by decide +kernel
theorem dX10_sheet_22 : decode cX10_sheet 22 = .ok (.ireturn, 1) := by decide +kernel
theorem dX10_sheet_23 : decode cX10_sheet 23 = .ok (.aload_n 0, 1) := by decide +kernel
theorem dX10_sheet_24 : decode cX10_sheet 24 = .ok (.getfield 68, 3) := by decide +kernel
theorem dX10_sheet_27 : decode cX10_sheet 27 = .ok (.iload_n 1, 1) := by decide +kernel
theorem dX10_sheet_28 : decode cX10_sheet 28 = .ok (.iload_n 2, 1) := by decide +kernel
theorem dX10_sheet_29 : decode cX10_sheet 29 = .ok (.iastore, 1) := by decide +kernel
theorem dX10_sheet_30 : decode cX10_sheet 30 = .ok (.aload_n 0, 1) := by decide +kernel
theorem dX10_sheet_31 : decode cX10_sheet 31 = .ok (.getfield 71, 3) := by decide +kernel
theorem dX10_sheet_34 : decode cX10_sheet 34 = .ok (.iload_n 1, 1) := by decide +kernel
theorem dX10_sheet_35 : decode cX10_sheet 35 = .ok (.iload_n 3, 1) := by decide +kernel
theorem dX10_sheet_36 : decode cX10_sheet 36 = .ok (.iastore, 1) := by decide +kernel
theorem dX10_sheet_37 : decode cX10_sheet 37 = .ok (.iconst 0, 1) := by decide +kernel
theorem dX10_sheet_38 : decode cX10_sheet 38 = .ok (.istore 4, 2) := by decide +kernel
theorem dX10_sheet_40 : decode cX10_sheet 40 = .ok (.iload 4, 2) := by decide +kernel
theorem dX10_sheet_42 : decode cX10_sheet 42 = .ok (.bipush 40, 2) := by decide +kernel
theorem dX10_sheet_44 : decode cX10_sheet 44 = .ok (.if_icmp .ge 22, 3) := by decide +kernel
theorem dX10_sheet_47 : decode cX10_sheet 47 = .ok (.aload_n 0, 1) := by decide +kernel
theorem dX10_sheet_48 : decode cX10_sheet 48 = .ok (.getfield 74, 3) := by decide +kernel
theorem dX10_sheet_51 : decode cX10_sheet 51 = .ok (.bipush 40, 2) := by decide +kernel
theorem dX10_sheet_53 : decode cX10_sheet 53 = .ok (.iload_n 1, 1) := by decide +kernel
theorem dX10_sheet_54 : decode cX10_sheet 54 = .ok (.imul, 1) := by decide +kernel
theorem dX10_sheet_55 : decode cX10_sheet 55 = .ok (.iload 4, 2) := by decide +kernel
theorem dX10_sheet_57 : decode cX10_sheet 57 = .ok (.iadd, 1) := by decide +kernel
theorem dX10_sheet_58 : decode cX10_sheet 58 = .ok (.iconst 0, 1) := by decide +kernel
theorem dX10_sheet_59 : decode cX10_sheet 59 = .ok (.iastore, 1) := by decide +kernel
theorem dX10_sheet_60 : decode cX10_sheet 60 = .ok (.iinc 4 1, 3) := by decide +kernel
theorem dX10_sheet_63 : decode cX10_sheet 63 = .ok (.goto (-23), 3) := by decide +kernel
theorem dX10_sheet_66 : decode cX10_sheet 66 = .ok (.iconst 1, 1) := by decide +kernel
theorem dX10_sheet_67 : decode cX10_sheet 67 = .ok (.ireturn, 1) := by decide +kernel
theorem dX10_lay_0 : decode cX10_lay 0 = .ok (.iload_n 1, 1) := by decide +kernel
theorem dX10_lay_1 : decode cX10_lay 1 = .ok (.iconst 0, 1) := by decide +kernel
theorem dX10_lay_2 : decode cX10_lay 2 = .ok (.invokestatic 357, 3) := by decide +kernel
theorem dX10_lay_5 : decode cX10_lay 5 = .ok (.ifCond .ne 5, 3) := by decide +kernel
theorem dX10_lay_8 : decode cX10_lay 8 = .ok (.iconst (-1), 1) := by decide +kernel
theorem dX10_lay_9 : decode cX10_lay 9 = .ok (.ireturn, 1) := by decide +kernel
theorem dX10_lay_10 : decode cX10_lay 10 = .ok (.aload_n 0, 1) := by decide +kernel
theorem dX10_lay_11 : decode cX10_lay 11 = .ok (.getfield 68, 3) := by decide +kernel
theorem dX10_lay_14 : decode cX10_lay 14 = .ok (.iload_n 1, 1) := by decide +kernel
theorem dX10_lay_15 : decode cX10_lay 15 = .ok (.iaload, 1) := by decide +kernel
theorem dX10_lay_16 : decode cX10_lay 16 = .ok (.bipush (-4), 2) := by decide +kernel
theorem dX10_lay_18 : decode cX10_lay 18 = .ok (.if_icmp .ne 6, 3) := by decide +kernel
theorem dX10_lay_21 : decode cX10_lay 21 = .ok (.bipush (-11), 2) := by decide +kernel
theorem dX10_lay_23 : decode cX10_lay 23 = .ok (.ireturn, 1) := by decide +kernel
theorem dX10_lay_24 : decode cX10_lay 24 = .ok (.iload_n 2, 1) := by decide +kernel
theorem dX10_lay_25 : decode cX10_lay 25 = .ok (.i2l, 1) := by decide +kernel
theorem dX10_lay_26 : decode cX10_lay 26 = .ok (.lconst 0, 1) := by decide +kernel
theorem dX10_lay_27 : decode cX10_lay 27 = .ok (.aload_n 0, 1) := by decide +kernel
theorem dX10_lay_28 : decode cX10_lay 28 = .ok (.getfield 71, 3) := by decide +kernel
theorem dX10_lay_31 : decode cX10_lay 31 = .ok (.iload_n 1, 1) := by decide +kernel
theorem dX10_lay_32 : decode cX10_lay 32 = .ok (.iaload, 1) := by decide +kernel
theorem dX10_lay_33 : decode cX10_lay 33 = .ok (.iconst 1, 1) := by decide +kernel
theorem dX10_lay_34 : decode cX10_lay 34 = .ok (.isub, 1) := by decide +kernel
theorem dX10_lay_35 : decode cX10_lay 35 = .ok (.i2l, 1) := by decide +kernel
theorem dX10_lay_36 : decode cX10_lay 36 = .ok (.invokestatic 134, 3) := by decide +kernel
theorem dX10_lay_39 : decode cX10_lay 39 = .ok (.ifCond .ne 6, 3) := by decide +kernel
theorem dX10_lay_42 : decode cX10_lay 42 = .ok (.bipush (-12), 2) := by decide +kernel
theorem dX10_lay_44 : decode cX10_lay 44 = .ok (.ireturn, 1) := by decide +kernel
theorem dX10_lay_45 : decode cX10_lay 45 = .ok (.aload_n 0, 1) := by decide +kernel
theorem dX10_lay_46 : decode cX10_lay 46 = .ok (.getfield 74, 3) := by decide +kernel
theorem dX10_lay_49 : decode cX10_lay 49 = .ok (.bipush 40, 2) := by decide +kernel
theorem dX10_lay_51 : decode cX10_lay 51 = .ok (.iload_n 1, 1) := by decide +kernel
theorem dX10_lay_52 : decode cX10_lay 52 = .ok (.imul, 1) := by decide +kernel
theorem dX10_lay_53 : decode cX10_lay 53 = .ok (.iload_n 2, 1) := by decide +kernel
theorem dX10_lay_54 : decode cX10_lay 54 = .ok (.iadd, 1) := by decide +kernel
theorem dX10_lay_55 : decode cX10_lay 55 = .ok (.aload_n 0, 1) := by decide +kernel
theorem dX10_lay_56 : decode cX10_lay 56 = .ok (.getfield 68, 3) := by decide +kernel
theorem dX10_lay_59 : decode cX10_lay 59 = .ok (.iload_n 1, 1) := by decide +kernel
theorem dX10_lay_60 : decode cX10_lay 60 = .ok (.iaload, 1) := by decide +kernel
theorem dX10_lay_61 : decode cX10_lay 61 = .ok (.ifCond .ne 8, 3) := by decide +kernel
theorem dX10_lay_64 : decode cX10_lay 64 = .ok (.iload_n 3, 1) := by decide +kernel
theorem dX10_lay_65 : decode cX10_lay 65 = .ok (.i2b, 1) := by decide +kernel
theorem dX10_lay_66 : decode cX10_lay 66 = .ok (.goto 19, 3) := by decide +kernel
theorem dX10_lay_69 : decode cX10_lay 69 = .ok (.aload_n 0, 1) := by decide +kernel
theorem dX10_lay_70 : decode cX10_lay 70 = .ok (.getfield 68, 3) := by decide +kernel
theorem dX10_lay_73 : decode cX10_lay 73 = .ok (.iload_n 1, 1) := by decide +kernel
theorem dX10_lay_74 : decode cX10_lay 74 = .ok (.iaload, 1) := by decide +kernel
theorem dX10_lay_75 : decode cX10_lay 75 = .ok (.iconst 1, 1) := by decide +kernel
theorem dX10_lay_76 : decode cX10_lay 76 = .ok (.if_icmp .ne 8, 3) := by decide +kernel
theorem dX10_lay_79 : decode cX10_lay 79 = .ok (.iload_n 3, 1) := by decide +kernel
theorem dX10_lay_80 : decode cX10_lay 80 = .ok (.i2s, 1) := by decide +kernel
theorem dX10_lay_81 : decode cX10_lay 81 = .ok (.goto 4, 3) := by decide +kernel
theorem dX10_lay_84 : decode cX10_lay 84 = .ok (.iload_n 3, 1) := by decide +kernel
theorem dX10_lay_85 : decode cX10_lay 85 = .ok (.iastore, 1) := by decide +kernel
theorem dX10_lay_86 : decode cX10_lay 86 = .ok (.iconst 1, 1) := by decide +kernel
theorem dX10_lay_87 : decode cX10_lay 87 = .ok (.ireturn, 1) := by decide +kernel
theorem dX10_read_0 : decode cX10_read 0 = .ok (.iload_n 1, 1) := by decide +kernel
theorem dX10_read_1 : decode cX10_read 1 = .ok (.iload_n 2, 1) := by decide +kernel
theorem dX10_read_2 : decode cX10_read 2 = .ok (.invokestatic 357, 3) := by decide +kernel
theorem dX10_read_5 : decode cX10_read 5 = .ok (.ifCond .eq 16, 3) := by decide +kernel
theorem dX10_read_8 : decode cX10_read 8 = .ok (.iload 4, 2) := by decide +kernel
theorem dX10_read_10 : decode cX10_read 10 = .ok (.i2l, 1) := by decide +kernel
theorem dX10_read_11 : decode cX10_read 11 = .ok (.lconst 0, 1) := by decide +kernel
theorem dX10_read_12 : decode cX10_read 12 = .ok (.ldc2_w 293, 3) := by decide +kernel
theorem dX10_read_15 : decode cX10_read 15 = .ok (.invokestatic 134, 3) := by decide +kernel
theorem dX10_read_18 : decode cX10_read 18 = .ok (.ifCond .ne 5, 3) := by decide +kernel
theorem dX10_read_21 : decode cX10_read 21 = .ok (.iconst (-1), 1) := by decide +kernel
theorem dX10_read_22 : decode cX10_read 22 = .ok (.ireturn, 1) := by decide +kernel
theorem dX10_read_23 : decode cX10_read 23 = .ok (.aload_n 0, 1) := by decide +kernel
theorem dX10_read_24 : decode cX10_read 24 = .ok (.getfield 7, 3) := by decide +kernel
theorem dX10_read_27 : decode cX10_read 27 = .ok (.iconst 0, 1) := by decide +kernel
theorem dX10_read_28 : decode cX10_read 28 = .ok (.iaload, 1) := by decide +kernel
theorem dX10_read_29 : decode cX10_read 29 = .ok (.istore 5, 2) := by decide +kernel
theorem dX10_read_31 : decode cX10_read 31 = .ok (.iconst 0, 1) := by decide +kernel
theorem dX10_read_32 : decode cX10_read 32 = .ok (.istore 6, 2) := by decide +kernel
theorem dX10_read_34 : decode cX10_read 34 = .ok (.iconst 0, 1) := by decide +kernel
theorem dX10_read_35 : decode cX10_read 35 = .ok (.istore 7, 2) := by decide +kernel
theorem dX10_read_37 : decode cX10_read 37 = .ok (.iconst 0, 1) := by decide +kernel
theorem dX10_read_38 : decode cX10_read 38 = .ok (.istore 8, 2) := by decide +kernel
theorem dX10_read_40 : decode cX10_read 40 = .ok (.iload 8, 2) := by decide +kernel
theorem dX10_read_42 : decode cX10_read 42 = .ok (.iload 4, 2) := by decide +kernel
theorem dX10_read_44 : decode cX10_read 44 = .ok (.if_icmp .ge 121, 3) := by decide +kernel
theorem dX10_read_47 : decode cX10_read 47 = .ok (.iload 6, 2) := by decide +kernel
theorem dX10_read_49 : decode cX10_read 49 = .ok (.ifCond .ne 116, 3) := by decide +kernel
theorem dX10_read_52 : decode cX10_read 52 = .ok (.iload_n 3, 1) := by decide +kernel
theorem dX10_read_53 : decode cX10_read 53 = .ok (.i2l, 1) := by decide +kernel
theorem dX10_read_54 : decode cX10_read 54 = .ok (.iload 8, 2) := by decide +kernel
theorem dX10_read_56 : decode cX10_read 56 = .ok (.i2l, 1) := by decide +kernel
theorem dX10_read_57 : decode cX10_read 57 = .ok (.ladd, 1) := by decide +kernel
theorem dX10_read_58 : decode cX10_read 58 = .ok (.lstore 9, 2) := by decide +kernel
theorem dX10_read_60 : decode cX10_read 60 = .ok (.aload_n 0, 1) := by decide +kernel
theorem dX10_read_61 : decode cX10_read 61 = .ok (.getfield 68, 3) := by decide +kernel
theorem dX10_read_64 : decode cX10_read 64 = .ok (.iload_n 1, 1) := by decide +kernel
theorem dX10_read_65 : decode cX10_read 65 = .ok (.iaload, 1) := by decide +kernel
theorem dX10_read_66 : decode cX10_read 66 = .ok (.bipush (-4), 2) := by decide +kernel
theorem dX10_read_68 : decode cX10_read 68 = .ok (.if_icmp .ne 7, 3) := by decide +kernel
theorem dX10_read_71 : decode cX10_read 71 = .ok (.iconst 1, 1) := by decide +kernel
theorem dX10_read_72 : decode cX10_read 72 = .ok (.goto 42, 3) := by decide +kernel
theorem dX10_read_75 : decode cX10_read 75 = .ok (.aload_n 0, 1) := by decide +kernel
theorem dX10_read_76 : decode cX10_read 76 = .ok (.getfield 68, 3) := by decide +kernel
theorem dX10_read_79 : decode cX10_read 79 = .ok (.iload_n 1, 1) := by decide +kernel
theorem dX10_read_80 : decode cX10_read 80 = .ok (.iaload, 1) := by decide +kernel
theorem dX10_read_81 : decode cX10_read 81 = .ok (.iload_n 2, 1) := by decide +kernel
theorem dX10_read_82 : decode cX10_read 82 = .ok (.if_icmp .eq 7, 3) := by decide +kernel
theorem dX10_read_85 : decode cX10_read 85 = .ok (.iconst 3, 1) := by decide +kernel
theorem dX10_read_86 : decode cX10_read 86 = .ok (.goto 28, 3) := by decide +kernel
theorem dX10_read_89 : decode cX10_read 89 = .ok (.lload 9, 2) := by decide +kernel
theorem dX10_read_91 : decode cX10_read 91 = .ok (.lconst 0, 1) := by decide +kernel
theorem dX10_read_92 : decode cX10_read 92 = .ok (.lcmp, 1) := by decide +kernel
theorem dX10_read_93 : decode cX10_read 93 = .ok (.ifCond .lt 16, 3) := by decide +kernel
theorem dX10_read_96 : decode cX10_read 96 = .ok (.lload 9, 2) := by decide +kernel
theorem dX10_read_98 : decode cX10_read 98 = .ok (.aload_n 0, 1) := by decide +kernel
theorem dX10_read_99 : decode cX10_read 99 = .ok (.getfield 71, 3) := by decide +kernel
theorem dX10_read_102 : decode cX10_read 102 = .ok (.iload_n 1, 1) := by decide +kernel
theorem dX10_read_103 : decode cX10_read 103 = .ok (.iaload, 1) := by decide +kernel
theorem dX10_read_104 : decode cX10_read 104 = .ok (.i2l, 1) := by decide +kernel
theorem dX10_read_105 : decode cX10_read 105 = .ok (.lcmp, 1) := by decide +kernel
theorem dX10_read_106 : decode cX10_read 106 = .ok (.ifCond .lt 7, 3) := by decide +kernel
theorem dX10_read_109 : decode cX10_read 109 = .ok (.iconst 2, 1) := by decide +kernel
theorem dX10_read_110 : decode cX10_read 110 = .ok (.goto 4, 3) := by decide +kernel
theorem dX10_read_113 : decode cX10_read 113 = .ok (.iconst 0, 1) := by decide +kernel
theorem dX10_read_114 : decode cX10_read 114 = .ok (.istore 6, 2) := by decide +kernel
theorem dX10_read_116 : decode cX10_read 116 = .ok (.iload 6, 2) := by decide +kernel
theorem dX10_read_118 : decode cX10_read 118 = .ok (.ifCond .ne 41, 3) := by decide +kernel
theorem dX10_read_121 : decode cX10_read 121 = .ok (.aload_n 0, 1) := by decide +kernel
theorem dX10_read_122 : decode cX10_read 122 = .ok (.aload_n 0, 1) := by decide +kernel
theorem dX10_read_123 : decode cX10_read 123 = .ok (.getfield 74, 3) := by decide +kernel
theorem dX10_read_126 : decode cX10_read 126 = .ok (.bipush 40, 2) := by decide +kernel
theorem dX10_read_128 : decode cX10_read 128 = .ok (.iload_n 1, 1) := by decide +kernel
theorem dX10_read_129 : decode cX10_read 129 = .ok (.imul, 1) := by decide +kernel
theorem dX10_read_130 : decode cX10_read 130 = .ok (.iload_n 3, 1) := by decide +kernel
theorem dX10_read_131 : decode cX10_read 131 = .ok (.iadd, 1) := by decide +kernel
theorem dX10_read_132 : decode cX10_read 132 = .ok (.iload 8, 2) := by decide +kernel
theorem dX10_read_134 : decode cX10_read 134 = .ok (.iadd, 1) := by decide +kernel
theorem dX10_read_135 : decode cX10_read 135 = .ok (.iaload, 1) := by decide +kernel
theorem dX10_read_136 : decode cX10_read 136 = .ok (.invokevirtual 360, 3) := by decide +kernel
theorem dX10_read_139 : decode cX10_read 139 = .ok (.ifCond .ge 17, 3) := by decide +kernel
theorem dX10_read_142 : decode cX10_read 142 = .ok (.aload_n 0, 1) := by decide +kernel
theorem dX10_read_143 : decode cX10_read 143 = .ok (.getfield 7, 3) := by decide +kernel
theorem dX10_read_146 : decode cX10_read 146 = .ok (.iconst 0, 1) := by decide +kernel
theorem dX10_read_147 : decode cX10_read 147 = .ok (.iload 5, 2) := by decide +kernel
theorem dX10_read_149 : decode cX10_read 149 = .ok (.iastore, 1) := by decide +kernel
theorem dX10_read_150 : decode cX10_read 150 = .ok (.bipush (-20), 2) := by decide +kernel
theorem dX10_read_152 : decode cX10_read 152 = .ok (.iload 8, 2) := by decide +kernel
theorem dX10_read_154 : decode cX10_read 154 = .ok (.isub, 1) := by decide +kernel
theorem dX10_read_155 : decode cX10_read 155 = .ok (.ireturn, 1) := by decide +kernel
theorem dX10_read_156 : decode cX10_read 156 = .ok (.iinc 7 1, 3) := by decide +kernel
theorem dX10_read_159 : decode cX10_read 159 = .ok (.iinc 8 1, 3) := by decide +kernel
theorem dX10_read_162 : decode cX10_read 162 = .ok (.goto (-122), 3) := by decide +kernel
theorem dX10_read_165 : decode cX10_read 165 = .ok (.aload_n 0, 1) := by decide +kernel
theorem dX10_read_166 : decode cX10_read 166 = .ok (.iload 6, 2) := by decide +kernel
theorem dX10_read_168 : decode cX10_read 168 = .ok (.putfield 363, 3) := by decide +kernel
theorem dX10_read_171 : decode cX10_read 171 = .ok (.iload 7, 2) := by decide +kernel
theorem dX10_read_173 : decode cX10_read 173 = .ok (.ireturn, 1) := by decide +kernel
theorem dX10_torn_0 : decode cX10_torn 0 = .ok (.aload_n 0, 1) := by decide +kernel
theorem dX10_torn_1 : decode cX10_torn 1 = .ok (.getfield 363, 3) := by decide +kernel
theorem dX10_torn_4 : decode cX10_torn 4 = .ok (.ireturn, 1) := by decide +kernel
theorem dX10_count_0 : decode cX10_count 0 = .ok (.iconst 0, 1) := by decide +kernel
theorem dX10_count_1 : decode cX10_count 1 = .ok (.istore_n 2, 1) := by decide +kernel
theorem dX10_count_2 : decode cX10_count 2 = .ok (.iconst 1, 1) := by decide +kernel
theorem dX10_count_3 : decode cX10_count 3 = .ok (.istore_n 3, 1) := by decide +kernel
theorem dX10_count_4 : decode cX10_count 4 = .ok (.iload_n 3, 1) := by decide +kernel
theorem dX10_count_5 : decode cX10_count 5 = .ok (.iconst 3, 1) := by decide +kernel
theorem dX10_count_6 : decode cX10_count 6 = .ok (.if_icmp .gt 34, 3) := by decide +kernel
theorem dX10_count_9 : decode cX10_count 9 = .ok (.iload_n 2, 1) := by decide +kernel
theorem dX10_count_10 : decode cX10_count 10 = .ok (.aload_n 0, 1) := by decide +kernel
theorem dX10_count_11 : decode cX10_count 11 = .ok (.getfield 7, 3) := by decide +kernel
theorem dX10_count_14 : decode cX10_count 14 = .ok (.bipush 32, 2) := by decide +kernel
theorem dX10_count_16 : decode cX10_count 16 = .ok (.iload_n 3, 1) := by decide +kernel
theorem dX10_count_17 : decode cX10_count 17 = .ok (.iadd, 1) := by decide +kernel
theorem dX10_count_18 : decode cX10_count 18 = .ok (.iaload, 1) := by decide +kernel
theorem dX10_count_19 : decode cX10_count 19 = .ok (.bipush (-4), 2) := by decide +kernel
theorem dX10_count_21 : decode cX10_count 21 = .ok (.if_icmp .eq 7, 3) := by decide +kernel
theorem dX10_count_24 : decode cX10_count 24 = .ok (.iconst 1, 1) := by decide +kernel
theorem dX10_count_25 : decode cX10_count 25 = .ok (.goto 4, 3) := by decide +kernel
theorem dX10_count_28 : decode cX10_count 28 = .ok (.iconst 0, 1) := by decide +kernel
theorem dX10_count_29 : decode cX10_count 29 = .ok (.invokestatic 209, 3) := by decide +kernel
theorem dX10_count_32 : decode cX10_count 32 = .ok (.iadd, 1) := by decide +kernel
theorem dX10_count_33 : decode cX10_count 33 = .ok (.istore_n 2, 1) := by decide +kernel
theorem dX10_count_34 : decode cX10_count 34 = .ok (.iinc 3 1, 3) := by decide +kernel
theorem dX10_count_37 : decode cX10_count 37 = .ok (.goto (-33), 3) := by decide +kernel
theorem dX10_count_40 : decode cX10_count 40 = .ok (.iconst 0, 1) := by decide +kernel
theorem dX10_count_41 : decode cX10_count 41 = .ok (.istore_n 3, 1) := by decide +kernel
theorem dX10_count_42 : decode cX10_count 42 = .ok (.iconst 0, 1) := by decide +kernel
theorem dX10_count_43 : decode cX10_count 43 = .ok (.istore 4, 2) := by decide +kernel
theorem dX10_count_45 : decode cX10_count 45 = .ok (.iload 4, 2) := by decide +kernel
theorem dX10_count_47 : decode cX10_count 47 = .ok (.aload_n 0, 1) := by decide +kernel
theorem dX10_count_48 : decode cX10_count 48 = .ok (.getfield 123, 3) := by decide +kernel
theorem dX10_count_51 : decode cX10_count 51 = .ok (.if_icmp .ge 34, 3) := by decide +kernel
theorem dX10_count_54 : decode cX10_count 54 = .ok (.iload_n 3, 1) := by decide +kernel
theorem dX10_count_55 : decode cX10_count 55 = .ok (.aload_n 0, 1) := by decide +kernel
theorem dX10_count_56 : decode cX10_count 56 = .ok (.iload 4, 2) := by decide +kernel
theorem dX10_count_58 : decode cX10_count 58 = .ok (.invokevirtual 224, 3) := by decide +kernel
theorem dX10_count_61 : decode cX10_count 61 = .ok (.ifCond .eq 15, 3) := by decide +kernel
theorem dX10_count_64 : decode cX10_count 64 = .ok (.aload_n 0, 1) := by decide +kernel
theorem dX10_count_65 : decode cX10_count 65 = .ok (.getfield 7, 3) := by decide +kernel
theorem dX10_count_68 : decode cX10_count 68 = .ok (.iconst 1, 1) := by decide +kernel
theorem dX10_count_69 : decode cX10_count 69 = .ok (.iload 4, 2) := by decide +kernel
theorem dX10_count_71 : decode cX10_count 71 = .ok (.iadd, 1) := by decide +kernel
theorem dX10_count_72 : decode cX10_count 72 = .ok (.iaload, 1) := by decide +kernel
theorem dX10_count_73 : decode cX10_count 73 = .ok (.goto 4, 3) := by decide +kernel
theorem dX10_count_76 : decode cX10_count 76 = .ok (.iconst 0, 1) := by decide +kernel
theorem dX10_count_77 : decode cX10_count 77 = .ok (.iadd, 1) := by decide +kernel
theorem dX10_count_78 : decode cX10_count 78 = .ok (.istore_n 3, 1) := by decide +kernel
theorem dX10_count_79 : decode cX10_count 79 = .ok (.iinc 4 1, 3) := by decide +kernel
theorem dX10_count_82 : decode cX10_count 82 = .ok (.goto (-37), 3) := by decide +kernel
theorem dX10_count_85 : decode cX10_count 85 = .ok (.iload_n 1, 1) := by decide +kernel
theorem dX10_count_86 : decode cX10_count 86 = .ok (.tableswitch 100 0 5 #[38, 48, 50, 70, 75, 98], 38) := by decide +kernel
theorem dX10_count_124 : decode cX10_count 124 = .ok (.aload_n 0, 1) := by decide +kernel
theorem dX10_count_125 : decode cX10_count 125 = .ok (.getfield 7, 3) := by decide +kernel
theorem dX10_count_128 : decode cX10_count 128 = .ok (.iconst 0, 1) := by decide +kernel
theorem dX10_count_129 : decode cX10_count 129 = .ok (.iaload, 1) := by decide +kernel
theorem dX10_count_130 : decode cX10_count 130 = .ok (.invokestatic 366, 3) := by decide +kernel
theorem dX10_count_133 : decode cX10_count 133 = .ok (.ireturn, 1) := by decide +kernel
theorem dX10_count_134 : decode cX10_count 134 = .ok (.iload_n 2, 1) := by decide +kernel
theorem dX10_count_135 : decode cX10_count 135 = .ok (.ireturn, 1) := by decide +kernel
theorem dX10_count_136 : decode cX10_count 136 = .ok (.aload_n 0, 1) := by decide +kernel
theorem dX10_count_137 : decode cX10_count 137 = .ok (.getfield 13, 3) := by decide +kernel
theorem dX10_count_140 : decode cX10_count 140 = .ok (.iconst 0, 1) := by decide +kernel
theorem dX10_count_141 : decode cX10_count 141 = .ok (.baload, 1) := by decide +kernel
theorem dX10_count_142 : decode cX10_count 142 = .ok (.invokestatic 209, 3) := by decide +kernel
theorem dX10_count_145 : decode cX10_count 145 = .ok (.aload_n 0, 1) := by decide +kernel
theorem dX10_count_146 : decode cX10_count 146 = .ok (.getfield 13, 3) := by decide +kernel
theorem dX10_count_149 : decode cX10_count 149 = .ok (.iconst 1, 1) := by decide +kernel
theorem dX10_count_150 : decode cX10_count 150 = .ok (.baload, 1) := by decide +kernel
theorem dX10_count_151 : decode cX10_count 151 = .ok (.invokestatic 209, 3) := by decide +kernel
theorem dX10_count_154 : decode cX10_count 154 = .ok (.iadd, 1) := by decide +kernel
theorem dX10_count_155 : decode cX10_count 155 = .ok (.ireturn, 1) := by decide +kernel
theorem dX10_count_156 : decode cX10_count 156 = .ok (.aload_n 0, 1) := by decide +kernel
theorem dX10_count_157 : decode cX10_count 157 = .ok (.getfield 129, 3) := by decide +kernel
theorem dX10_count_160 : decode cX10_count 160 = .ok (.ireturn, 1) := by decide +kernel
theorem dX10_count_161 : decode cX10_count 161 = .ok (.aload_n 0, 1) := by decide +kernel
theorem dX10_count_162 : decode cX10_count 162 = .ok (.getfield 68, 3) := by decide +kernel
theorem dX10_count_165 : decode cX10_count 165 = .ok (.iconst 0, 1) := by decide +kernel
theorem dX10_count_166 : decode cX10_count 166 = .ok (.iaload, 1) := by decide +kernel
theorem dX10_count_167 : decode cX10_count 167 = .ok (.bipush (-4), 2) := by decide +kernel
theorem dX10_count_169 : decode cX10_count 169 = .ok (.if_icmp .ne 8, 3) := by decide +kernel
theorem dX10_count_172 : decode cX10_count 172 = .ok (.bipush (-4), 2) := by decide +kernel
theorem dX10_count_174 : decode cX10_count 174 = .ok (.goto 9, 3) := by decide +kernel
theorem dX10_count_177 : decode cX10_count 177 = .ok (.aload_n 0, 1) := by decide +kernel
theorem dX10_count_178 : decode cX10_count 178 = .ok (.getfield 71, 3) := by decide +kernel
theorem dX10_count_181 : decode cX10_count 181 = .ok (.iconst 0, 1) := by decide +kernel
theorem dX10_count_182 : decode cX10_count 182 = .ok (.iaload, 1) := by decide +kernel
theorem dX10_count_183 : decode cX10_count 183 = .ok (.ireturn, 1) := by decide +kernel
theorem dX10_count_184 : decode cX10_count 184 = .ok (.iload_n 3, 1) := by decide +kernel
theorem dX10_count_185 : decode cX10_count 185 = .ok (.ireturn, 1) := by decide +kernel
theorem dX10_count_186 : decode cX10_count 186 = .ok (.iconst (-1), 1) := by decide +kernel
theorem dX10_count_187 : decode cX10_count 187 = .ok (.ireturn, 1) := by decide +kernel
