theorem dX4_init_0 : decode cX4_init 0 = .ok (.aload_n 0, 1) := by decide +kernel
theorem dX4_init_1 : decode cX4_init 1 = .ok (.invokespecial 3, 3) := by decide +kernel
theorem dX4_init_4 : decode cX4_init 4 = .ok (.aload_n 0, 1) := by decide +kernel
theorem dX4_init_5 : decode cX4_init 5 = .ok (.iconst 3, 1) := by decide +kernel
theorem dX4_init_6 : decode cX4_init 6 = .ok (.newarray .int, 2) := by decide +kernel
theorem dX4_init_8 : decode cX4_init 8 = .ok (.putfield 9, 3) := by decide +kernel
theorem dX4_init_11 : decode cX4_init 11 = .ok (.aload_n 0, 1) := by decide +kernel
theorem dX4_init_12 : decode cX4_init 12 = .ok (.iconst 3, 1) := by decide +kernel
theorem dX4_init_13 : decode cX4_init 13 = .ok (.newarray .int, 2) := by decide +kernel
theorem dX4_init_15 : decode cX4_init 15 = .ok (.putfield 15, 3) := by decide +kernel
theorem dX4_init_18 : decode cX4_init 18 = .ok (.aload_n 0, 1) := by decide +kernel
theorem dX4_init_19 : decode cX4_init 19 = .ok (.bipush 31, 2) := by decide +kernel
theorem dX4_init_21 : decode cX4_init 21 = .ok (.newarray .int, 2) := by decide +kernel
theorem dX4_init_23 : decode cX4_init 23 = .ok (.putfield 18, 3) := by decide +kernel
theorem dX4_init_26 : decode cX4_init 26 = .ok (.aload_n 0, 1) := by decide +kernel
theorem dX4_init_27 : decode cX4_init 27 = .ok (.bipush 31, 2) := by decide +kernel
theorem dX4_init_29 : decode cX4_init 29 = .ok (.newarray .int, 2) := by decide +kernel
theorem dX4_init_31 : decode cX4_init 31 = .ok (.putfield 21, 3) := by decide +kernel
theorem dX4_init_34 : decode cX4_init 34 = .ok (.return_, 1) := by decide +kernel
theorem dX4_wantNothing_0 : decode cX4_wantNothing 0 = .ok (.aload_n 0, 1) := by decide +kernel
theorem dX4_wantNothing_1 : decode cX4_wantNothing 1 = .ok (.iconst 0, 1) := by decide +kernel
theorem dX4_wantNothing_2 : decode cX4_wantNothing 2 = .ok (.putfield 24, 3) := by decide +kernel
theorem dX4_wantNothing_5 : decode cX4_wantNothing 5 = .ok (.return_, 1) := by decide +kernel
theorem dX4_want_0 : decode cX4_want 0 = .ok (.aload_n 0, 1) := by decide +kernel
theorem dX4_want_1 : decode cX4_want 1 = .ok (.getfield 24, 3) := by decide +kernel
theorem dX4_want_4 : decode cX4_want 4 = .ok (.iconst 3, 1) := by decide +kernel
theorem dX4_want_5 : decode cX4_want 5 = .ok (.if_icmp .ge 33, 3) := by decide +kernel
theorem dX4_want_8 : decode cX4_want 8 = .ok (.aload_n 0, 1) := by decide +kernel
theorem dX4_want_9 : decode cX4_want 9 = .ok (.getfield 9, 3) := by decide +kernel
theorem dX4_want_12 : decode cX4_want 12 = .ok (.aload_n 0, 1) := by decide +kernel
theorem dX4_want_13 : decode cX4_want 13 = .ok (.getfield 24, 3) := by decide +kernel
theorem dX4_want_16 : decode cX4_want 16 = .ok (.iload_n 1, 1) := by decide +kernel
theorem dX4_want_17 : decode cX4_want 17 = .ok (.iastore, 1) := by decide +kernel
theorem dX4_want_18 : decode cX4_want 18 = .ok (.aload_n 0, 1) := by decide +kernel
theorem dX4_want_19 : decode cX4_want 19 = .ok (.getfield 15, 3) := by decide +kernel
theorem dX4_want_22 : decode cX4_want 22 = .ok (.aload_n 0, 1) := by decide +kernel
theorem dX4_want_23 : decode cX4_want 23 = .ok (.getfield 24, 3) := by decide +kernel
theorem dX4_want_26 : decode cX4_want 26 = .ok (.iload_n 2, 1) := by decide +kernel
theorem dX4_want_27 : decode cX4_want 27 = .ok (.iastore, 1) := by decide +kernel
theorem dX4_want_28 : decode cX4_want 28 = .ok (.aload_n 0, 1) := by decide +kernel
theorem dX4_want_29 : decode cX4_want 29 = .ok (.dup, 1) := by decide +kernel
theorem dX4_want_30 : decode cX4_want 30 = .ok (.getfield 24, 3) := by decide +kernel
theorem dX4_want_33 : decode cX4_want 33 = .ok (.iconst 1, 1) := by decide +kernel
theorem dX4_want_34 : decode cX4_want 34 = .ok (.iadd, 1) := by decide +kernel
theorem dX4_want_35 : decode cX4_want 35 = .ok (.putfield 24, 3) := by decide +kernel
theorem dX4_want_38 : decode cX4_want 38 = .ok (.return_, 1) := by decide +kernel
theorem dX4_pickAll_0 : decode cX4_pickAll 0 = .ok (.iconst 0, 1) := by decide +kernel
theorem dX4_pickAll_1 : decode cX4_pickAll 1 = .ok (.istore 5, 2) := by decide +kernel
theorem dX4_pickAll_3 : decode cX4_pickAll 3 = .ok (.iconst 0, 1) := by decide +kernel
theorem dX4_pickAll_4 : decode cX4_pickAll 4 = .ok (.istore 6, 2) := by decide +kernel
theorem dX4_pickAll_6 : decode cX4_pickAll 6 = .ok (.iload 6, 2) := by decide +kernel
theorem dX4_pickAll_8 : decode cX4_pickAll 8 = .ok (.aload_n 1, 1) := by decide +kernel
theorem dX4_pickAll_9 : decode cX4_pickAll 9 = .ok (.getfield 28, 3) := by decide +kernel
theorem dX4_pickAll_12 : decode cX4_pickAll 12 = .ok (.if_icmp .ge 46, 3) := by decide +kernel
theorem dX4_pickAll_15 : decode cX4_pickAll 15 = .ok (.iload_n 2, 1) := by decide +kernel
theorem dX4_pickAll_16 : decode cX4_pickAll 16 = .ok (.iload 6, 2) := by decide +kernel
theorem dX4_pickAll_18 : decode cX4_pickAll 18 = .ok (.ishr, 1) := by decide +kernel
theorem dX4_pickAll_19 : decode cX4_pickAll 19 = .ok (.iconst 1, 1) := by decide +kernel
theorem dX4_pickAll_20 : decode cX4_pickAll 20 = .ok (.iand, 1) := by decide +kernel
theorem dX4_pickAll_21 : decode cX4_pickAll 21 = .ok (.ifCond .eq 31, 3) := by decide +kernel
theorem dX4_pickAll_24 : decode cX4_pickAll 24 = .ok (.aload_n 0, 1) := by decide +kernel
theorem dX4_pickAll_25 : decode cX4_pickAll 25 = .ok (.getfield 18, 3) := by decide +kernel
theorem dX4_pickAll_28 : decode cX4_pickAll 28 = .ok (.iload 5, 2) := by decide +kernel
theorem dX4_pickAll_30 : decode cX4_pickAll 30 = .ok (.iconst 1, 1) := by decide +kernel
theorem dX4_pickAll_31 : decode cX4_pickAll 31 = .ok (.iload 6, 2) := by decide +kernel
theorem dX4_pickAll_33 : decode cX4_pickAll 33 = .ok (.ishl, 1) := by decide +kernel
theorem dX4_pickAll_34 : decode cX4_pickAll 34 = .ok (.iastore, 1) := by decide +kernel
theorem dX4_pickAll_35 : decode cX4_pickAll 35 = .ok (.aload_n 0, 1) := by decide +kernel
theorem dX4_pickAll_36 : decode cX4_pickAll 36 = .ok (.getfield 21, 3) := by decide +kernel
theorem dX4_pickAll_39 : decode cX4_pickAll 39 = .ok (.iload 5, 2) := by decide +kernel
theorem dX4_pickAll_41 : decode cX4_pickAll 41 = .ok (.aload_n 1, 1) := by decide +kernel
theorem dX4_pickAll_42 : decode cX4_pickAll 42 = .ok (.iconst (-1), 1) := by decide +kernel
theorem dX4_pickAll_43 : decode cX4_pickAll 43 = .ok (.iload 6, 2) := by decide +kernel
theorem dX4_pickAll_45 : decode cX4_pickAll 45 = .ok (.invokevirtual 33, 3) := by decide +kernel
theorem dX4_pickAll_48 : decode cX4_pickAll 48 = .ok (.iastore, 1) := by decide +kernel
theorem dX4_pickAll_49 : decode cX4_pickAll 49 = .ok (.iinc 5 1, 3) := by decide +kernel
theorem dX4_pickAll_52 : decode cX4_pickAll 52 = .ok (.iinc 6 1, 3) := by decide +kernel
theorem dX4_pickAll_55 : decode cX4_pickAll 55 = .ok (.goto (-49), 3) := by decide +kernel
theorem dX4_pickAll_58 : decode cX4_pickAll 58 = .ok (.aload_n 0, 1) := by decide +kernel
theorem dX4_pickAll_59 : decode cX4_pickAll 59 = .ok (.iconst 0, 1) := by decide +kernel
theorem dX4_pickAll_60 : decode cX4_pickAll 60 = .ok (.putfield 37, 3) := by decide +kernel
theorem dX4_pickAll_63 : decode cX4_pickAll 63 = .ok (.aload_n 0, 1) := by decide +kernel
theorem dX4_pickAll_64 : decode cX4_pickAll 64 = .ok (.iconst 0, 1) := by decide +kernel
theorem dX4_pickAll_65 : decode cX4_pickAll 65 = .ok (.putfield 40, 3) := by decide +kernel
theorem dX4_pickAll_68 : decode cX4_pickAll 68 = .ok (.aload_n 0, 1) := by decide +kernel
theorem dX4_pickAll_69 : decode cX4_pickAll 69 = .ok (.iconst (-1), 1) := by decide +kernel
theorem dX4_pickAll_70 : decode cX4_pickAll 70 = .ok (.putfield 43, 3) := by decide +kernel
theorem dX4_pickAll_73 : decode cX4_pickAll 73 = .ok (.aload_n 0, 1) := by decide +kernel
theorem dX4_pickAll_74 : decode cX4_pickAll 74 = .ok (.iconst 0, 1) := by decide +kernel
theorem dX4_pickAll_75 : decode cX4_pickAll 75 = .ok (.putfield 46, 3) := by decide +kernel
theorem dX4_pickAll_78 : decode cX4_pickAll 78 = .ok (.aload_n 0, 1) := by decide +kernel
theorem dX4_pickAll_79 : decode cX4_pickAll 79 = .ok (.iload 4, 2) := by decide +kernel
theorem dX4_pickAll_81 : decode cX4_pickAll 81 = .ok (.putfield 49, 3) := by decide +kernel
theorem dX4_pickAll_84 : decode cX4_pickAll 84 = .ok (.aload_n 0, 1) := by decide +kernel
theorem dX4_pickAll_85 : decode cX4_pickAll 85 = .ok (.iload 5, 2) := by decide +kernel
theorem dX4_pickAll_87 : decode cX4_pickAll 87 = .ok (.iload_n 3, 1) := by decide +kernel
theorem dX4_pickAll_88 : decode cX4_pickAll 88 = .ok (.iconst 0, 1) := by decide +kernel
theorem dX4_pickAll_89 : decode cX4_pickAll 89 = .ok (.iconst 0, 1) := by decide +kernel
theorem dX4_pickAll_90 : decode cX4_pickAll 90 = .ok (.invokestatic 52, 3) := by decide +kernel
theorem dX4_pickAll_93 : decode cX4_pickAll 93 = .ok (.return_, 1) := by decide +kernel
theorem dX4_pickBelow_0 : decode cX4_pickBelow 0 = .ok (.iload_n 2, 1) := by decide +kernel
theorem dX4_pickBelow_1 : decode cX4_pickBelow 1 = .ok (.ifCond .gt 11, 3) := by decide +kernel
theorem dX4_pickBelow_4 : decode cX4_pickBelow 4 = .ok (.aload_n 0, 1) := by decide +kernel
theorem dX4_pickBelow_5 : decode cX4_pickBelow 5 = .ok (.iload_n 3, 1) := by decide +kernel
theorem dX4_pickBelow_6 : decode cX4_pickBelow 6 = .ok (.iload 4, 2) := by decide +kernel
theorem dX4_pickBelow_8 : decode cX4_pickBelow 8 = .ok (.invokevirtual 56, 3) := by decide +kernel
theorem dX4_pickBelow_11 : decode cX4_pickBelow 11 = .ok (.return_, 1) := by decide +kernel
theorem dX4_pickBelow_12 : decode cX4_pickBelow 12 = .ok (.iload_n 2, 1) := by decide +kernel
theorem dX4_pickBelow_13 : decode cX4_pickBelow 13 = .ok (.iconst 1, 1) := by decide +kernel
theorem dX4_pickBelow_14 : decode cX4_pickBelow 14 = .ok (.isub, 1) := by decide +kernel
theorem dX4_pickBelow_15 : decode cX4_pickBelow 15 = .ok (.istore 5, 2) := by decide +kernel
theorem dX4_pickBelow_17 : decode cX4_pickBelow 17 = .ok (.iload 5, 2) := by decide +kernel
theorem dX4_pickBelow_19 : decode cX4_pickBelow 19 = .ok (.iload_n 1, 1) := by decide +kernel
theorem dX4_pickBelow_20 : decode cX4_pickBelow 20 = .ok (.if_icmp .ge 37, 3) := by decide +kernel
theorem dX4_pickBelow_23 : decode cX4_pickBelow 23 = .ok (.aload_n 0, 1) := by decide +kernel
theorem dX4_pickBelow_24 : decode cX4_pickBelow 24 = .ok (.iload 5, 2) := by decide +kernel
theorem dX4_pickBelow_26 : decode cX4_pickBelow 26 = .ok (.iload_n 2, 1) := by decide +kernel
theorem dX4_pickBelow_27 : decode cX4_pickBelow 27 = .ok (.iconst 1, 1) := by decide +kernel
theorem dX4_pickBelow_28 : decode cX4_pickBelow 28 = .ok (.isub, 1) := by decide +kernel
theorem dX4_pickBelow_29 : decode cX4_pickBelow 29 = .ok (.iload_n 3, 1) := by decide +kernel
theorem dX4_pickBelow_30 : decode cX4_pickBelow 30 = .ok (.aload_n 0, 1) := by decide +kernel
theorem dX4_pickBelow_31 : decode cX4_pickBelow 31 = .ok (.getfield 18, 3) := by decide +kernel
theorem dX4_pickBelow_34 : decode cX4_pickBelow 34 = .ok (.iload 5, 2) := by decide +kernel
theorem dX4_pickBelow_36 : decode cX4_pickBelow 36 = .ok (.iaload, 1) := by decide +kernel
theorem dX4_pickBelow_37 : decode cX4_pickBelow 37 = .ok (.ior, 1) := by decide +kernel
theorem dX4_pickBelow_38 : decode cX4_pickBelow 38 = .ok (.iload 4, 2) := by decide +kernel
theorem dX4_pickBelow_40 : decode cX4_pickBelow 40 = .ok (.aload_n 0, 1) := by decide +kernel
theorem dX4_pickBelow_41 : decode cX4_pickBelow 41 = .ok (.getfield 21, 3) := by decide +kernel
theorem dX4_pickBelow_44 : decode cX4_pickBelow 44 = .ok (.iload 5, 2) := by decide +kernel
theorem dX4_pickBelow_46 : decode cX4_pickBelow 46 = .ok (.iaload, 1) := by decide +kernel
theorem dX4_pickBelow_47 : decode cX4_pickBelow 47 = .ok (.ior, 1) := by decide +kernel
theorem dX4_pickBelow_48 : decode cX4_pickBelow 48 = .ok (.invokestatic 52, 3) := by decide +kernel
theorem dX4_pickBelow_51 : decode cX4_pickBelow 51 = .ok (.iinc 5 1, 3) := by decide +kernel
theorem dX4_pickBelow_54 : decode cX4_pickBelow 54 = .ok (.goto (-37), 3) := by decide +kernel
theorem dX4_pickBelow_57 : decode cX4_pickBelow 57 = .ok (.return_, 1) := by decide +kernel
theorem dX4_look_0 : decode cX4_look 0 = .ok (.aload_n 0, 1) := by decide +kernel
theorem dX4_look_1 : decode cX4_look 1 = .ok (.dup, 1) := by decide +kernel
theorem dX4_look_2 : decode cX4_look 2 = .ok (.getfield 46, 3) := by decide +kernel
theorem dX4_look_5 : decode cX4_look 5 = .ok (.iconst 1, 1) := by decide +kernel
theorem dX4_look_6 : decode cX4_look 6 = .ok (.aload_n 0, 1) := by decide +kernel
theorem dX4_look_7 : decode cX4_look 7 = .ok (.getfield 49, 3) := by decide +kernel
theorem dX4_look_10 : decode cX4_look 10 = .ok (.iload_n 2, 1) := by decide +kernel
theorem dX4_look_11 : decode cX4_look 11 = .ok (.iconst (-1), 1) := by decide +kernel
theorem dX4_look_12 : decode cX4_look 12 = .ok (.ixor, 1) := by decide +kernel
theorem dX4_look_13 : decode cX4_look 13 = .ok (.iand, 1) := by decide +kernel
theorem dX4_look_14 : decode cX4_look 14 = .ok (.invokestatic 60, 3) := by decide +kernel
theorem dX4_look_17 : decode cX4_look 17 = .ok (.ishl, 1) := by decide +kernel
theorem dX4_look_18 : decode cX4_look 18 = .ok (.ior, 1) := by decide +kernel
theorem dX4_look_19 : decode cX4_look 19 = .ok (.putfield 46, 3) := by decide +kernel
theorem dX4_look_22 : decode cX4_look 22 = .ok (.iconst 0, 1) := by decide +kernel
theorem dX4_look_23 : decode cX4_look 23 = .ok (.istore_n 3, 1) := by decide +kernel
theorem dX4_look_24 : decode cX4_look 24 = .ok (.iload_n 3, 1) := by decide +kernel
theorem dX4_look_25 : decode cX4_look 25 = .ok (.aload_n 0, 1) := by decide +kernel
theorem dX4_look_26 : decode cX4_look 26 = .ok (.getfield 24, 3) := by decide +kernel
theorem dX4_look_29 : decode cX4_look 29 = .ok (.if_icmp .ge 32, 3) := by decide +kernel
theorem dX4_look_32 : decode cX4_look 32 = .ok (.aload_n 0, 1) := by decide +kernel
theorem dX4_look_33 : decode cX4_look 33 = .ok (.getfield 9, 3) := by decide +kernel
theorem dX4_look_36 : decode cX4_look 36 = .ok (.iload_n 3, 1) := by decide +kernel
theorem dX4_look_37 : decode cX4_look 37 = .ok (.iaload, 1) := by decide +kernel
theorem dX4_look_38 : decode cX4_look 38 = .ok (.iload_n 2, 1) := by decide +kernel
theorem dX4_look_39 : decode cX4_look 39 = .ok (.iconst (-1), 1) := by decide +kernel
theorem dX4_look_40 : decode cX4_look 40 = .ok (.ixor, 1) := by decide +kernel
theorem dX4_look_41 : decode cX4_look 41 = .ok (.iand, 1) := by decide +kernel
theorem dX4_look_42 : decode cX4_look 42 = .ok (.invokestatic 60, 3) := by decide +kernel
theorem dX4_look_45 : decode cX4_look 45 = .ok (.aload_n 0, 1) := by decide +kernel
theorem dX4_look_46 : decode cX4_look 46 = .ok (.getfield 15, 3) := by decide +kernel
theorem dX4_look_49 : decode cX4_look 49 = .ok (.iload_n 3, 1) := by decide +kernel
theorem dX4_look_50 : decode cX4_look 50 = .ok (.iaload, 1) := by decide +kernel
theorem dX4_look_51 : decode cX4_look 51 = .ok (.if_icmp .eq 4, 3) := by decide +kernel
theorem dX4_look_54 : decode cX4_look 54 = .ok (.return_, 1) := by decide +kernel
theorem dX4_look_55 : decode cX4_look 55 = .ok (.iinc 3 1, 3) := by decide +kernel
theorem dX4_look_58 : decode cX4_look 58 = .ok (.goto (-34), 3) := by decide +kernel
theorem dX4_look_61 : decode cX4_look 61 = .ok (.aload_n 0, 1) := by decide +kernel
theorem dX4_look_62 : decode cX4_look 62 = .ok (.getfield 37, 3) := by decide +kernel
theorem dX4_look_65 : decode cX4_look 65 = .ok (.ifCond .ne 8, 3) := by decide +kernel
theorem dX4_look_68 : decode cX4_look 68 = .ok (.aload_n 0, 1) := by decide +kernel
theorem dX4_look_69 : decode cX4_look 69 = .ok (.iload_n 1, 1) := by decide +kernel
theorem dX4_look_70 : decode cX4_look 70 = .ok (.putfield 40, 3) := by decide +kernel
theorem dX4_look_73 : decode cX4_look 73 = .ok (.aload_n 0, 1) := by decide +kernel
theorem dX4_look_74 : decode cX4_look 74 = .ok (.dup, 1) := by decide +kernel
theorem dX4_look_75 : decode cX4_look 75 = .ok (.getfield 37, 3) := by decide +kernel
theorem dX4_look_78 : decode cX4_look 78 = .ok (.iconst 1, 1) := by decide +kernel
theorem dX4_look_79 : decode cX4_look 79 = .ok (.iadd, 1) := by decide +kernel
theorem dX4_look_80 : decode cX4_look 80 = .ok (.putfield 37, 3) := by decide +kernel
theorem dX4_look_83 : decode cX4_look 83 = .ok (.aload_n 0, 1) := by decide +kernel
theorem dX4_look_84 : decode cX4_look 84 = .ok (.dup, 1) := by decide +kernel
theorem dX4_look_85 : decode cX4_look 85 = .ok (.getfield 43, 3) := by decide +kernel
theorem dX4_look_88 : decode cX4_look 88 = .ok (.iload_n 1, 1) := by decide +kernel
theorem dX4_look_89 : decode cX4_look 89 = .ok (.iand, 1) := by decide +kernel
theorem dX4_look_90 : decode cX4_look 90 = .ok (.putfield 43, 3) := by decide +kernel
theorem dX4_look_93 : decode cX4_look 93 = .ok (.return_, 1) := by decide +kernel
theorem dX5_init_0 : decode cX5_init 0 = .ok (.aload_n 0, 1) := by decide +kernel
theorem dX5_init_1 : decode cX5_init 1 = .ok (.invokespecial 1, 3) := by decide +kernel
theorem dX5_init_4 : decode cX5_init 4 = .ok (.aload_n 0, 1) := by decide +kernel
theorem dX5_init_5 : decode cX5_init 5 = .ok (.iload_n 1, 1) := by decide +kernel
theorem dX5_init_6 : decode cX5_init 6 = .ok (.putfield 7, 3) := by decide +kernel
theorem dX5_init_9 : decode cX5_init 9 = .ok (.aload_n 0, 1) := by decide +kernel
theorem dX5_init_10 : decode cX5_init 10 = .ok (.iload_n 2, 1) := by decide +kernel
theorem dX5_init_11 : decode cX5_init 11 = .ok (.newarray .int, 2) := by decide +kernel
theorem dX5_init_13 : decode cX5_init 13 = .ok (.putfield 13, 3) := by decide +kernel
theorem dX5_init_16 : decode cX5_init 16 = .ok (.return_, 1) := by decide +kernel
theorem dX5_hasCell_0 : decode cX5_hasCell 0 = .ok (.iload_n 1, 1) := by decide +kernel
theorem dX5_hasCell_1 : decode cX5_hasCell 1 = .ok (.ifCond .lt 16, 3) := by decide +kernel
theorem dX5_hasCell_4 : decode cX5_hasCell 4 = .ok (.iload_n 1, 1) := by decide +kernel
theorem dX5_hasCell_5 : decode cX5_hasCell 5 = .ok (.aload_n 0, 1) := by decide +kernel
theorem dX5_hasCell_6 : decode cX5_hasCell 6 = .ok (.getfield 13, 3) := by decide +kernel
theorem dX5_hasCell_9 : decode cX5_hasCell 9 = .ok (.arraylength, 1) := by decide +kernel
theorem dX5_hasCell_10 : decode cX5_hasCell 10 = .ok (.if_icmp .ge 7, 3) := by decide +kernel
theorem dX5_hasCell_13 : decode cX5_hasCell 13 = .ok (.iconst 1, 1) := by decide +kernel
theorem dX5_hasCell_14 : decode cX5_hasCell 14 = .ok (.goto 4, 3) := by decide +kernel
theorem dX5_hasCell_17 : decode cX5_hasCell 17 = .ok (.iconst 0, 1) := by decide +kernel
theorem dX5_hasCell_18 : decode cX5_hasCell 18 = .ok (.ireturn, 1) := by decide +kernel
theorem dX5_put_0 : decode cX5_put 0 = .ok (.aload_n 0, 1) := by decide +kernel
theorem dX5_put_1 : decode cX5_put 1 = .ok (.iload_n 1, 1) := by decide +kernel
theorem dX5_put_2 : decode cX5_put 2 = .ok (.invokevirtual 17, 3) := by decide +kernel
theorem dX5_put_5 : decode cX5_put 5 = .ok (.ifCond .ne 4, 3) := by decide +kernel
theorem dX5_put_8 : decode cX5_put 8 = .ok (.return_, 1) := by decide +kernel
theorem dX5_put_9 : decode cX5_put 9 = .ok (.aload_n 0, 1) := by decide +kernel
theorem dX5_put_10 : decode cX5_put 10 = .ok (.getfield 7, 3) := by decide +kernel
theorem dX5_put_13 : decode cX5_put 13 = .ok (.ifCond .ne 14, 3) := by decide +kernel
theorem dX5_put_16 : decode cX5_put 16 = .ok (.aload_n 0, 1) := by decide +kernel
theorem dX5_put_17 : decode cX5_put 17 = .ok (.getfield 13, 3) := by decide +kernel
theorem dX5_put_20 : decode cX5_put 20 = .ok (.iload_n 1, 1) := by decide +kernel
theorem dX5_put_21 : decode cX5_put 21 = .ok (.iload_n 2, 1) := by decide +kernel
theorem dX5_put_22 : decode cX5_put 22 = .ok (.i2b, 1) := by decide +kernel
theorem dX5_put_23 : decode cX5_put 23 = .ok (.iastore, 1) := by decide +kernel
theorem dX5_put_24 : decode cX5_put 24 = .ok (.goto 29, 3) := by decide +kernel
theorem dX5_put_27 : decode cX5_put 27 = .ok (.aload_n 0, 1) := by decide +kernel
theorem dX5_put_28 : decode cX5_put 28 = .ok (.getfield 7, 3) := by decide +kernel
theorem dX5_put_31 : decode cX5_put 31 = .ok (.iconst 1, 1) := by decide +kernel
theorem dX5_put_32 : decode cX5_put 32 = .ok (.if_icmp .ne 14, 3) := by decide +kernel
theorem dX5_put_35 : decode cX5_put 35 = .ok (.aload_n 0, 1) := by decide +kernel
theorem dX5_put_36 : decode cX5_put 36 = .ok (.getfield 13, 3) := by decide +kernel
theorem dX5_put_39 : decode cX5_put 39 = .ok (.iload_n 1, 1) := by decide +kernel
theorem dX5_put_40 : decode cX5_put 40 = .ok (.iload_n 2, 1) := by decide +kernel
theorem dX5_put_41 : decode cX5_put 41 = .ok (.i2s, 1) := by decide +kernel
theorem dX5_put_42 : decode cX5_put 42 = .ok (.iastore, 1) := by decide +kernel
theorem dX5_put_43 : decode cX5_put 43 = .ok (.goto 10, 3) := by decide +kernel
theorem dX5_put_46 : decode cX5_put 46 = .ok (.aload_n 0, 1) := by decide +kernel
theorem dX5_put_47 : decode cX5_put 47 = .ok (.getfield 13, 3) := by decide +kernel
theorem dX5_put_50 : decode cX5_put 50 = .ok (.iload_n 1, 1) := by decide +kernel
theorem dX5_put_51 : decode cX5_put 51 = .ok (.iload_n 2, 1) := by decide +kernel
theorem dX5_put_52 : decode cX5_put 52 = .ok (.iastore, 1) := by decide +kernel
theorem dX5_put_53 : decode cX5_put 53 = .ok (.return_, 1) := by decide +kernel
theorem dX6_init_0 : decode cX6_init 0 = .ok (.aload_n 0, 1) := by decide +kernel
theorem dX6_init_1 : decode cX6_init 1 = .ok (.invokespecial 3, 3) := by decide +kernel
theorem dX6_init_4 : decode cX6_init 4 = .ok (.aload_n 0, 1) := by decide +kernel
theorem dX6_init_5 : decode cX6_init 5 = .ok (.bipush 31, 2) := by decide +kernel
theorem dX6_init_7 : decode cX6_init 7 = .ok (.newarray .int, 2) := by decide +kernel
theorem dX6_init_9 : decode cX6_init 9 = .ok (.putfield 9, 3) := by decide +kernel
theorem dX6_init_12 : decode cX6_init 12 = .ok (.aload_n 0, 1) := by decide +kernel
theorem dX6_init_13 : decode cX6_init 13 = .ok (.iconst 4, 1) := by decide +kernel
theorem dX6_init_14 : decode cX6_init 14 = .ok (.newarray .int, 2) := by decide +kernel
theorem dX6_init_16 : decode cX6_init 16 = .ok (.putfield 15, 3) := by decide +kernel
theorem dX6_init_19 : decode cX6_init 19 = .ok (.return_, 1) := by decide +kernel
theorem dX6_renew_0 : decode cX6_renew 0 = .ok (.aload_n 0, 1) := by decide +kernel
theorem dX6_renew_1 : decode cX6_renew 1 = .ok (.iload_n 1, 1) := by decide +kernel
theorem dX6_renew_2 : decode cX6_renew 2 = .ok (.putfield 18, 3) := by decide +kernel
theorem dX6_renew_5 : decode cX6_renew 5 = .ok (.aload_n 0, 1) := by decide +kernel
theorem dX6_renew_6 : decode cX6_renew 6 = .ok (.bipush 14, 2) := by decide +kernel
theorem dX6_renew_8 : decode cX6_renew 8 = .ok (.putfield 22, 3) := by decide +kernel
theorem dX6_renew_11 : decode cX6_renew 11 = .ok (.aload_n 0, 1) := by decide +kernel
theorem dX6_renew_12 : decode cX6_renew 12 = .ok (.getfield 9, 3) := by decide +kernel
theorem dX6_renew_15 : decode cX6_renew 15 = .ok (.iconst 1, 1) := by decide +kernel
theorem dX6_renew_16 : decode cX6_renew 16 = .ok (.invokestatic 25, 3) := by decide +kernel
theorem dX6_renew_19 : decode cX6_renew 19 = .ok (.aload_n 0, 1) := by decide +kernel
theorem dX6_renew_20 : decode cX6_renew 20 = .ok (.getfield 15, 3) := by decide +kernel
theorem dX6_renew_23 : decode cX6_renew 23 = .ok (.bipush (-4), 2) := by decide +kernel
theorem dX6_renew_25 : decode cX6_renew 25 = .ok (.invokestatic 25, 3) := by decide +kernel
theorem dX6_renew_28 : decode cX6_renew 28 = .ok (.return_, 1) := by decide +kernel
theorem dX6_becomes_0 : decode cX6_becomes 0 = .ok (.aload_n 0, 1) := by decide +kernel
theorem dX6_becomes_1 : decode cX6_becomes 1 = .ok (.aload_n 1, 1) := by decide +kernel
theorem dX6_becomes_2 : decode cX6_becomes 2 = .ok (.getfield 18, 3) := by decide +kernel
theorem dX6_becomes_5 : decode cX6_becomes 5 = .ok (.putfield 18, 3) := by decide +kernel
theorem dX6_becomes_8 : decode cX6_becomes 8 = .ok (.aload_n 0, 1) := by decide +kernel
theorem dX6_becomes_9 : decode cX6_becomes 9 = .ok (.aload_n 1, 1) := by decide +kernel
theorem dX6_becomes_10 : decode cX6_becomes 10 = .ok (.getfield 22, 3) := by decide +kernel
theorem dX6_becomes_13 : decode cX6_becomes 13 = .ok (.putfield 22, 3) := by decide +kernel
theorem dX6_becomes_16 : decode cX6_becomes 16 = .ok (.aload_n 1, 1) := by decide +kernel
theorem dX6_becomes_17 : decode cX6_becomes 17 = .ok (.getfield 9, 3) := by decide +kernel
theorem dX6_becomes_20 : decode cX6_becomes 20 = .ok (.iconst 0, 1) := by decide +kernel
theorem dX6_becomes_21 : decode cX6_becomes 21 = .ok (.aload_n 0, 1) := by decide +kernel
theorem dX6_becomes_22 : decode cX6_becomes 22 = .ok (.getfield 9, 3) := by decide +kernel
theorem dX6_becomes_25 : decode cX6_becomes 25 = .ok (.iconst 0, 1) := by decide +kernel
theorem dX6_becomes_26 : decode cX6_becomes 26 = .ok (.bipush 31, 2) := by decide +kernel
theorem dX6_becomes_28 : decode cX6_becomes 28 = .ok (.invokestatic 31, 3) := by decide +kernel
theorem dX6_becomes_31 : decode cX6_becomes 31 = .ok (.aload_n 1, 1) := by decide +kernel
theorem dX6_becomes_32 : decode cX6_becomes 32 = .ok (.getfield 15, 3) := by decide +kernel
theorem dX6_becomes_35 : decode cX6_becomes 35 = .ok (.iconst 0, 1) := by decide +kernel
theorem dX6_becomes_36 : decode cX6_becomes 36 = .ok (.aload_n 0, 1) := by decide +kernel
theorem dX6_becomes_37 : decode cX6_becomes 37 = .ok (.getfield 15, 3) := by decide +kernel
theorem dX6_becomes_40 : decode cX6_becomes 40 = .ok (.iconst 0, 1) := by decide +kernel
theorem dX6_becomes_41 : decode cX6_becomes 41 = .ok (.iconst 4, 1) := by decide +kernel
theorem dX6_becomes_42 : decode cX6_becomes 42 = .ok (.invokestatic 31, 3) := by decide +kernel
theorem dX6_becomes_45 : decode cX6_becomes 45 = .ok (.return_, 1) := by decide +kernel
theorem dX6_sizesSeen_0 : decode cX6_sizesSeen 0 = .ok (.iconst 0, 1) := by decide +kernel
theorem dX6_sizesSeen_1 : decode cX6_sizesSeen 1 = .ok (.istore_n 1, 1) := by decide +kernel
theorem dX6_sizesSeen_2 : decode cX6_sizesSeen 2 = .ok (.iconst 1, 1) := by decide +kernel
theorem dX6_sizesSeen_3 : decode cX6_sizesSeen 3 = .ok (.istore_n 2, 1) := by decide +kernel
theorem dX6_sizesSeen_4 : decode cX6_sizesSeen 4 = .ok (.iload_n 2, 1) := by decide +kernel
theorem dX6_sizesSeen_5 : decode cX6_sizesSeen 5 = .ok (.iconst 3, 1) := by decide +kernel
theorem dX6_sizesSeen_6 : decode cX6_sizesSeen 6 = .ok (.if_icmp .gt 23, 3) := by decide +kernel
theorem dX6_sizesSeen_9 : decode cX6_sizesSeen 9 = .ok (.aload_n 0, 1) := by decide +kernel
theorem dX6_sizesSeen_10 : decode cX6_sizesSeen 10 = .ok (.getfield 15, 3) := by decide +kernel
theorem dX6_sizesSeen_13 : decode cX6_sizesSeen 13 = .ok (.iload_n 2, 1) := by decide +kernel
theorem dX6_sizesSeen_14 : decode cX6_sizesSeen 14 = .ok (.iaload, 1) := by decide +kernel
theorem dX6_sizesSeen_15 : decode cX6_sizesSeen 15 = .ok (.bipush (-4), 2) := by decide +kernel
theorem dX6_sizesSeen_17 : decode cX6_sizesSeen 17 = .ok (.if_icmp .eq 6, 3) := by decide +kernel
theorem dX6_sizesSeen_20 : decode cX6_sizesSeen 20 = .ok (.iinc 1 1, 3) := by decide +kernel
theorem dX6_sizesSeen_23 : decode cX6_sizesSeen 23 = .ok (.iinc 2 1, 3) := by decide +kernel
theorem dX6_sizesSeen_26 : decode cX6_sizesSeen 26 = .ok (.goto (-22), 3) := by decide +kernel
theorem dX6_sizesSeen_29 : decode cX6_sizesSeen 29 = .ok (.iload_n 1, 1) := by decide +kernel
theorem dX6_sizesSeen_30 : decode cX6_sizesSeen 30 = .ok (.ireturn, 1) := by decide +kernel
theorem dX6_costsLying_0 : decode cX6_costsLying 0 = .ok (.iconst 0, 1) := by decide +kernel
theorem dX6_costsLying_1 : decode cX6_costsLying 1 = .ok (.istore_n 1, 1) := by decide +kernel
theorem dX6_costsLying_2 : decode cX6_costsLying 2 = .ok (.iconst 0, 1) := by decide +kernel
theorem dX6_costsLying_3 : decode cX6_costsLying 3 = .ok (.istore_n 2, 1) := by decide +kernel
theorem dX6_costsLying_4 : decode cX6_costsLying 4 = .ok (.iload_n 2, 1) := by decide +kernel
theorem dX6_costsLying_5 : decode cX6_costsLying 5 = .ok (.bipush 31, 2) := by decide +kernel
theorem dX6_costsLying_7 : decode cX6_costsLying 7 = .ok (.if_icmp .ge 29, 3) := by decide +kernel
theorem dX6_costsLying_10 : decode cX6_costsLying 10 = .ok (.aload_n 0, 1) := by decide +kernel
theorem dX6_costsLying_11 : decode cX6_costsLying 11 = .ok (.getfield 18, 3) := by decide +kernel
theorem dX6_costsLying_14 : decode cX6_costsLying 14 = .ok (.iload_n 2, 1) := by decide +kernel
theorem dX6_costsLying_15 : decode cX6_costsLying 15 = .ok (.ishr, 1) := by decide +kernel
theorem dX6_costsLying_16 : decode cX6_costsLying 16 = .ok (.iconst 1, 1) := by decide +kernel
theorem dX6_costsLying_17 : decode cX6_costsLying 17 = .ok (.iand, 1) := by decide +kernel
theorem dX6_costsLying_18 : decode cX6_costsLying 18 = .ok (.ifCond .eq 12, 3) := by decide +kernel
theorem dX6_costsLying_21 : decode cX6_costsLying 21 = .ok (.iload_n 1, 1) := by decide +kernel
theorem dX6_costsLying_22 : decode cX6_costsLying 22 = .ok (.aload_n 0, 1) := by decide +kernel
theorem dX6_costsLying_23 : decode cX6_costsLying 23 = .ok (.getfield 9, 3) := by decide +kernel
theorem dX6_costsLying_26 : decode cX6_costsLying 26 = .ok (.iload_n 2, 1) := by decide +kernel
theorem dX6_costsLying_27 : decode cX6_costsLying 27 = .ok (.iaload, 1) := by decide +kernel
theorem dX6_costsLying_28 : decode cX6_costsLying 28 = .ok (.iadd, 1) := by decide +kernel
theorem dX6_costsLying_29 : decode cX6_costsLying 29 = .ok (.istore_n 1, 1) := by decide +kernel
theorem dX6_costsLying_30 : decode cX6_costsLying 30 = .ok (.iinc 2 1, 3) := by decide +kernel
theorem dX6_costsLying_33 : decode cX6_costsLying 33 = .ok (.goto (-29), 3) := by decide +kernel
theorem dX6_costsLying_36 : decode cX6_costsLying 36 = .ok (.iload_n 1, 1) := by decide +kernel
theorem dX6_costsLying_37 : decode cX6_costsLying 37 = .ok (.ireturn, 1) := by decide +kernel
theorem dX7_init_0 : decode cX7_init 0 = .ok (.aload_n 0, 1) := by decide +kernel
theorem dX7_init_1 : decode cX7_init 1 = .ok (.invokespecial 1, 3) := by decide +kernel
theorem dX7_init_4 : decode cX7_init 4 = .ok (.aload_n 0, 1) := by decide +kernel
theorem dX7_init_5 : decode cX7_init 5 = .ok (.sipush 320, 3) := by decide +kernel
theorem dX7_init_8 : decode cX7_init 8 = .ok (.newarray .byte, 2) := by decide +kernel
theorem dX7_init_10 : decode cX7_init 10 = .ok (.putfield 9, 3) := by decide +kernel
theorem dX7_init_13 : decode cX7_init 13 = .ok (.return_, 1) := by decide +kernel
theorem dX7_append_0 : decode cX7_append 0 = .ok (.aload_n 0, 1) := by decide +kernel
theorem dX7_append_1 : decode cX7_append 1 = .ok (.getfield 13, 3) := by decide +kernel
theorem dX7_append_4 : decode cX7_append 4 = .ok (.bipush 8, 2) := by decide +kernel
theorem dX7_append_6 : decode cX7_append 6 = .ok (.iadd, 1) := by decide +kernel
theorem dX7_append_7 : decode cX7_append 7 = .ok (.sipush 320, 3) := by decide +kernel
theorem dX7_append_10 : decode cX7_append 10 = .ok (.if_icmp .le 5, 3) := by decide +kernel
theorem dX7_append_13 : decode cX7_append 13 = .ok (.iconst 0, 1) := by decide +kernel
theorem dX7_append_14 : decode cX7_append 14 = .ok (.ireturn, 1) := by decide +kernel
theorem dX7_append_15 : decode cX7_append 15 = .ok (.iconst 0, 1) := by decide +kernel
theorem dX7_append_16 : decode cX7_append 16 = .ok (.istore_n 3, 1) := by decide +kernel
theorem dX7_append_17 : decode cX7_append 17 = .ok (.iload_n 3, 1) := by decide +kernel
theorem dX7_append_18 : decode cX7_append 18 = .ok (.bipush 8, 2) := by decide +kernel
theorem dX7_append_20 : decode cX7_append 20 = .ok (.if_icmp .ge 31, 3) := by decide +kernel
theorem dX7_append_23 : decode cX7_append 23 = .ok (.aload_n 0, 1) := by decide +kernel
theorem dX7_append_24 : decode cX7_append 24 = .ok (.getfield 9, 3) := by decide +kernel
theorem dX7_append_27 : decode cX7_append 27 = .ok (.aload_n 0, 1) := by decide +kernel
theorem dX7_append_28 : decode cX7_append 28 = .ok (.getfield 13, 3) := by decide +kernel
theorem dX7_append_31 : decode cX7_append 31 = .ok (.iload_n 3, 1) := by decide +kernel
theorem dX7_append_32 : decode cX7_append 32 = .ok (.iadd, 1) := by decide +kernel
theorem dX7_append_33 : decode cX7_append 33 = .ok (.lload_n 1, 1) := by decide +kernel
theorem dX7_append_34 : decode cX7_append 34 = .ok (.bipush 56, 2) := by decide +kernel
theorem dX7_append_36 : decode cX7_append 36 = .ok (.bipush 8, 2) := by decide +kernel
theorem dX7_append_38 : decode cX7_append 38 = .ok (.iload_n 3, 1) := by decide +kernel
theorem dX7_append_39 : decode cX7_append 39 = .ok (.imul, 1) := by decide +kernel
theorem dX7_append_40 : decode cX7_append 40 = .ok (.isub, 1) := by decide +kernel
theorem dX7_append_41 : decode cX7_append 41 = .ok (.lushr, 1) := by decide +kernel
theorem dX7_append_42 : decode cX7_append 42 = .ok (.l2i, 1) := by decide +kernel
theorem dX7_append_43 : decode cX7_append 43 = .ok (.i2b, 1) := by decide +kernel
theorem dX7_append_44 : decode cX7_append 44 = .ok (.bastore, 1) := by decide +kernel
theorem dX7_append_45 : decode cX7_append 45 = .ok (.iinc 3 1, 3) := by decide +kernel
theorem dX7_append_48 : decode cX7_append 48 = .ok (.goto (-31), 3) := by decide +kernel
theorem dX7_append_51 : decode cX7_append 51 = .ok (.aload_n 0, 1) := by decide +kernel
theorem dX7_append_52 : decode cX7_append 52 = .ok (.dup, 1) := by decide +kernel
theorem dX7_append_53 : decode cX7_append 53 = .ok (.getfield 13, 3) := by decide +kernel
theorem dX7_append_56 : decode cX7_append 56 = .ok (.bipush 8, 2) := by decide +kernel
theorem dX7_append_58 : decode cX7_append 58 = .ok (.iadd, 1) := by decide +kernel
theorem dX7_append_59 : decode cX7_append 59 = .ok (.putfield 13, 3) := by decide +kernel
theorem dX7_append_62 : decode cX7_append 62 = .ok (.iconst 1, 1) := by decide +kernel
theorem dX7_append_63 : decode cX7_append 63 = .ok (.ireturn, 1) := by decide +kernel
theorem dX7_rewind_0 : decode cX7_rewind 0 = .ok (.aload_n 0, 1) := by decide +kernel
theorem dX7_rewind_1 : decode cX7_rewind 1 = .ok (.iconst 0, 1) := by decide +kernel
theorem dX7_rewind_2 : decode cX7_rewind 2 = .ok (.putfield 17, 3) := by decide +kernel
theorem dX7_rewind_5 : decode cX7_rewind 5 = .ok (.return_, 1) := by decide +kernel
theorem dX7_step_0 : decode cX7_step 0 = .ok (.aload_n 0, 1) := by decide +kernel
theorem dX7_step_1 : decode cX7_step 1 = .ok (.getfield 17, 3) := by decide +kernel
theorem dX7_step_4 : decode cX7_step 4 = .ok (.aload_n 0, 1) := by decide +kernel
theorem dX7_step_5 : decode cX7_step 5 = .ok (.getfield 13, 3) := by decide +kernel
theorem dX7_step_8 : decode cX7_step 8 = .ok (.if_icmp .ge 30, 3) := by decide +kernel
theorem dX7_step_11 : decode cX7_step 11 = .ok (.aload_n 0, 1) := by decide +kernel
theorem dX7_step_12 : decode cX7_step 12 = .ok (.getfield 9, 3) := by decide +kernel
theorem dX7_step_15 : decode cX7_step 15 = .ok (.aload_n 0, 1) := by decide +kernel
theorem dX7_step_16 : decode cX7_step 16 = .ok (.getfield 17, 3) := by decide +kernel
theorem dX7_step_19 : decode cX7_step 19 = .ok (.baload, 1) := by decide +kernel
theorem dX7_step_20 : decode cX7_step 20 = .ok (.bipush 32, 2) := by decide +kernel
theorem dX7_step_22 : decode cX7_step 22 = .ok (.if_icmp .ne 16, 3) := by decide +kernel
theorem dX7_step_25 : decode cX7_step 25 = .ok (.aload_n 0, 1) := by decide +kernel
theorem dX7_step_26 : decode cX7_step 26 = .ok (.dup, 1) := by decide +kernel
theorem dX7_step_27 : decode cX7_step 27 = .ok (.getfield 17, 3) := by decide +kernel
theorem dX7_step_30 : decode cX7_step 30 = .ok (.iconst 1, 1) := by decide +kernel
theorem dX7_step_31 : decode cX7_step 31 = .ok (.iadd, 1) := by decide +kernel
theorem dX7_step_32 : decode cX7_step 32 = .ok (.putfield 17, 3) := by decide +kernel
theorem dX7_step_35 : decode cX7_step 35 = .ok (.goto (-35), 3) := by decide +kernel
theorem dX7_step_38 : decode cX7_step 38 = .ok (.aload_n 0, 1) := by decide +kernel
theorem dX7_step_39 : decode cX7_step 39 = .ok (.aload_n 0, 1) := by decide +kernel
theorem dX7_step_40 : decode cX7_step 40 = .ok (.getfield 17, 3) := by decide +kernel
theorem dX7_step_43 : decode cX7_step 43 = .ok (.putfield 20, 3) := by decide +kernel
theorem dX7_step_46 : decode cX7_step 46 = .ok (.aload_n 0, 1) := by decide +kernel
theorem dX7_step_47 : decode cX7_step 47 = .ok (.getfield 17, 3) := by decide +kernel
theorem dX7_step_50 : decode cX7_step 50 = .ok (.aload_n 0, 1) := by decide +kernel
theorem dX7_step_51 : decode cX7_step 51 = .ok (.getfield 13, 3) := by decide +kernel
theorem dX7_step_54 : decode cX7_step 54 = .ok (.if_icmp .lt 11, 3) := by decide +kernel
theorem dX7_step_57 : decode cX7_step 57 = .ok (.aload_n 0, 1) := by decide +kernel
theorem dX7_step_58 : decode cX7_step 58 = .ok (.iconst 0, 1) := by decide +kernel
theorem dX7_step_59 : decode cX7_step 59 = .ok (.putfield 23, 3) := by decide +kernel
theorem dX7_step_62 : decode cX7_step 62 = .ok (.goto 127, 3) := by decide +kernel
theorem dX7_step_65 : decode cX7_step 65 = .ok (.aload_n 0, 1) := by decide +kernel
theorem dX7_step_66 : decode cX7_step 66 = .ok (.getfield 9, 3) := by decide +kernel
theorem dX7_step_69 : decode cX7_step 69 = .ok (.aload_n 0, 1) := by decide +kernel
theorem dX7_step_70 : decode cX7_step 70 = .ok (.getfield 17, 3) := by decide +kernel
theorem dX7_step_73 : decode cX7_step 73 = .ok (.baload, 1) := by decide +kernel
theorem dX7_step_74 : decode cX7_step 74 = .ok (.bipush 59, 2) := by decide +kernel
theorem dX7_step_76 : decode cX7_step 76 = .ok (.if_icmp .ne 21, 3) := by decide +kernel
theorem dX7_step_79 : decode cX7_step 79 = .ok (.aload_n 0, 1) := by decide +kernel
theorem dX7_step_80 : decode cX7_step 80 = .ok (.iconst 3, 1) := by decide +kernel
theorem dX7_step_81 : decode cX7_step 81 = .ok (.putfield 23, 3) := by decide +kernel
theorem dX7_step_84 : decode cX7_step 84 = .ok (.aload_n 0, 1) := by decide +kernel
theorem dX7_step_85 : decode cX7_step 85 = .ok (.dup, 1) := by decide +kernel
theorem dX7_step_86 : decode cX7_step 86 = .ok (.getfield 17, 3) := by decide +kernel
theorem dX7_step_89 : decode cX7_step 89 = .ok (.iconst 1, 1) := by decide +kernel
theorem dX7_step_90 : decode cX7_step 90 = .ok (.iadd, 1) := by decide +kernel
theorem dX7_step_91 : decode cX7_step 91 = .ok (.putfield 17, 3) := by decide +kernel
theorem dX7_step_94 : decode cX7_step 94 = .ok (.goto 95, 3) := by decide +kernel
theorem dX7_step_97 : decode cX7_step 97 = .ok (.aload_n 0, 1) := by decide +kernel
theorem dX7_step_98 : decode cX7_step 98 = .ok (.getfield 9, 3) := by decide +kernel
theorem dX7_step_101 : decode cX7_step 101 = .ok (.aload_n 0, 1) := by decide +kernel
theorem dX7_step_102 : decode cX7_step 102 = .ok (.getfield 17, 3) := by decide +kernel
theorem dX7_step_105 : decode cX7_step 105 = .ok (.baload, 1) := by decide +kernel
theorem dX7_step_106 : decode cX7_step 106 = .ok (.bipush 97, 2) := by decide +kernel
theorem dX7_step_108 : decode cX7_step 108 = .ok (.if_icmp .lt 33, 3) := by decide +kernel
theorem dX7_step_111 : decode cX7_step 111 = .ok (.aload_n 0, 1) := by decide +kernel
theorem dX7_step_112 : decode cX7_step 112 = .ok (.getfield 9, 3) := by decide +kernel
theorem dX7_step_115 : decode cX7_step 115 = .ok (.aload_n 0, 1) := by decide +kernel
theorem dX7_step_116 : decode cX7_step 116 = .ok (.getfield 17, 3) := by decide +kernel
theorem dX7_step_119 : decode cX7_step 119 = .ok (.baload, 1) := by decide +kernel
theorem dX7_step_120 : decode cX7_step 120 = .ok (.bipush 122, 2) := by decide +kernel
theorem dX7_step_122 : decode cX7_step 122 = .ok (.if_icmp .gt 19, 3) := by decide +kernel
theorem dX7_step_125 : decode cX7_step 125 = .ok (.aload_n 0, 1) := by decide +kernel
theorem dX7_step_126 : decode cX7_step 126 = .ok (.iconst 1, 1) := by decide +kernel
theorem dX7_step_127 : decode cX7_step 127 = .ok (.putfield 23, 3) := by decide +kernel
theorem dX7_step_130 : decode cX7_step 130 = .ok (.aload_n 0, 1) := by decide +kernel
theorem dX7_step_131 : decode cX7_step 131 = .ok (.bipush 97, 2) := by decide +kernel
theorem dX7_step_133 : decode cX7_step 133 = .ok (.bipush 122, 2) := by decide +kernel
theorem dX7_step_135 : decode cX7_step 135 = .ok (.invokevirtual 26, 3) := by decide +kernel
theorem dX7_step_138 : decode cX7_step 138 = .ok (.goto 51, 3) := by decide +kernel
theorem dX7_step_141 : decode cX7_step 141 = .ok (.aload_n 0, 1) := by decide +kernel
theorem dX7_step_142 : decode cX7_step 142 = .ok (.getfield 9, 3) := by decide +kernel
theorem dX7_step_145 : decode cX7_step 145 = .ok (.aload_n 0, 1) := by decide +kernel
theorem dX7_step_146 : decode cX7_step 146 = .ok (.getfield 17, 3) := by decide +kernel
theorem dX7_step_149 : decode cX7_step 149 = .ok (.baload, 1) := by decide +kernel
theorem dX7_step_150 : decode cX7_step 150 = .ok (.bipush 48, 2) := by decide +kernel
theorem dX7_step_152 : decode cX7_step 152 = .ok (.if_icmp .lt 32, 3) := by decide +kernel
theorem dX7_step_155 : decode cX7_step 155 = .ok (.aload_n 0, 1) := by decide +kernel
theorem dX7_step_156 : decode cX7_step 156 = .ok (.getfield 9, 3) := by decide +kernel
theorem dX7_step_159 : decode cX7_step 159 = .ok (.aload_n 0, 1) := by decide +kernel
theorem dX7_step_160 : decode cX7_step 160 = .ok (.getfield 17, 3) := by decide +kernel
theorem dX7_step_163 : decode cX7_step 163 = .ok (.baload, 1) := by decide +kernel
theorem dX7_step_164 : decode cX7_step 164 = .ok (.bipush 57, 2) := by decide +kernel
theorem dX7_step_166 : decode cX7_step 166 = .ok (.if_icmp .gt 18, 3) := by decide +kernel
theorem dX7_step_169 : decode cX7_step 169 = .ok (.aload_n 0, 1) := by decide +kernel
theorem dX7_step_170 : decode cX7_step 170 = .ok (.bipush 48, 2) := by decide +kernel
theorem dX7_step_172 : decode cX7_step 172 = .ok (.bipush 57, 2) := by decide +kernel
theorem dX7_step_174 : decode cX7_step 174 = .ok (.invokevirtual 26, 3) := by decide +kernel
theorem dX7_step_177 : decode cX7_step 177 = .ok (.aload_n 0, 1) := by decide +kernel
theorem dX7_step_178 : decode cX7_step 178 = .ok (.invokevirtual 30, 3) := by decide +kernel
theorem dX7_step_181 : decode cX7_step 181 = .ok (.goto 8, 3) := by decide +kernel
theorem dX7_step_184 : decode cX7_step 184 = .ok (.aload_n 0, 1) := by decide +kernel
theorem dX7_step_185 : decode cX7_step 185 = .ok (.iconst 4, 1) := by decide +kernel
theorem dX7_step_186 : decode cX7_step 186 = .ok (.putfield 23, 3) := by decide +kernel
theorem dX7_step_189 : decode cX7_step 189 = .ok (.return_, 1) := by decide +kernel
theorem dX7_pass_0 : decode cX7_pass 0 = .ok (.aload_n 0, 1) := by decide +kernel
theorem dX7_pass_1 : decode cX7_pass 1 = .ok (.getfield 17, 3) := by decide +kernel
theorem dX7_pass_4 : decode cX7_pass 4 = .ok (.aload_n 0, 1) := by decide +kernel
theorem dX7_pass_5 : decode cX7_pass 5 = .ok (.getfield 13, 3) := by decide +kernel
theorem dX7_pass_8 : decode cX7_pass 8 = .ok (.if_icmp .ge 42, 3) := by decide +kernel
theorem dX7_pass_11 : decode cX7_pass 11 = .ok (.aload_n 0, 1) := by decide +kernel
theorem dX7_pass_12 : decode cX7_pass 12 = .ok (.getfield 9, 3) := by decide +kernel
theorem dX7_pass_15 : decode cX7_pass 15 = .ok (.aload_n 0, 1) := by decide +kernel
theorem dX7_pass_16 : decode cX7_pass 16 = .ok (.getfield 17, 3) := by decide +kernel
theorem dX7_pass_19 : decode cX7_pass 19 = .ok (.baload, 1) := by decide +kernel
theorem dX7_pass_20 : decode cX7_pass 20 = .ok (.iload_n 1, 1) := by decide +kernel
theorem dX7_pass_21 : decode cX7_pass 21 = .ok (.if_icmp .lt 29, 3) := by decide +kernel
theorem dX7_pass_24 : decode cX7_pass 24 = .ok (.aload_n 0, 1) := by decide +kernel
theorem dX7_pass_25 : decode cX7_pass 25 = .ok (.getfield 9, 3) := by decide +kernel
theorem dX7_pass_28 : decode cX7_pass 28 = .ok (.aload_n 0, 1) := by decide +kernel
theorem dX7_pass_29 : decode cX7_pass 29 = .ok (.getfield 17, 3) := by decide +kernel
theorem dX7_pass_32 : decode cX7_pass 32 = .ok (.baload, 1) := by decide +kernel
theorem dX7_pass_33 : decode cX7_pass 33 = .ok (.iload_n 2, 1) := by decide +kernel
theorem dX7_pass_34 : decode cX7_pass 34 = .ok (.if_icmp .gt 16, 3) := by decide +kernel
theorem dX7_pass_37 : decode cX7_pass 37 = .ok (.aload_n 0, 1) := by decide +kernel
theorem dX7_pass_38 : decode cX7_pass 38 = .ok (.dup, 1) := by decide +kernel
theorem dX7_pass_39 : decode cX7_pass 39 = .ok (.getfield 17, 3) := by decide +kernel
theorem dX7_pass_42 : decode cX7_pass 42 = .ok (.iconst 1, 1) := by decide +kernel
theorem dX7_pass_43 : decode cX7_pass 43 = .ok (.iadd, 1) := by decide +kernel
theorem dX7_pass_44 : decode cX7_pass 44 = .ok (.putfield 17, 3) := by decide +kernel
theorem dX7_pass_47 : decode cX7_pass 47 = .ok (.goto (-47), 3) := by decide +kernel
theorem dX7_pass_50 : decode cX7_pass 50 = .ok (.return_, 1) := by decide +kernel
theorem dX7_takeNumber_0 : decode cX7_takeNumber 0 = .ok (.aload_n 0, 1) := by decide +kernel
theorem dX7_takeNumber_1 : decode cX7_takeNumber 1 = .ok (.aload_n 0, 1) := by decide +kernel
theorem dX7_takeNumber_2 : decode cX7_takeNumber 2 = .ok (.getfield 17, 3) := by decide +kernel
theorem dX7_takeNumber_5 : decode cX7_takeNumber 5 = .ok (.aload_n 0, 1) := by decide +kernel
theorem dX7_takeNumber_6 : decode cX7_takeNumber 6 = .ok (.getfield 20, 3) := by decide +kernel
theorem dX7_takeNumber_9 : decode cX7_takeNumber 9 = .ok (.isub, 1) := by decide +kernel
theorem dX7_takeNumber_10 : decode cX7_takeNumber 10 = .ok (.iconst 2, 1) := by decide +kernel
theorem dX7_takeNumber_11 : decode cX7_takeNumber 11 = .ok (.if_icmp .le 7, 3) := by decide +kernel
theorem dX7_takeNumber_14 : decode cX7_takeNumber 14 = .ok (.iconst 4, 1) := by decide +kernel
theorem dX7_takeNumber_15 : decode cX7_takeNumber 15 = .ok (.goto 4, 3) := by decide +kernel
theorem dX7_takeNumber_18 : decode cX7_takeNumber 18 = .ok (.iconst 2, 1) := by decide +kernel
theorem dX7_takeNumber_19 : decode cX7_takeNumber 19 = .ok (.putfield 23, 3) := by decide +kernel
theorem dX7_takeNumber_22 : decode cX7_takeNumber 22 = .ok (.aload_n 0, 1) := by decide +kernel
theorem dX7_takeNumber_23 : decode cX7_takeNumber 23 = .ok (.iconst 0, 1) := by decide +kernel
theorem dX7_takeNumber_24 : decode cX7_takeNumber 24 = .ok (.putfield 33, 3) := by decide +kernel
theorem dX7_takeNumber_27 : decode cX7_takeNumber 27 = .ok (.aload_n 0, 1) := by decide +kernel
theorem dX7_takeNumber_28 : decode cX7_takeNumber 28 = .ok (.getfield 20, 3) := by decide +kernel
theorem dX7_takeNumber_31 : decode cX7_takeNumber 31 = .ok (.istore_n 1, 1) := by decide +kernel
theorem dX7_takeNumber_32 : decode cX7_takeNumber 32 = .ok (.iload_n 1, 1) := by decide +kernel
theorem dX7_takeNumber_33 : decode cX7_takeNumber 33 = .ok (.aload_n 0, 1) := by decide +kernel
theorem dX7_takeNumber_34 : decode cX7_takeNumber 34 = .ok (.getfield 17, 3) := by decide +kernel
theorem dX7_takeNumber_37 : decode cX7_takeNumber 37 = .ok (.if_icmp .ge 38, 3) := by decide +kernel
theorem dX7_takeNumber_40 : decode cX7_takeNumber 40 = .ok (.aload_n 0, 1) := by decide +kernel
theorem dX7_takeNumber_41 : decode cX7_takeNumber 41 = .ok (.getfield 23, 3) := by decide +kernel
theorem dX7_takeNumber_44 : decode cX7_takeNumber 44 = .ok (.iconst 2, 1) := by decide +kernel
theorem dX7_takeNumber_45 : decode cX7_takeNumber 45 = .ok (.if_icmp .ne 30, 3) := by decide +kernel
theorem dX7_takeNumber_48 : decode cX7_takeNumber 48 = .ok (.aload_n 0, 1) := by decide +kernel
theorem dX7_takeNumber_49 : decode cX7_takeNumber 49 = .ok (.bipush 10, 2) := by decide +kernel
theorem dX7_takeNumber_51 : decode cX7_takeNumber 51 = .ok (.aload_n 0, 1) := by decide +kernel
theorem dX7_takeNumber_52 : decode cX7_takeNumber 52 = .ok (.getfield 33, 3) := by decide +kernel
theorem dX7_takeNumber_55 : decode cX7_takeNumber 55 = .ok (.imul, 1) := by decide +kernel
theorem dX7_takeNumber_56 : decode cX7_takeNumber 56 = .ok (.aload_n 0, 1) := by decide +kernel
theorem dX7_takeNumber_57 : decode cX7_takeNumber 57 = .ok (.getfield 9, 3) := by decide +kernel
theorem dX7_takeNumber_60 : decode cX7_takeNumber 60 = .ok (.iload_n 1, 1) := by decide +kernel
theorem dX7_takeNumber_61 : decode cX7_takeNumber 61 = .ok (.baload, 1) := by decide +kernel
theorem dX7_takeNumber_62 : decode cX7_takeNumber 62 = .ok (.iadd, 1) := by decide +kernel
theorem dX7_takeNumber_63 : decode cX7_takeNumber 63 = .ok (.bipush 48, 2) := by decide +kernel
theorem dX7_takeNumber_65 : decode cX7_takeNumber 65 = .ok (.isub, 1) := by decide +kernel
theorem dX7_takeNumber_66 : decode cX7_takeNumber 66 = .ok (.putfield 33, 3) := by decide +kernel
theorem dX7_takeNumber_69 : decode cX7_takeNumber 69 = .ok (.iinc 1 1, 3) := by decide +kernel
theorem dX7_takeNumber_72 : decode cX7_takeNumber 72 = .ok (.goto (-40), 3) := by decide +kernel
theorem dX7_takeNumber_75 : decode cX7_takeNumber 75 = .ok (.return_, 1) := by decide +kernel
theorem dX7_says_0 : decode cX7_says 0 = .ok (.aload_n 0, 1) := by decide +kernel
theorem dX7_says_1 : decode cX7_says 1 = .ok (.getfield 23, 3) := by decide +kernel
theorem dX7_says_4 : decode cX7_says 4 = .ok (.iconst 1, 1) := by decide +kernel
theorem dX7_says_5 : decode cX7_says 5 = .ok (.if_icmp .ne 19, 3) := by decide +kernel
theorem dX7_says_8 : decode cX7_says 8 = .ok (.aload_n 0, 1) := by decide +kernel
theorem dX7_says_9 : decode cX7_says 9 = .ok (.getfield 17, 3) := by decide +kernel
theorem dX7_says_12 : decode cX7_says 12 = .ok (.aload_n 0, 1) := by decide +kernel
theorem dX7_says_13 : decode cX7_says 13 = .ok (.getfield 20, 3) := by decide +kernel
theorem dX7_says_16 : decode cX7_says 16 = .ok (.isub, 1) := by decide +kernel
theorem dX7_says_17 : decode cX7_says 17 = .ok (.aload_n 1, 1) := by decide +kernel
theorem dX7_says_18 : decode cX7_says 18 = .ok (.invokevirtual 36, 3) := by decide +kernel
theorem dX7_says_21 : decode cX7_says 21 = .ok (.if_icmp .eq 5, 3) := by decide +kernel
theorem dX7_says_24 : decode cX7_says 24 = .ok (.iconst 0, 1) := by decide +kernel
theorem dX7_says_25 : decode cX7_says 25 = .ok (.ireturn, 1) := by decide +kernel
theorem dX7_says_26 : decode cX7_says 26 = .ok (.aload_n 0, 1) := by decide +kernel
theorem dX7_says_27 : decode cX7_says 27 = .ok (.getfield 20, 3) := by decide +kernel
theorem dX7_says_30 : decode cX7_says 30 = .ok (.istore_n 2, 1) := by decide +kernel
theorem dX7_says_31 : decode cX7_says 31 = .ok (.iload_n 2, 1) := by decide +kernel
theorem dX7_says_32 : decode cX7_says 32 = .ok (.aload_n 0, 1) := by decide +kernel
theorem dX7_says_33 : decode cX7_says 33 = .ok (.getfield 17, 3) := by decide +kernel
theorem dX7_says_36 : decode cX7_says 36 = .ok (.if_icmp .ge 30, 3) := by decide +kernel
theorem dX7_says_39 : decode cX7_says 39 = .ok (.aload_n 0, 1) := by decide +kernel
theorem dX7_says_40 : decode cX7_says 40 = .ok (.getfield 9, 3) := by decide +kernel
theorem dX7_says_43 : decode cX7_says 43 = .ok (.iload_n 2, 1) := by decide +kernel
theorem dX7_says_44 : decode cX7_says 44 = .ok (.baload, 1) := by decide +kernel
theorem dX7_says_45 : decode cX7_says 45 = .ok (.aload_n 1, 1) := by decide +kernel
theorem dX7_says_46 : decode cX7_says 46 = .ok (.iload_n 2, 1) := by decide +kernel
theorem dX7_says_47 : decode cX7_says 47 = .ok (.aload_n 0, 1) := by decide +kernel
theorem dX7_says_48 : decode cX7_says 48 = .ok (.getfield 20, 3) := by decide +kernel
theorem dX7_says_51 : decode cX7_says 51 = .ok (.isub, 1) := by decide +kernel
theorem dX7_says_52 : decode cX7_says 52 = .ok (.invokevirtual 41, 3) := by decide +kernel
theorem dX7_says_55 : decode cX7_says 55 = .ok (.if_icmp .eq 5, 3) := by decide +kernel
theorem dX7_says_58 : decode cX7_says 58 = .ok (.iconst 0, 1) := by decide +kernel
theorem dX7_says_59 : decode cX7_says 59 = .ok (.ireturn, 1) := by decide +kernel
theorem dX7_says_60 : decode cX7_says 60 = .ok (.iinc 2 1, 3) := by decide +kernel
theorem dX7_says_63 : decode cX7_says 63 = .ok (.goto (-32), 3) := by decide +kernel
theorem dX7_says_66 : decode cX7_says 66 = .ok (.iconst 1, 1) := by decide +kernel
theorem dX7_says_67 : decode cX7_says 67 = .ok (.ireturn, 1) := by decide +kernel
theorem dX8_init_0 : decode cX8_init 0 = .ok (.aload_n 0, 1) := by decide +kernel
theorem dX8_init_1 : decode cX8_init 1 = .ok (.invokespecial 3, 3) := by decide +kernel
theorem dX8_init_4 : decode cX8_init 4 = .ok (.aload_n 0, 1) := by decide +kernel
theorem dX8_init_5 : decode cX8_init 5 = .ok (.new 9, 3) := by decide +kernel
theorem dX8_init_8 : decode cX8_init 8 = .ok (.dup, 1) := by decide +kernel
theorem dX8_init_9 : decode cX8_init 9 = .ok (.invokespecial 11, 3) := by decide +kernel
theorem dX8_init_12 : decode cX8_init 12 = .ok (.putfield 12, 3) := by decide +kernel
theorem dX8_init_15 : decode cX8_init 15 = .ok (.aload_n 0, 1) := by decide +kernel
theorem dX8_init_16 : decode cX8_init 16 = .ok (.aload_n 1, 1) := by decide +kernel
theorem dX8_init_17 : decode cX8_init 17 = .ok (.putfield 18, 3) := by decide +kernel
theorem dX8_init_20 : decode cX8_init 20 = .ok (.return_, 1) := by decide +kernel
theorem dX8_tell_0 : decode cX8_tell 0 = .ok (.aload_n 0, 1) := by decide +kernel
theorem dX8_tell_1 : decode cX8_tell 1 = .ok (.invokevirtual 22, 3) := by decide +kernel
theorem dX8_tell_4 : decode cX8_tell 4 = .ok (.iconst 0, 1) := by decide +kernel
theorem dX8_tell_5 : decode cX8_tell 5 = .ok (.istore_n 1, 1) := by decide +kernel
theorem dX8_tell_6 : decode cX8_tell 6 = .ok (.iload_n 1, 1) := by decide +kernel
theorem dX8_tell_7 : decode cX8_tell 7 = .ok (.sipush 320, 3) := by decide +kernel
theorem dX8_tell_10 : decode cX8_tell 10 = .ok (.if_icmp .gt 50, 3) := by decide +kernel
theorem dX8_tell_13 : decode cX8_tell 13 = .ok (.aload_n 0, 1) := by decide +kernel
theorem dX8_tell_14 : decode cX8_tell 14 = .ok (.getfield 18, 3) := by decide +kernel
theorem dX8_tell_17 : decode cX8_tell 17 = .ok (.invokevirtual 27, 3) := by decide +kernel
theorem dX8_tell_20 : decode cX8_tell 20 = .ok (.aload_n 0, 1) := by decide +kernel
theorem dX8_tell_21 : decode cX8_tell 21 = .ok (.getfield 18, 3) := by decide +kernel
theorem dX8_tell_24 : decode cX8_tell 24 = .ok (.getfield 30, 3) := by decide +kernel
theorem dX8_tell_27 : decode cX8_tell 27 = .ok (.ifCond .ne 8, 3) := by decide +kernel
theorem dX8_tell_30 : decode cX8_tell 30 = .ok (.aload_n 0, 1) := by decide +kernel
theorem dX8_tell_31 : decode cX8_tell 31 = .ok (.invokevirtual 34, 3) := by decide +kernel
theorem dX8_tell_34 : decode cX8_tell 34 = .ok (.ireturn, 1) := by decide +kernel
theorem dX8_tell_35 : decode cX8_tell 35 = .ok (.aload_n 0, 1) := by decide +kernel
theorem dX8_tell_36 : decode cX8_tell 36 = .ok (.invokevirtual 38, 3) := by decide +kernel
theorem dX8_tell_39 : decode cX8_tell 39 = .ok (.ifCond .ne 5, 3) := by decide +kernel
theorem dX8_tell_42 : decode cX8_tell 42 = .ok (.iconst 0, 1) := by decide +kernel
theorem dX8_tell_43 : decode cX8_tell 43 = .ok (.ireturn, 1) := by decide +kernel
theorem dX8_tell_44 : decode cX8_tell 44 = .ok (.aload_n 0, 1) := by decide +kernel
theorem dX8_tell_45 : decode cX8_tell 45 = .ok (.dup, 1) := by decide +kernel
theorem dX8_tell_46 : decode cX8_tell 46 = .ok (.getfield 41, 3) := by decide +kernel
theorem dX8_tell_49 : decode cX8_tell 49 = .ok (.iconst 1, 1) := by decide +kernel
theorem dX8_tell_50 : decode cX8_tell 50 = .ok (.iadd, 1) := by decide +kernel
theorem dX8_tell_51 : decode cX8_tell 51 = .ok (.putfield 41, 3) := by decide +kernel
theorem dX8_tell_54 : decode cX8_tell 54 = .ok (.iinc 1 1, 3) := by decide +kernel
theorem dX8_tell_57 : decode cX8_tell 57 = .ok (.goto (-51), 3) := by decide +kernel
theorem dX8_tell_60 : decode cX8_tell 60 = .ok (.iconst 0, 1) := by decide +kernel
theorem dX8_tell_61 : decode cX8_tell 61 = .ok (.ireturn, 1) := by decide +kernel
theorem dX8_begin_0 : decode cX8_begin 0 = .ok (.aload_n 0, 1) := by decide +kernel
theorem dX8_begin_1 : decode cX8_begin 1 = .ok (.getfield 18, 3) := by decide +kernel
theorem dX8_begin_4 : decode cX8_begin 4 = .ok (.invokevirtual 44, 3) := by decide +kernel
theorem dX8_begin_7 : decode cX8_begin 7 = .ok (.aload_n 0, 1) := by decide +kernel
theorem dX8_begin_8 : decode cX8_begin 8 = .ok (.getfield 12, 3) := by decide +kernel
theorem dX8_begin_11 : decode cX8_begin 11 = .ok (.iconst 0, 1) := by decide +kernel
theorem dX8_begin_12 : decode cX8_begin 12 = .ok (.invokevirtual 47, 3) := by decide +kernel
theorem dX8_begin_15 : decode cX8_begin 15 = .ok (.aload_n 0, 1) := by decide +kernel
theorem dX8_begin_16 : decode cX8_begin 16 = .ok (.iconst 2, 1) := by decide +kernel
theorem dX8_begin_17 : decode cX8_begin 17 = .ok (.putfield 51, 3) := by decide +kernel
theorem dX8_begin_20 : decode cX8_begin 20 = .ok (.aload_n 0, 1) := by decide +kernel
theorem dX8_begin_21 : decode cX8_begin 21 = .ok (.iconst 2, 1) := by decide +kernel
theorem dX8_begin_22 : decode cX8_begin 22 = .ok (.putfield 54, 3) := by decide +kernel
theorem dX8_begin_25 : decode cX8_begin 25 = .ok (.aload_n 0, 1) := by decide +kernel
theorem dX8_begin_26 : decode cX8_begin 26 = .ok (.iconst 0, 1) := by decide +kernel
theorem dX8_begin_27 : decode cX8_begin 27 = .ok (.putfield 41, 3) := by decide +kernel
theorem dX8_begin_30 : decode cX8_begin 30 = .ok (.aload_n 0, 1) := by decide +kernel
theorem dX8_begin_31 : decode cX8_begin 31 = .ok (.iconst 0, 1) := by decide +kernel
theorem dX8_begin_32 : decode cX8_begin 32 = .ok (.putfield 57, 3) := by decide +kernel
theorem dX8_begin_35 : decode cX8_begin 35 = .ok (.aload_n 0, 1) := by decide +kernel
theorem dX8_begin_36 : decode cX8_begin 36 = .ok (.iconst 0, 1) := by decide +kernel
theorem dX8_begin_37 : decode cX8_begin 37 = .ok (.putfield 60, 3) := by decide +kernel
theorem dX8_begin_40 : decode cX8_begin 40 = .ok (.aload_n 0, 1) := by decide +kernel
theorem dX8_begin_41 : decode cX8_begin 41 = .ok (.iconst 0, 1) := by decide +kernel
theorem dX8_begin_42 : decode cX8_begin 42 = .ok (.putfield 63, 3) := by decide +kernel
theorem dX8_begin_45 : decode cX8_begin 45 = .ok (.aload_n 0, 1) := by decide +kernel
theorem dX8_begin_46 : decode cX8_begin 46 = .ok (.iconst 0, 1) := by decide +kernel
theorem dX8_begin_47 : decode cX8_begin 47 = .ok (.putfield 67, 3) := by decide +kernel
theorem dX8_begin_50 : decode cX8_begin 50 = .ok (.aload_n 0, 1) := by decide +kernel
theorem dX8_begin_51 : decode cX8_begin 51 = .ok (.iconst 0, 1) := by decide +kernel
theorem dX8_begin_52 : decode cX8_begin 52 = .ok (.putfield 70, 3) := by decide +kernel
theorem dX8_begin_55 : decode cX8_begin 55 = .ok (.aload_n 0, 1) := by decide +kernel
theorem dX8_begin_56 : decode cX8_begin 56 = .ok (.iconst 0, 1) := by decide +kernel
theorem dX8_begin_57 : decode cX8_begin 57 = .ok (.putfield 73, 3) := by decide +kernel
theorem dX8_begin_60 : decode cX8_begin 60 = .ok (.aload_n 0, 1) := by decide +kernel
theorem dX8_begin_61 : decode cX8_begin 61 = .ok (.iconst 0, 1) := by decide +kernel
theorem dX8_begin_62 : decode cX8_begin 62 = .ok (.putfield 76, 3) := by decide +kernel
theorem dX8_begin_65 : decode cX8_begin 65 = .ok (.return_, 1) := by decide +kernel
theorem dX8_finish_0 : decode cX8_finish 0 = .ok (.aload_n 0, 1) := by decide +kernel
theorem dX8_finish_1 : decode cX8_finish 1 = .ok (.getfield 51, 3) := by decide +kernel
theorem dX8_finish_4 : decode cX8_finish 4 = .ok (.aload_n 0, 1) := by decide +kernel
theorem dX8_finish_5 : decode cX8_finish 5 = .ok (.getfield 54, 3) := by decide +kernel
theorem dX8_finish_8 : decode cX8_finish 8 = .ok (.invokestatic 79, 3) := by decide +kernel
theorem dX8_finish_11 : decode cX8_finish 11 = .ok (.invokestatic 85, 3) := by decide +kernel
theorem dX8_finish_14 : decode cX8_finish 14 = .ok (.istore_n 1, 1) := by decide +kernel
theorem dX8_finish_15 : decode cX8_finish 15 = .ok (.aload_n 0, 1) := by decide +kernel
theorem dX8_finish_16 : decode cX8_finish 16 = .ok (.getfield 67, 3) := by decide +kernel
theorem dX8_finish_19 : decode cX8_finish 19 = .ok (.aload_n 0, 1) := by decide +kernel
theorem dX8_finish_20 : decode cX8_finish 20 = .ok (.getfield 70, 3) := by decide +kernel
theorem dX8_finish_23 : decode cX8_finish 23 = .ok (.ior, 1) := by decide +kernel
theorem dX8_finish_24 : decode cX8_finish 24 = .ok (.iload_n 1, 1) := by decide +kernel
theorem dX8_finish_25 : decode cX8_finish 25 = .ok (.iconst (-1), 1) := by decide +kernel
theorem dX8_finish_26 : decode cX8_finish 26 = .ok (.ixor, 1) := by decide +kernel
theorem dX8_finish_27 : decode cX8_finish 27 = .ok (.iand, 1) := by decide +kernel
theorem dX8_finish_28 : decode cX8_finish 28 = .ok (.ifCond .eq 9, 3) := by decide +kernel
theorem dX8_finish_31 : decode cX8_finish 31 = .ok (.aload_n 0, 1) := by decide +kernel
theorem dX8_finish_32 : decode cX8_finish 32 = .ok (.iconst 5, 1) := by decide +kernel
theorem dX8_finish_33 : decode cX8_finish 33 = .ok (.invokevirtual 89, 3) := by decide +kernel
theorem dX8_finish_36 : decode cX8_finish 36 = .ok (.ireturn, 1) := by decide +kernel
theorem dX8_finish_37 : decode cX8_finish 37 = .ok (.aload_n 0, 1) := by decide +kernel
theorem dX8_finish_38 : decode cX8_finish 38 = .ok (.getfield 12, 3) := by decide +kernel
theorem dX8_finish_41 : decode cX8_finish 41 = .ok (.iload_n 1, 1) := by decide +kernel
theorem dX8_finish_42 : decode cX8_finish 42 = .ok (.aload_n 0, 1) := by decide +kernel
theorem dX8_finish_43 : decode cX8_finish 43 = .ok (.getfield 67, 3) := by decide +kernel
theorem dX8_finish_46 : decode cX8_finish 46 = .ok (.iconst (-1), 1) := by decide +kernel
theorem dX8_finish_47 : decode cX8_finish 47 = .ok (.ixor, 1) := by decide +kernel
theorem dX8_finish_48 : decode cX8_finish 48 = .ok (.iand, 1) := by decide +kernel
theorem dX8_finish_49 : decode cX8_finish 49 = .ok (.putfield 93, 3) := by decide +kernel
theorem dX8_finish_52 : decode cX8_finish 52 = .ok (.aload_n 0, 1) := by decide +kernel
theorem dX8_finish_53 : decode cX8_finish 53 = .ok (.getfield 12, 3) := by decide +kernel
theorem dX8_finish_56 : decode cX8_finish 56 = .ok (.aload_n 0, 1) := by decide +kernel
theorem dX8_finish_57 : decode cX8_finish 57 = .ok (.getfield 73, 3) := by decide +kernel
theorem dX8_finish_60 : decode cX8_finish 60 = .ok (.ifCond .ne 8, 3) := by decide +kernel
theorem dX8_finish_63 : decode cX8_finish 63 = .ok (.bipush 14, 2) := by decide +kernel
theorem dX8_finish_65 : decode cX8_finish 65 = .ok (.goto 7, 3) := by decide +kernel
theorem dX8_finish_68 : decode cX8_finish 68 = .ok (.aload_n 0, 1) := by decide +kernel
theorem dX8_finish_69 : decode cX8_finish 69 = .ok (.getfield 73, 3) := by decide +kernel
theorem dX8_finish_72 : decode cX8_finish 72 = .ok (.putfield 96, 3) := by decide +kernel
theorem dX8_finish_75 : decode cX8_finish 75 = .ok (.iconst 1, 1) := by decide +kernel
theorem dX8_finish_76 : decode cX8_finish 76 = .ok (.ireturn, 1) := by decide +kernel
theorem dX8_refuse_0 : decode cX8_refuse 0 = .ok (.aload_n 0, 1) := by decide +kernel
theorem dX8_refuse_1 : decode cX8_refuse 1 = .ok (.iload_n 1, 1) := by decide +kernel
theorem dX8_refuse_2 : decode cX8_refuse 2 = .ok (.putfield 57, 3) := by decide +kernel
theorem dX8_refuse_5 : decode cX8_refuse 5 = .ok (.aload_n 0, 1) := by decide +kernel
theorem dX8_refuse_6 : decode cX8_refuse 6 = .ok (.aload_n 0, 1) := by decide +kernel
theorem dX8_refuse_7 : decode cX8_refuse 7 = .ok (.getfield 18, 3) := by decide +kernel
theorem dX8_refuse_10 : decode cX8_refuse 10 = .ok (.getfield 99, 3) := by decide +kernel
theorem dX8_refuse_13 : decode cX8_refuse 13 = .ok (.putfield 60, 3) := by decide +kernel
theorem dX8_refuse_16 : decode cX8_refuse 16 = .ok (.iconst 0, 1) := by decide +kernel
theorem dX8_refuse_17 : decode cX8_refuse 17 = .ok (.ireturn, 1) := by decide +kernel
theorem dX8_tellLine_0 : decode cX8_tellLine 0 = .ok (.aload_n 0, 1) := by decide +kernel
theorem dX8_tellLine_1 : decode cX8_tellLine 1 = .ok (.getfield 18, 3) := by decide +kernel
theorem dX8_tellLine_4 : decode cX8_tellLine 4 = .ok (.ldc 102, 2) := by decide +kernel
theorem dX8_tellLine_6 : decode cX8_tellLine 6 = .ok (.invokevirtual 104, 3) := by decide +kernel
theorem dX8_tellLine_9 : decode cX8_tellLine 9 = .ok (.ifCond .eq 8, 3) := by decide +kernel
theorem dX8_tellLine_12 : decode cX8_tellLine 12 = .ok (.aload_n 0, 1) := by decide +kernel
theorem dX8_tellLine_13 : decode cX8_tellLine 13 = .ok (.invokevirtual 108, 3) := by decide +kernel
theorem dX8_tellLine_16 : decode cX8_tellLine 16 = .ok (.ireturn, 1) := by decide +kernel
theorem dX8_tellLine_17 : decode cX8_tellLine 17 = .ok (.aload_n 0, 1) := by decide +kernel
theorem dX8_tellLine_18 : decode cX8_tellLine 18 = .ok (.getfield 18, 3) := by decide +kernel
theorem dX8_tellLine_21 : decode cX8_tellLine 21 = .ok (.ldc 111, 2) := by decide +kernel
theorem dX8_tellLine_23 : decode cX8_tellLine 23 = .ok (.invokevirtual 104, 3) := by decide +kernel
theorem dX8_tellLine_26 : decode cX8_tellLine 26 = .ok (.ifCond .eq 8, 3) := by decide +kernel
theorem dX8_tellLine_29 : decode cX8_tellLine 29 = .ok (.aload_n 0, 1) := by decide +kernel
theorem dX8_tellLine_30 : decode cX8_tellLine 30 = .ok (.invokevirtual 113, 3) := by decide +kernel
theorem dX8_tellLine_33 : decode cX8_tellLine 33 = .ok (.ireturn, 1) := by decide +kernel
theorem dX8_tellLine_34 : decode cX8_tellLine 34 = .ok (.aload_n 0, 1) := by decide +kernel
theorem dX8_tellLine_35 : decode cX8_tellLine 35 = .ok (.getfield 18, 3) := by decide +kernel
theorem dX8_tellLine_38 : decode cX8_tellLine 38 = .ok (.ldc 116, 2) := by decide +kernel
theorem dX8_tellLine_40 : decode cX8_tellLine 40 = .ok (.invokevirtual 104, 3) := by decide +kernel
theorem dX8_tellLine_43 : decode cX8_tellLine 43 = .ok (.ifCond .eq 8, 3) := by decide +kernel
theorem dX8_tellLine_46 : decode cX8_tellLine 46 = .ok (.aload_n 0, 1) := by decide +kernel
theorem dX8_tellLine_47 : decode cX8_tellLine 47 = .ok (.invokevirtual 118, 3) := by decide +kernel
theorem dX8_tellLine_50 : decode cX8_tellLine 50 = .ok (.ireturn, 1) := by decide +kernel
theorem dX8_tellLine_51 : decode cX8_tellLine 51 = .ok (.aload_n 0, 1) := by decide +kernel
theorem dX8_tellLine_52 : decode cX8_tellLine 52 = .ok (.getfield 18, 3) := by decide +kernel
theorem dX8_tellLine_55 : decode cX8_tellLine 55 = .ok (.ldc 121, 2) := by decide +kernel
theorem dX8_tellLine_57 : decode cX8_tellLine 57 = .ok (.invokevirtual 104, 3) := by decide +kernel
theorem dX8_tellLine_60 : decode cX8_tellLine 60 = .ok (.ifCond .eq 8, 3) := by decide +kernel
theorem dX8_tellLine_63 : decode cX8_tellLine 63 = .ok (.aload_n 0, 1) := by decide +kernel
theorem dX8_tellLine_64 : decode cX8_tellLine 64 = .ok (.invokevirtual 123, 3) := by decide +kernel
theorem dX8_tellLine_67 : decode cX8_tellLine 67 = .ok (.ireturn, 1) := by decide +kernel
theorem dX8_tellLine_68 : decode cX8_tellLine 68 = .ok (.aload_n 0, 1) := by decide +kernel
theorem dX8_tellLine_69 : decode cX8_tellLine 69 = .ok (.getfield 18, 3) := by decide +kernel
theorem dX8_tellLine_72 : decode cX8_tellLine 72 = .ok (.ldc 126, 2) := by decide +kernel
theorem dX8_tellLine_74 : decode cX8_tellLine 74 = .ok (.invokevirtual 104, 3) := by decide +kernel
theorem dX8_tellLine_77 : decode cX8_tellLine 77 = .ok (.ifCond .eq 8, 3) := by decide +kernel
theorem dX8_tellLine_80 : decode cX8_tellLine 80 = .ok (.aload_n 0, 1) := by decide +kernel
theorem dX8_tellLine_81 : decode cX8_tellLine 81 = .ok (.invokevirtual 128, 3) := by decide +kernel
theorem dX8_tellLine_84 : decode cX8_tellLine 84 = .ok (.ireturn, 1) := by decide +kernel
theorem dX8_tellLine_85 : decode cX8_tellLine 85 = .ok (.aload_n 0, 1) := by decide +kernel
theorem dX8_tellLine_86 : decode cX8_tellLine 86 = .ok (.aload_n 0, 1) := by decide +kernel
theorem dX8_tellLine_87 : decode cX8_tellLine 87 = .ok (.invokevirtual 131, 3) := by decide +kernel
theorem dX8_tellLine_90 : decode cX8_tellLine 90 = .ok (.invokevirtual 89, 3) := by decide +kernel
theorem dX8_tellLine_93 : decode cX8_tellLine 93 = .ok (.ireturn, 1) := by decide +kernel
theorem dX8_misfit_0 : decode cX8_misfit 0 = .ok (.aload_n 0, 1) := by decide +kernel
theorem dX8_misfit_1 : decode cX8_misfit 1 = .ok (.getfield 18, 3) := by decide +kernel
theorem dX8_misfit_4 : decode cX8_misfit 4 = .ok (.getfield 30, 3) := by decide +kernel
theorem dX8_misfit_7 : decode cX8_misfit 7 = .ok (.iconst 4, 1) := by decide +kernel
theorem dX8_misfit_8 : decode cX8_misfit 8 = .ok (.if_icmp .ne 7, 3) := by decide +kernel
theorem dX8_misfit_11 : decode cX8_misfit 11 = .ok (.iconst 1, 1) := by decide +kernel
theorem dX8_misfit_12 : decode cX8_misfit 12 = .ok (.goto 4, 3) := by decide +kernel
theorem dX8_misfit_15 : decode cX8_misfit 15 = .ok (.iconst 2, 1) := by decide +kernel
theorem dX8_misfit_16 : decode cX8_misfit 16 = .ok (.ireturn, 1) := by decide +kernel
theorem dX8_tellGrid_0 : decode cX8_tellGrid 0 = .ok (.aload_n 0, 1) := by decide +kernel
theorem dX8_tellGrid_1 : decode cX8_tellGrid 1 = .ok (.getfield 63, 3) := by decide +kernel
theorem dX8_tellGrid_4 : decode cX8_tellGrid 4 = .ok (.ifCond .eq 9, 3) := by decide +kernel
theorem dX8_tellGrid_7 : decode cX8_tellGrid 7 = .ok (.aload_n 0, 1) := by decide +kernel
theorem dX8_tellGrid_8 : decode cX8_tellGrid 8 = .ok (.iconst 4, 1) := by decide +kernel
theorem dX8_tellGrid_9 : decode cX8_tellGrid 9 = .ok (.invokevirtual 89, 3) := by decide +kernel
theorem dX8_tellGrid_12 : decode cX8_tellGrid 12 = .ok (.ireturn, 1) := by decide +kernel
theorem dX8_tellGrid_13 : decode cX8_tellGrid 13 = .ok (.aload_n 0, 1) := by decide +kernel
theorem dX8_tellGrid_14 : decode cX8_tellGrid 14 = .ok (.iconst 1, 1) := by decide +kernel
theorem dX8_tellGrid_15 : decode cX8_tellGrid 15 = .ok (.putfield 63, 3) := by decide +kernel
theorem dX8_tellGrid_18 : decode cX8_tellGrid 18 = .ok (.aload_n 0, 1) := by decide +kernel
theorem dX8_tellGrid_19 : decode cX8_tellGrid 19 = .ok (.iconst 1, 1) := by decide +kernel
theorem dX8_tellGrid_20 : decode cX8_tellGrid 20 = .ok (.iconst 4, 1) := by decide +kernel
theorem dX8_tellGrid_21 : decode cX8_tellGrid 21 = .ok (.iconst 0, 1) := by decide +kernel
theorem dX8_tellGrid_22 : decode cX8_tellGrid 22 = .ok (.invokevirtual 135, 3) := by decide +kernel
theorem dX8_tellGrid_25 : decode cX8_tellGrid 25 = .ok (.ifCond .ne 5, 3) := by decide +kernel
theorem dX8_tellGrid_28 : decode cX8_tellGrid 28 = .ok (.iconst 0, 1) := by decide +kernel
theorem dX8_tellGrid_29 : decode cX8_tellGrid 29 = .ok (.ireturn, 1) := by decide +kernel
theorem dX8_tellGrid_30 : decode cX8_tellGrid 30 = .ok (.aload_n 0, 1) := by decide +kernel
theorem dX8_tellGrid_31 : decode cX8_tellGrid 31 = .ok (.aload_n 0, 1) := by decide +kernel
theorem dX8_tellGrid_32 : decode cX8_tellGrid 32 = .ok (.getfield 18, 3) := by decide +kernel
theorem dX8_tellGrid_35 : decode cX8_tellGrid 35 = .ok (.getfield 139, 3) := by decide +kernel
theorem dX8_tellGrid_38 : decode cX8_tellGrid 38 = .ok (.putfield 51, 3) := by decide +kernel
theorem dX8_tellGrid_41 : decode cX8_tellGrid 41 = .ok (.aload_n 0, 1) := by decide +kernel
theorem dX8_tellGrid_42 : decode cX8_tellGrid 42 = .ok (.iconst 1, 1) := by decide +kernel
theorem dX8_tellGrid_43 : decode cX8_tellGrid 43 = .ok (.iconst 3, 1) := by decide +kernel
theorem dX8_tellGrid_44 : decode cX8_tellGrid 44 = .ok (.iconst 0, 1) := by decide +kernel
theorem dX8_tellGrid_45 : decode cX8_tellGrid 45 = .ok (.invokevirtual 135, 3) := by decide +kernel
theorem dX8_tellGrid_48 : decode cX8_tellGrid 48 = .ok (.ifCond .ne 5, 3) := by decide +kernel
theorem dX8_tellGrid_51 : decode cX8_tellGrid 51 = .ok (.iconst 0, 1) := by decide +kernel
theorem dX8_tellGrid_52 : decode cX8_tellGrid 52 = .ok (.ireturn, 1) := by decide +kernel
theorem dX8_tellGrid_53 : decode cX8_tellGrid 53 = .ok (.aload_n 0, 1) := by decide +kernel
theorem dX8_tellGrid_54 : decode cX8_tellGrid 54 = .ok (.aload_n 0, 1) := by decide +kernel
theorem dX8_tellGrid_55 : decode cX8_tellGrid 55 = .ok (.getfield 18, 3) := by decide +kernel
theorem dX8_tellGrid_58 : decode cX8_tellGrid 58 = .ok (.getfield 139, 3) := by decide +kernel
theorem dX8_tellGrid_61 : decode cX8_tellGrid 61 = .ok (.putfield 54, 3) := by decide +kernel
theorem dX8_tellGrid_64 : decode cX8_tellGrid 64 = .ok (.aload_n 0, 1) := by decide +kernel
theorem dX8_tellGrid_65 : decode cX8_tellGrid 65 = .ok (.invokevirtual 142, 3) := by decide +kernel
theorem dX8_tellGrid_68 : decode cX8_tellGrid 68 = .ok (.ireturn, 1) := by decide +kernel
theorem dX8_tellGone_0 : decode cX8_tellGone 0 = .ok (.aload_n 0, 1) := by decide +kernel
theorem dX8_tellGone_1 : decode cX8_tellGone 1 = .ok (.iconst 0, 1) := by decide +kernel
theorem dX8_tellGone_2 : decode cX8_tellGone 2 = .ok (.bipush 30, 2) := by decide +kernel
theorem dX8_tellGone_4 : decode cX8_tellGone 4 = .ok (.aload_n 0, 1) := by decide +kernel
theorem dX8_tellGone_5 : decode cX8_tellGone 5 = .ok (.getfield 67, 3) := by decide +kernel
theorem dX8_tellGone_8 : decode cX8_tellGone 8 = .ok (.invokevirtual 135, 3) := by decide +kernel
theorem dX8_tellGone_11 : decode cX8_tellGone 11 = .ok (.istore_n 1, 1) := by decide +kernel
theorem dX8_tellGone_12 : decode cX8_tellGone 12 = .ok (.iconst 0, 1) := by decide +kernel
theorem dX8_tellGone_13 : decode cX8_tellGone 13 = .ok (.istore_n 2, 1) := by decide +kernel
theorem dX8_tellGone_14 : decode cX8_tellGone 14 = .ok (.iload_n 2, 1) := by decide +kernel
theorem dX8_tellGone_15 : decode cX8_tellGone 15 = .ok (.sipush 320, 3) := by decide +kernel
theorem dX8_tellGone_18 : decode cX8_tellGone 18 = .ok (.if_icmp .ge 43, 3) := by decide +kernel
theorem dX8_tellGone_21 : decode cX8_tellGone 21 = .ok (.iload_n 1, 1) := by decide +kernel
theorem dX8_tellGone_22 : decode cX8_tellGone 22 = .ok (.ifCond .eq 39, 3) := by decide +kernel
theorem dX8_tellGone_25 : decode cX8_tellGone 25 = .ok (.aload_n 0, 1) := by decide +kernel
theorem dX8_tellGone_26 : decode cX8_tellGone 26 = .ok (.dup, 1) := by decide +kernel
theorem dX8_tellGone_27 : decode cX8_tellGone 27 = .ok (.getfield 67, 3) := by decide +kernel
theorem dX8_tellGone_30 : decode cX8_tellGone 30 = .ok (.iconst 1, 1) := by decide +kernel
theorem dX8_tellGone_31 : decode cX8_tellGone 31 = .ok (.aload_n 0, 1) := by decide +kernel
theorem dX8_tellGone_32 : decode cX8_tellGone 32 = .ok (.getfield 18, 3) := by decide +kernel
theorem dX8_tellGone_35 : decode cX8_tellGone 35 = .ok (.getfield 139, 3) := by decide +kernel
theorem dX8_tellGone_38 : decode cX8_tellGone 38 = .ok (.ishl, 1) := by decide +kernel
theorem dX8_tellGone_39 : decode cX8_tellGone 39 = .ok (.ior, 1) := by decide +kernel
theorem dX8_tellGone_40 : decode cX8_tellGone 40 = .ok (.putfield 67, 3) := by decide +kernel
theorem dX8_tellGone_43 : decode cX8_tellGone 43 = .ok (.aload_n 0, 1) := by decide +kernel
theorem dX8_tellGone_44 : decode cX8_tellGone 44 = .ok (.iconst 0, 1) := by decide +kernel
theorem dX8_tellGone_45 : decode cX8_tellGone 45 = .ok (.bipush 30, 2) := by decide +kernel
theorem dX8_tellGone_47 : decode cX8_tellGone 47 = .ok (.aload_n 0, 1) := by decide +kernel
theorem dX8_tellGone_48 : decode cX8_tellGone 48 = .ok (.getfield 67, 3) := by decide +kernel
theorem dX8_tellGone_51 : decode cX8_tellGone 51 = .ok (.invokevirtual 145, 3) := by decide +kernel
theorem dX8_tellGone_54 : decode cX8_tellGone 54 = .ok (.istore_n 1, 1) := by decide +kernel
theorem dX8_tellGone_55 : decode cX8_tellGone 55 = .ok (.iinc 2 1, 3) := by decide +kernel
theorem dX8_tellGone_58 : decode cX8_tellGone 58 = .ok (.goto (-44), 3) := by decide +kernel
theorem dX8_tellGone_61 : decode cX8_tellGone 61 = .ok (.aload_n 0, 1) := by decide +kernel
theorem dX8_tellGone_62 : decode cX8_tellGone 62 = .ok (.getfield 57, 3) := by decide +kernel
theorem dX8_tellGone_65 : decode cX8_tellGone 65 = .ok (.ifCond .ne 7, 3) := by decide +kernel
theorem dX8_tellGone_68 : decode cX8_tellGone 68 = .ok (.iconst 1, 1) := by decide +kernel
theorem dX8_tellGone_69 : decode cX8_tellGone 69 = .ok (.goto 4, 3) := by decide +kernel
theorem dX8_tellGone_72 : decode cX8_tellGone 72 = .ok (.iconst 0, 1) := by decide +kernel
theorem dX8_tellGone_73 : decode cX8_tellGone 73 = .ok (.ireturn, 1) := by decide +kernel
theorem dX8_tellSizes_0 : decode cX8_tellSizes 0 = .ok (.aload_n 0, 1) := by decide +kernel
theorem dX8_tellSizes_1 : decode cX8_tellSizes 1 = .ok (.iconst 1, 1) := by decide +kernel
theorem dX8_tellSizes_2 : decode cX8_tellSizes 2 = .ok (.iconst 3, 1) := by decide +kernel
theorem dX8_tellSizes_3 : decode cX8_tellSizes 3 = .ok (.aload_n 0, 1) := by decide +kernel
theorem dX8_tellSizes_4 : decode cX8_tellSizes 4 = .ok (.getfield 73, 3) := by decide +kernel
theorem dX8_tellSizes_7 : decode cX8_tellSizes 7 = .ok (.invokevirtual 135, 3) := by decide +kernel
theorem dX8_tellSizes_10 : decode cX8_tellSizes 10 = .ok (.istore_n 1, 1) := by decide +kernel
theorem dX8_tellSizes_11 : decode cX8_tellSizes 11 = .ok (.iconst 0, 1) := by decide +kernel
theorem dX8_tellSizes_12 : decode cX8_tellSizes 12 = .ok (.istore_n 2, 1) := by decide +kernel
theorem dX8_tellSizes_13 : decode cX8_tellSizes 13 = .ok (.iload_n 2, 1) := by decide +kernel
theorem dX8_tellSizes_14 : decode cX8_tellSizes 14 = .ok (.sipush 320, 3) := by decide +kernel
theorem dX8_tellSizes_17 : decode cX8_tellSizes 17 = .ok (.if_icmp .ge 42, 3) := by decide +kernel
theorem dX8_tellSizes_20 : decode cX8_tellSizes 20 = .ok (.iload_n 1, 1) := by decide +kernel
theorem dX8_tellSizes_21 : decode cX8_tellSizes 21 = .ok (.ifCond .eq 38, 3) := by decide +kernel
theorem dX8_tellSizes_24 : decode cX8_tellSizes 24 = .ok (.aload_n 0, 1) := by decide +kernel
theorem dX8_tellSizes_25 : decode cX8_tellSizes 25 = .ok (.dup, 1) := by decide +kernel
theorem dX8_tellSizes_26 : decode cX8_tellSizes 26 = .ok (.getfield 73, 3) := by decide +kernel
theorem dX8_tellSizes_29 : decode cX8_tellSizes 29 = .ok (.iconst 1, 1) := by decide +kernel
theorem dX8_tellSizes_30 : decode cX8_tellSizes 30 = .ok (.aload_n 0, 1) := by decide +kernel
theorem dX8_tellSizes_31 : decode cX8_tellSizes 31 = .ok (.getfield 18, 3) := by decide +kernel
theorem dX8_tellSizes_34 : decode cX8_tellSizes 34 = .ok (.getfield 139, 3) := by decide +kernel
theorem dX8_tellSizes_37 : decode cX8_tellSizes 37 = .ok (.ishl, 1) := by decide +kernel
theorem dX8_tellSizes_38 : decode cX8_tellSizes 38 = .ok (.ior, 1) := by decide +kernel
theorem dX8_tellSizes_39 : decode cX8_tellSizes 39 = .ok (.putfield 73, 3) := by decide +kernel
theorem dX8_tellSizes_42 : decode cX8_tellSizes 42 = .ok (.aload_n 0, 1) := by decide +kernel
theorem dX8_tellSizes_43 : decode cX8_tellSizes 43 = .ok (.iconst 1, 1) := by decide +kernel
theorem dX8_tellSizes_44 : decode cX8_tellSizes 44 = .ok (.iconst 3, 1) := by decide +kernel
theorem dX8_tellSizes_45 : decode cX8_tellSizes 45 = .ok (.aload_n 0, 1) := by decide +kernel
theorem dX8_tellSizes_46 : decode cX8_tellSizes 46 = .ok (.getfield 73, 3) := by decide +kernel
theorem dX8_tellSizes_49 : decode cX8_tellSizes 49 = .ok (.invokevirtual 145, 3) := by decide +kernel
theorem dX8_tellSizes_52 : decode cX8_tellSizes 52 = .ok (.istore_n 1, 1) := by decide +kernel
theorem dX8_tellSizes_53 : decode cX8_tellSizes 53 = .ok (.iinc 2 1, 3) := by decide +kernel
theorem dX8_tellSizes_56 : decode cX8_tellSizes 56 = .ok (.goto (-43), 3) := by decide +kernel
theorem dX8_tellSizes_59 : decode cX8_tellSizes 59 = .ok (.aload_n 0, 1) := by decide +kernel
theorem dX8_tellSizes_60 : decode cX8_tellSizes 60 = .ok (.getfield 57, 3) := by decide +kernel
theorem dX8_tellSizes_63 : decode cX8_tellSizes 63 = .ok (.ifCond .ne 7, 3) := by decide +kernel
theorem dX8_tellSizes_66 : decode cX8_tellSizes 66 = .ok (.iconst 1, 1) := by decide +kernel
theorem dX8_tellSizes_67 : decode cX8_tellSizes 67 = .ok (.goto 4, 3) := by decide +kernel
theorem dX8_tellSizes_70 : decode cX8_tellSizes 70 = .ok (.iconst 0, 1) := by decide +kernel
theorem dX8_tellSizes_71 : decode cX8_tellSizes 71 = .ok (.ireturn, 1) := by decide +kernel
theorem dX8_tellCost_0 : decode cX8_tellCost 0 = .ok (.aload_n 0, 1) := by decide +kernel
theorem dX8_tellCost_1 : decode cX8_tellCost 1 = .ok (.iconst 0, 1) := by decide +kernel
theorem dX8_tellCost_2 : decode cX8_tellCost 2 = .ok (.bipush 30, 2) := by decide +kernel
theorem dX8_tellCost_4 : decode cX8_tellCost 4 = .ok (.aload_n 0, 1) := by decide +kernel
theorem dX8_tellCost_5 : decode cX8_tellCost 5 = .ok (.getfield 70, 3) := by decide +kernel
theorem dX8_tellCost_8 : decode cX8_tellCost 8 = .ok (.invokevirtual 135, 3) := by decide +kernel
theorem dX8_tellCost_11 : decode cX8_tellCost 11 = .ok (.ifCond .ne 5, 3) := by decide +kernel
theorem dX8_tellCost_14 : decode cX8_tellCost 14 = .ok (.iconst 0, 1) := by decide +kernel
theorem dX8_tellCost_15 : decode cX8_tellCost 15 = .ok (.ireturn, 1) := by decide +kernel
theorem dX8_tellCost_16 : decode cX8_tellCost 16 = .ok (.aload_n 0, 1) := by decide +kernel
theorem dX8_tellCost_17 : decode cX8_tellCost 17 = .ok (.getfield 18, 3) := by decide +kernel
theorem dX8_tellCost_20 : decode cX8_tellCost 20 = .ok (.getfield 139, 3) := by decide +kernel
theorem dX8_tellCost_23 : decode cX8_tellCost 23 = .ok (.istore_n 1, 1) := by decide +kernel
theorem dX8_tellCost_24 : decode cX8_tellCost 24 = .ok (.aload_n 0, 1) := by decide +kernel
theorem dX8_tellCost_25 : decode cX8_tellCost 25 = .ok (.dup, 1) := by decide +kernel
theorem dX8_tellCost_26 : decode cX8_tellCost 26 = .ok (.getfield 70, 3) := by decide +kernel
theorem dX8_tellCost_29 : decode cX8_tellCost 29 = .ok (.iconst 1, 1) := by decide +kernel
theorem dX8_tellCost_30 : decode cX8_tellCost 30 = .ok (.iload_n 1, 1) := by decide +kernel
theorem dX8_tellCost_31 : decode cX8_tellCost 31 = .ok (.ishl, 1) := by decide +kernel
theorem dX8_tellCost_32 : decode cX8_tellCost 32 = .ok (.ior, 1) := by decide +kernel
theorem dX8_tellCost_33 : decode cX8_tellCost 33 = .ok (.putfield 70, 3) := by decide +kernel
theorem dX8_tellCost_36 : decode cX8_tellCost 36 = .ok (.aload_n 0, 1) := by decide +kernel
theorem dX8_tellCost_37 : decode cX8_tellCost 37 = .ok (.iconst 1, 1) := by decide +kernel
theorem dX8_tellCost_38 : decode cX8_tellCost 38 = .ok (.bipush 9, 2) := by decide +kernel
theorem dX8_tellCost_40 : decode cX8_tellCost 40 = .ok (.iconst 0, 1) := by decide +kernel
theorem dX8_tellCost_41 : decode cX8_tellCost 41 = .ok (.invokevirtual 135, 3) := by decide +kernel
theorem dX8_tellCost_44 : decode cX8_tellCost 44 = .ok (.ifCond .ne 5, 3) := by decide +kernel
theorem dX8_tellCost_47 : decode cX8_tellCost 47 = .ok (.iconst 0, 1) := by decide +kernel
theorem dX8_tellCost_48 : decode cX8_tellCost 48 = .ok (.ireturn, 1) := by decide +kernel
theorem dX8_tellCost_49 : decode cX8_tellCost 49 = .ok (.aload_n 0, 1) := by decide +kernel
theorem dX8_tellCost_50 : decode cX8_tellCost 50 = .ok (.getfield 12, 3) := by decide +kernel
theorem dX8_tellCost_53 : decode cX8_tellCost 53 = .ok (.getfield 148, 3) := by decide +kernel
theorem dX8_tellCost_56 : decode cX8_tellCost 56 = .ok (.iload_n 1, 1) := by decide +kernel
theorem dX8_tellCost_57 : decode cX8_tellCost 57 = .ok (.aload_n 0, 1) := by decide +kernel
theorem dX8_tellCost_58 : decode cX8_tellCost 58 = .ok (.getfield 18, 3) := by decide +kernel
theorem dX8_tellCost_61 : decode cX8_tellCost 61 = .ok (.getfield 139, 3) := by decide +kernel
theorem dX8_tellCost_64 : decode cX8_tellCost 64 = .ok (.iastore, 1) := by decide +kernel
theorem dX8_tellCost_65 : decode cX8_tellCost 65 = .ok (.aload_n 0, 1) := by decide +kernel
theorem dX8_tellCost_66 : decode cX8_tellCost 66 = .ok (.invokevirtual 142, 3) := by decide +kernel
theorem dX8_tellCost_69 : decode cX8_tellCost 69 = .ok (.ireturn, 1) := by decide +kernel
theorem dX8_tellSeen_0 : decode cX8_tellSeen 0 = .ok (.aload_n 0, 1) := by decide +kernel
theorem dX8_tellSeen_1 : decode cX8_tellSeen 1 = .ok (.iconst 1, 1) := by decide +kernel
theorem dX8_tellSeen_2 : decode cX8_tellSeen 2 = .ok (.iconst 3, 1) := by decide +kernel
theorem dX8_tellSeen_3 : decode cX8_tellSeen 3 = .ok (.aload_n 0, 1) := by decide +kernel
theorem dX8_tellSeen_4 : decode cX8_tellSeen 4 = .ok (.getfield 76, 3) := by decide +kernel
theorem dX8_tellSeen_7 : decode cX8_tellSeen 7 = .ok (.invokevirtual 135, 3) := by decide +kernel
theorem dX8_tellSeen_10 : decode cX8_tellSeen 10 = .ok (.ifCond .ne 5, 3) := by decide +kernel
theorem dX8_tellSeen_13 : decode cX8_tellSeen 13 = .ok (.iconst 0, 1) := by decide +kernel
theorem dX8_tellSeen_14 : decode cX8_tellSeen 14 = .ok (.ireturn, 1) := by decide +kernel
theorem dX8_tellSeen_15 : decode cX8_tellSeen 15 = .ok (.aload_n 0, 1) := by decide +kernel
theorem dX8_tellSeen_16 : decode cX8_tellSeen 16 = .ok (.getfield 18, 3) := by decide +kernel
theorem dX8_tellSeen_19 : decode cX8_tellSeen 19 = .ok (.getfield 139, 3) := by decide +kernel
theorem dX8_tellSeen_22 : decode cX8_tellSeen 22 = .ok (.istore_n 1, 1) := by decide +kernel
theorem dX8_tellSeen_23 : decode cX8_tellSeen 23 = .ok (.aload_n 0, 1) := by decide +kernel
theorem dX8_tellSeen_24 : decode cX8_tellSeen 24 = .ok (.dup, 1) := by decide +kernel
theorem dX8_tellSeen_25 : decode cX8_tellSeen 25 = .ok (.getfield 76, 3) := by decide +kernel
theorem dX8_tellSeen_28 : decode cX8_tellSeen 28 = .ok (.iconst 1, 1) := by decide +kernel
theorem dX8_tellSeen_29 : decode cX8_tellSeen 29 = .ok (.iload_n 1, 1) := by decide +kernel
theorem dX8_tellSeen_30 : decode cX8_tellSeen 30 = .ok (.ishl, 1) := by decide +kernel
theorem dX8_tellSeen_31 : decode cX8_tellSeen 31 = .ok (.ior, 1) := by decide +kernel
theorem dX8_tellSeen_32 : decode cX8_tellSeen 32 = .ok (.putfield 76, 3) := by decide +kernel
theorem dX8_tellSeen_35 : decode cX8_tellSeen 35 = .ok (.aload_n 0, 1) := by decide +kernel
theorem dX8_tellSeen_36 : decode cX8_tellSeen 36 = .ok (.iconst 0, 1) := by decide +kernel
theorem dX8_tellSeen_37 : decode cX8_tellSeen 37 = .ok (.bipush 12, 2) := by decide +kernel
theorem dX8_tellSeen_39 : decode cX8_tellSeen 39 = .ok (.iconst 0, 1) := by decide +kernel
theorem dX8_tellSeen_40 : decode cX8_tellSeen 40 = .ok (.invokevirtual 135, 3) := by decide +kernel
theorem dX8_tellSeen_43 : decode cX8_tellSeen 43 = .ok (.ifCond .ne 5, 3) := by decide +kernel
theorem dX8_tellSeen_46 : decode cX8_tellSeen 46 = .ok (.iconst 0, 1) := by decide +kernel
theorem dX8_tellSeen_47 : decode cX8_tellSeen 47 = .ok (.ireturn, 1) := by decide +kernel
theorem dX8_tellSeen_48 : decode cX8_tellSeen 48 = .ok (.aload_n 0, 1) := by decide +kernel
theorem dX8_tellSeen_49 : decode cX8_tellSeen 49 = .ok (.getfield 12, 3) := by decide +kernel
theorem dX8_tellSeen_52 : decode cX8_tellSeen 52 = .ok (.getfield 152, 3) := by decide +kernel
theorem dX8_tellSeen_55 : decode cX8_tellSeen 55 = .ok (.iload_n 1, 1) := by decide +kernel
theorem dX8_tellSeen_56 : decode cX8_tellSeen 56 = .ok (.aload_n 0, 1) := by decide +kernel
theorem dX8_tellSeen_57 : decode cX8_tellSeen 57 = .ok (.getfield 18, 3) := by decide +kernel
theorem dX8_tellSeen_60 : decode cX8_tellSeen 60 = .ok (.getfield 139, 3) := by decide +kernel
theorem dX8_tellSeen_63 : decode cX8_tellSeen 63 = .ok (.iastore, 1) := by decide +kernel
theorem dX8_tellSeen_64 : decode cX8_tellSeen 64 = .ok (.aload_n 0, 1) := by decide +kernel
theorem dX8_tellSeen_65 : decode cX8_tellSeen 65 = .ok (.invokevirtual 142, 3) := by decide +kernel
theorem dX8_tellSeen_68 : decode cX8_tellSeen 68 = .ok (.ireturn, 1) := by decide +kernel
theorem dX8_nextNumber_0 : decode cX8_nextNumber 0 = .ok (.aload_n 0, 1) := by decide +kernel
theorem dX8_nextNumber_1 : decode cX8_nextNumber 1 = .ok (.getfield 18, 3) := by decide +kernel
theorem dX8_nextNumber_4 : decode cX8_nextNumber 4 = .ok (.invokevirtual 27, 3) := by decide +kernel
theorem dX8_nextNumber_7 : decode cX8_nextNumber 7 = .ok (.aload_n 0, 1) := by decide +kernel
theorem dX8_nextNumber_8 : decode cX8_nextNumber 8 = .ok (.iload_n 1, 1) := by decide +kernel
theorem dX8_nextNumber_9 : decode cX8_nextNumber 9 = .ok (.iload_n 2, 1) := by decide +kernel
theorem dX8_nextNumber_10 : decode cX8_nextNumber 10 = .ok (.iload_n 3, 1) := by decide +kernel
theorem dX8_nextNumber_11 : decode cX8_nextNumber 11 = .ok (.invokevirtual 154, 3) := by decide +kernel
theorem dX8_nextNumber_14 : decode cX8_nextNumber 14 = .ok (.ireturn, 1) := by decide +kernel
theorem dX8_moreNumbers_0 : decode cX8_moreNumbers 0 = .ok (.aload_n 0, 1) := by decide +kernel
theorem dX8_moreNumbers_1 : decode cX8_moreNumbers 1 = .ok (.getfield 18, 3) := by decide +kernel
theorem dX8_moreNumbers_4 : decode cX8_moreNumbers 4 = .ok (.invokevirtual 27, 3) := by decide +kernel
theorem dX8_moreNumbers_7 : decode cX8_moreNumbers 7 = .ok (.aload_n 0, 1) := by decide +kernel
theorem dX8_moreNumbers_8 : decode cX8_moreNumbers 8 = .ok (.getfield 18, 3) := by decide +kernel
theorem dX8_moreNumbers_11 : decode cX8_moreNumbers 11 = .ok (.getfield 30, 3) := by decide +kernel
theorem dX8_moreNumbers_14 : decode cX8_moreNumbers 14 = .ok (.iconst 3, 1) := by decide +kernel
theorem dX8_moreNumbers_15 : decode cX8_moreNumbers 15 = .ok (.if_icmp .eq 17, 3) := by decide +kernel
theorem dX8_moreNumbers_18 : decode cX8_moreNumbers 18 = .ok (.aload_n 0, 1) := by decide +kernel
theorem dX8_moreNumbers_19 : decode cX8_moreNumbers 19 = .ok (.iload_n 1, 1) := by decide +kernel
theorem dX8_moreNumbers_20 : decode cX8_moreNumbers 20 = .ok (.iload_n 2, 1) := by decide +kernel
theorem dX8_moreNumbers_21 : decode cX8_moreNumbers 21 = .ok (.iload_n 3, 1) := by decide +kernel
theorem dX8_moreNumbers_22 : decode cX8_moreNumbers 22 = .ok (.invokevirtual 154, 3) := by decide +kernel
theorem dX8_moreNumbers_25 : decode cX8_moreNumbers 25 = .ok (.ifCond .eq 7, 3) := by decide +kernel
theorem dX8_moreNumbers_28 : decode cX8_moreNumbers 28 = .ok (.iconst 1, 1) := by decide +kernel
theorem dX8_moreNumbers_29 : decode cX8_moreNumbers 29 = .ok (.goto 4, 3) := by decide +kernel
theorem dX8_moreNumbers_32 : decode cX8_moreNumbers 32 = .ok (.iconst 0, 1) := by decide +kernel
theorem dX8_moreNumbers_33 : decode cX8_moreNumbers 33 = .ok (.ireturn, 1) := by decide +kernel
theorem dX8_isNumber_0 : decode cX8_isNumber 0 = .ok (.aload_n 0, 1) := by decide +kernel
theorem dX8_isNumber_1 : decode cX8_isNumber 1 = .ok (.getfield 18, 3) := by decide +kernel
theorem dX8_isNumber_4 : decode cX8_isNumber 4 = .ok (.getfield 30, 3) := by decide +kernel
theorem dX8_isNumber_7 : decode cX8_isNumber 7 = .ok (.iconst 2, 1) := by decide +kernel
theorem dX8_isNumber_8 : decode cX8_isNumber 8 = .ok (.if_icmp .eq 12, 3) := by decide +kernel
theorem dX8_isNumber_11 : decode cX8_isNumber 11 = .ok (.aload_n 0, 1) := by decide +kernel
theorem dX8_isNumber_12 : decode cX8_isNumber 12 = .ok (.aload_n 0, 1) := by decide +kernel
theorem dX8_isNumber_13 : decode cX8_isNumber 13 = .ok (.invokevirtual 131, 3) := by decide +kernel
theorem dX8_isNumber_16 : decode cX8_isNumber 16 = .ok (.invokevirtual 89, 3) := by decide +kernel
theorem dX8_isNumber_19 : decode cX8_isNumber 19 = .ok (.ireturn, 1) := by decide +kernel
theorem dX8_isNumber_20 : decode cX8_isNumber 20 = .ok (.aload_n 0, 1) := by decide +kernel
theorem dX8_isNumber_21 : decode cX8_isNumber 21 = .ok (.getfield 18, 3) := by decide +kernel
theorem dX8_isNumber_24 : decode cX8_isNumber 24 = .ok (.getfield 139, 3) := by decide +kernel
theorem dX8_isNumber_27 : decode cX8_isNumber 27 = .ok (.iload_n 1, 1) := by decide +kernel
theorem dX8_isNumber_28 : decode cX8_isNumber 28 = .ok (.if_icmp .lt 14, 3) := by decide +kernel
theorem dX8_isNumber_31 : decode cX8_isNumber 31 = .ok (.aload_n 0, 1) := by decide +kernel
theorem dX8_isNumber_32 : decode cX8_isNumber 32 = .ok (.getfield 18, 3) := by decide +kernel
theorem dX8_isNumber_35 : decode cX8_isNumber 35 = .ok (.getfield 139, 3) := by decide +kernel
theorem dX8_isNumber_38 : decode cX8_isNumber 38 = .ok (.iload_n 2, 1) := by decide +kernel
theorem dX8_isNumber_39 : decode cX8_isNumber 39 = .ok (.if_icmp .le 9, 3) := by decide +kernel
theorem dX8_isNumber_42 : decode cX8_isNumber 42 = .ok (.aload_n 0, 1) := by decide +kernel
theorem dX8_isNumber_43 : decode cX8_isNumber 43 = .ok (.iconst 3, 1) := by decide +kernel
theorem dX8_isNumber_44 : decode cX8_isNumber 44 = .ok (.invokevirtual 89, 3) := by decide +kernel
theorem dX8_isNumber_47 : decode cX8_isNumber 47 = .ok (.ireturn, 1) := by decide +kernel
theorem dX8_isNumber_48 : decode cX8_isNumber 48 = .ok (.iload_n 3, 1) := by decide +kernel
theorem dX8_isNumber_49 : decode cX8_isNumber 49 = .ok (.aload_n 0, 1) := by decide +kernel
theorem dX8_isNumber_50 : decode cX8_isNumber 50 = .ok (.getfield 18, 3) := by decide +kernel
theorem dX8_isNumber_53 : decode cX8_isNumber 53 = .ok (.getfield 139, 3) := by decide +kernel
theorem dX8_isNumber_56 : decode cX8_isNumber 56 = .ok (.ishr, 1) := by decide +kernel
theorem dX8_isNumber_57 : decode cX8_isNumber 57 = .ok (.iconst 1, 1) := by decide +kernel
theorem dX8_isNumber_58 : decode cX8_isNumber 58 = .ok (.iand, 1) := by decide +kernel
theorem dX8_isNumber_59 : decode cX8_isNumber 59 = .ok (.ifCond .eq 11, 3) := by decide +kernel
theorem dX8_isNumber_62 : decode cX8_isNumber 62 = .ok (.aload_n 0, 1) := by decide +kernel
theorem dX8_isNumber_63 : decode cX8_isNumber 63 = .ok (.iconst 4, 1) := by decide +kernel
theorem dX8_isNumber_64 : decode cX8_isNumber 64 = .ok (.invokevirtual 89, 3) := by decide +kernel
theorem dX8_isNumber_67 : decode cX8_isNumber 67 = .ok (.ifCond .eq 7, 3) := by decide +kernel
theorem dX8_isNumber_70 : decode cX8_isNumber 70 = .ok (.iconst 1, 1) := by decide +kernel
theorem dX8_isNumber_71 : decode cX8_isNumber 71 = .ok (.goto 4, 3) := by decide +kernel
theorem dX8_isNumber_74 : decode cX8_isNumber 74 = .ok (.iconst 0, 1) := by decide +kernel
theorem dX8_isNumber_75 : decode cX8_isNumber 75 = .ok (.ireturn, 1) := by decide +kernel
theorem dX8_nextStop_0 : decode cX8_nextStop 0 = .ok (.aload_n 0, 1) := by decide +kernel
theorem dX8_nextStop_1 : decode cX8_nextStop 1 = .ok (.getfield 18, 3) := by decide +kernel
theorem dX8_nextStop_4 : decode cX8_nextStop 4 = .ok (.invokevirtual 27, 3) := by decide +kernel
theorem dX8_nextStop_7 : decode cX8_nextStop 7 = .ok (.aload_n 0, 1) := by decide +kernel
theorem dX8_nextStop_8 : decode cX8_nextStop 8 = .ok (.getfield 18, 3) := by decide +kernel
theorem dX8_nextStop_11 : decode cX8_nextStop 11 = .ok (.getfield 30, 3) := by decide +kernel
theorem dX8_nextStop_14 : decode cX8_nextStop 14 = .ok (.iconst 3, 1) := by decide +kernel
theorem dX8_nextStop_15 : decode cX8_nextStop 15 = .ok (.if_icmp .eq 14, 3) := by decide +kernel
theorem dX8_nextStop_18 : decode cX8_nextStop 18 = .ok (.aload_n 0, 1) := by decide +kernel
theorem dX8_nextStop_19 : decode cX8_nextStop 19 = .ok (.aload_n 0, 1) := by decide +kernel
theorem dX8_nextStop_20 : decode cX8_nextStop 20 = .ok (.invokevirtual 131, 3) := by decide +kernel
theorem dX8_nextStop_23 : decode cX8_nextStop 23 = .ok (.invokevirtual 89, 3) := by decide +kernel
theorem dX8_nextStop_26 : decode cX8_nextStop 26 = .ok (.ifCond .eq 7, 3) := by decide +kernel
theorem dX8_nextStop_29 : decode cX8_nextStop 29 = .ok (.iconst 1, 1) := by decide +kernel
theorem dX8_nextStop_30 : decode cX8_nextStop 30 = .ok (.goto 4, 3) := by decide +kernel
theorem dX8_nextStop_33 : decode cX8_nextStop 33 = .ok (.iconst 0, 1) := by decide +kernel
theorem dX8_nextStop_34 : decode cX8_nextStop 34 = .ok (.ireturn, 1) := by decide +kernel
