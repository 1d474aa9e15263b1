theorem dX0_init_0 : decode cX0_init 0 = .ok (.aload_n 0, 1) := by decide +kernel
theorem dX0_init_1 : decode cX0_init 1 = .ok (.invokespecial 1, 3) := by decide +kernel
theorem dX0_init_4 : decode cX0_init 4 = .ok (.aload_n 0, 1) := by decide +kernel
theorem dX0_init_5 : decode cX0_init 5 = .ok (.bipush 16, 2) := by decide +kernel
theorem dX0_init_7 : decode cX0_init 7 = .ok (.newarray .int, 2) := by decide +kernel
theorem dX0_init_9 : decode cX0_init 9 = .ok (.putfield 9, 3) := by decide +kernel
theorem dX0_init_12 : decode cX0_init 12 = .ok (.aload_n 0, 1) := by decide +kernel
theorem dX0_init_13 : decode cX0_init 13 = .ok (.bipush 16, 2) := by decide +kernel
theorem dX0_init_15 : decode cX0_init 15 = .ok (.newarray .int, 2) := by decide +kernel
theorem dX0_init_17 : decode cX0_init 17 = .ok (.putfield 13, 3) := by decide +kernel
theorem dX0_init_20 : decode cX0_init 20 = .ok (.aload_n 0, 1) := by decide +kernel
theorem dX0_init_21 : decode cX0_init 21 = .ok (.bipush 96, 2) := by decide +kernel
theorem dX0_init_23 : decode cX0_init 23 = .ok (.newarray .int, 2) := by decide +kernel
theorem dX0_init_25 : decode cX0_init 25 = .ok (.putfield 16, 3) := by decide +kernel
theorem dX0_init_28 : decode cX0_init 28 = .ok (.aload_n 0, 1) := by decide +kernel
theorem dX0_init_29 : decode cX0_init 29 = .ok (.bipush 96, 2) := by decide +kernel
theorem dX0_init_31 : decode cX0_init 31 = .ok (.newarray .int, 2) := by decide +kernel
theorem dX0_init_33 : decode cX0_init 33 = .ok (.putfield 19, 3) := by decide +kernel
theorem dX0_init_36 : decode cX0_init 36 = .ok (.aload_n 0, 1) := by decide +kernel
theorem dX0_init_37 : decode cX0_init 37 = .ok (.bipush 96, 2) := by decide +kernel
theorem dX0_init_39 : decode cX0_init 39 = .ok (.newarray .int, 2) := by decide +kernel
theorem dX0_init_41 : decode cX0_init 41 = .ok (.putfield 22, 3) := by decide +kernel
theorem dX0_init_44 : decode cX0_init 44 = .ok (.return_, 1) := by decide +kernel
theorem dX0_has_0 : decode cX0_has 0 = .ok (.iload_n 1, 1) := by decide +kernel
theorem dX0_has_1 : decode cX0_has 1 = .ok (.ifCond .lt 15, 3) := by decide +kernel
theorem dX0_has_4 : decode cX0_has 4 = .ok (.iload_n 1, 1) := by decide +kernel
theorem dX0_has_5 : decode cX0_has 5 = .ok (.aload_n 0, 1) := by decide +kernel
theorem dX0_has_6 : decode cX0_has 6 = .ok (.getfield 25, 3) := by decide +kernel
theorem dX0_has_9 : decode cX0_has 9 = .ok (.if_icmp .ge 7, 3) := by decide +kernel
theorem dX0_has_12 : decode cX0_has 12 = .ok (.iconst 1, 1) := by decide +kernel
theorem dX0_has_13 : decode cX0_has 13 = .ok (.goto 4, 3) := by decide +kernel
theorem dX0_has_16 : decode cX0_has 16 = .ok (.iconst 0, 1) := by decide +kernel
theorem dX0_has_17 : decode cX0_has 17 = .ok (.ireturn, 1) := by decide +kernel
theorem dX0_addPair_0 : decode cX0_addPair 0 = .ok (.aload_n 0, 1) := by decide +kernel
theorem dX0_addPair_1 : decode cX0_addPair 1 = .ok (.getfield 9, 3) := by decide +kernel
theorem dX0_addPair_4 : decode cX0_addPair 4 = .ok (.aload_n 0, 1) := by decide +kernel
theorem dX0_addPair_5 : decode cX0_addPair 5 = .ok (.getfield 25, 3) := by decide +kernel
theorem dX0_addPair_8 : decode cX0_addPair 8 = .ok (.iload_n 1, 1) := by decide +kernel
theorem dX0_addPair_9 : decode cX0_addPair 9 = .ok (.iastore, 1) := by decide +kernel
theorem dX0_addPair_10 : decode cX0_addPair 10 = .ok (.aload_n 0, 1) := by decide +kernel
theorem dX0_addPair_11 : decode cX0_addPair 11 = .ok (.getfield 9, 3) := by decide +kernel
theorem dX0_addPair_14 : decode cX0_addPair 14 = .ok (.aload_n 0, 1) := by decide +kernel
theorem dX0_addPair_15 : decode cX0_addPair 15 = .ok (.getfield 25, 3) := by decide +kernel
theorem dX0_addPair_18 : decode cX0_addPair 18 = .ok (.iconst 1, 1) := by decide +kernel
theorem dX0_addPair_19 : decode cX0_addPair 19 = .ok (.iadd, 1) := by decide +kernel
theorem dX0_addPair_20 : decode cX0_addPair 20 = .ok (.iload_n 2, 1) := by decide +kernel
theorem dX0_addPair_21 : decode cX0_addPair 21 = .ok (.iastore, 1) := by decide +kernel
theorem dX0_addPair_22 : decode cX0_addPair 22 = .ok (.aload_n 0, 1) := by decide +kernel
theorem dX0_addPair_23 : decode cX0_addPair 23 = .ok (.dup, 1) := by decide +kernel
theorem dX0_addPair_24 : decode cX0_addPair 24 = .ok (.getfield 25, 3) := by decide +kernel
theorem dX0_addPair_27 : decode cX0_addPair 27 = .ok (.iconst 2, 1) := by decide +kernel
theorem dX0_addPair_28 : decode cX0_addPair 28 = .ok (.iadd, 1) := by decide +kernel
theorem dX0_addPair_29 : decode cX0_addPair 29 = .ok (.putfield 25, 3) := by decide +kernel
theorem dX0_addPair_32 : decode cX0_addPair 32 = .ok (.aload_n 0, 1) := by decide +kernel
theorem dX0_addPair_33 : decode cX0_addPair 33 = .ok (.getfield 25, 3) := by decide +kernel
theorem dX0_addPair_36 : decode cX0_addPair 36 = .ok (.iconst 2, 1) := by decide +kernel
theorem dX0_addPair_37 : decode cX0_addPair 37 = .ok (.isub, 1) := by decide +kernel
theorem dX0_addPair_38 : decode cX0_addPair 38 = .ok (.ireturn, 1) := by decide +kernel
theorem dX0_peer_0 : decode cX0_peer 0 = .ok (.iload_n 1, 1) := by decide +kernel
theorem dX0_peer_1 : decode cX0_peer 1 = .ok (.iconst 1, 1) := by decide +kernel
theorem dX0_peer_2 : decode cX0_peer 2 = .ok (.ixor, 1) := by decide +kernel
theorem dX0_peer_3 : decode cX0_peer 3 = .ok (.ireturn, 1) := by decide +kernel
theorem dX0_addHandler_0 : decode cX0_addHandler 0 = .ok (.iload_n 1, 1) := by decide +kernel
theorem dX0_addHandler_1 : decode cX0_addHandler 1 = .ok (.bipush 6, 2) := by decide +kernel
theorem dX0_addHandler_3 : decode cX0_addHandler 3 = .ok (.imul, 1) := by decide +kernel
theorem dX0_addHandler_4 : decode cX0_addHandler 4 = .ok (.aload_n 0, 1) := by decide +kernel
theorem dX0_addHandler_5 : decode cX0_addHandler 5 = .ok (.getfield 13, 3) := by decide +kernel
theorem dX0_addHandler_8 : decode cX0_addHandler 8 = .ok (.iload_n 1, 1) := by decide +kernel
theorem dX0_addHandler_9 : decode cX0_addHandler 9 = .ok (.iaload, 1) := by decide +kernel
theorem dX0_addHandler_10 : decode cX0_addHandler 10 = .ok (.iadd, 1) := by decide +kernel
theorem dX0_addHandler_11 : decode cX0_addHandler 11 = .ok (.istore 4, 2) := by decide +kernel
theorem dX0_addHandler_13 : decode cX0_addHandler 13 = .ok (.aload_n 0, 1) := by decide +kernel
theorem dX0_addHandler_14 : decode cX0_addHandler 14 = .ok (.getfield 16, 3) := by decide +kernel
theorem dX0_addHandler_17 : decode cX0_addHandler 17 = .ok (.iload 4, 2) := by decide +kernel
theorem dX0_addHandler_19 : decode cX0_addHandler 19 = .ok (.iload_n 2, 1) := by decide +kernel
theorem dX0_addHandler_20 : decode cX0_addHandler 20 = .ok (.iastore, 1) := by decide +kernel
theorem dX0_addHandler_21 : decode cX0_addHandler 21 = .ok (.aload_n 0, 1) := by decide +kernel
theorem dX0_addHandler_22 : decode cX0_addHandler 22 = .ok (.getfield 19, 3) := by decide +kernel
theorem dX0_addHandler_25 : decode cX0_addHandler 25 = .ok (.iload 4, 2) := by decide +kernel
theorem dX0_addHandler_27 : decode cX0_addHandler 27 = .ok (.iload_n 3, 1) := by decide +kernel
theorem dX0_addHandler_28 : decode cX0_addHandler 28 = .ok (.iastore, 1) := by decide +kernel
theorem dX0_addHandler_29 : decode cX0_addHandler 29 = .ok (.aload_n 0, 1) := by decide +kernel
theorem dX0_addHandler_30 : decode cX0_addHandler 30 = .ok (.getfield 22, 3) := by decide +kernel
theorem dX0_addHandler_33 : decode cX0_addHandler 33 = .ok (.iload 4, 2) := by decide +kernel
theorem dX0_addHandler_35 : decode cX0_addHandler 35 = .ok (.aload_n 0, 1) := by decide +kernel
theorem dX0_addHandler_36 : decode cX0_addHandler 36 = .ok (.getfield 29, 3) := by decide +kernel
theorem dX0_addHandler_39 : decode cX0_addHandler 39 = .ok (.iastore, 1) := by decide +kernel
theorem dX0_addHandler_40 : decode cX0_addHandler 40 = .ok (.aload_n 0, 1) := by decide +kernel
theorem dX0_addHandler_41 : decode cX0_addHandler 41 = .ok (.getfield 13, 3) := by decide +kernel
theorem dX0_addHandler_44 : decode cX0_addHandler 44 = .ok (.iload_n 1, 1) := by decide +kernel
theorem dX0_addHandler_45 : decode cX0_addHandler 45 = .ok (.dup2, 1) := by decide +kernel
theorem dX0_addHandler_46 : decode cX0_addHandler 46 = .ok (.iaload, 1) := by decide +kernel
theorem dX0_addHandler_47 : decode cX0_addHandler 47 = .ok (.iconst 1, 1) := by decide +kernel
theorem dX0_addHandler_48 : decode cX0_addHandler 48 = .ok (.iadd, 1) := by decide +kernel
theorem dX0_addHandler_49 : decode cX0_addHandler 49 = .ok (.iastore, 1) := by decide +kernel
theorem dX0_addHandler_50 : decode cX0_addHandler 50 = .ok (.aload_n 0, 1) := by decide +kernel
theorem dX0_addHandler_51 : decode cX0_addHandler 51 = .ok (.dup, 1) := by decide +kernel
theorem dX0_addHandler_52 : decode cX0_addHandler 52 = .ok (.getfield 29, 3) := by decide +kernel
theorem dX0_addHandler_55 : decode cX0_addHandler 55 = .ok (.iconst 1, 1) := by decide +kernel
theorem dX0_addHandler_56 : decode cX0_addHandler 56 = .ok (.iadd, 1) := by decide +kernel
theorem dX0_addHandler_57 : decode cX0_addHandler 57 = .ok (.putfield 29, 3) := by decide +kernel
theorem dX0_addHandler_60 : decode cX0_addHandler 60 = .ok (.aload_n 0, 1) := by decide +kernel
theorem dX0_addHandler_61 : decode cX0_addHandler 61 = .ok (.getfield 22, 3) := by decide +kernel
theorem dX0_addHandler_64 : decode cX0_addHandler 64 = .ok (.iload 4, 2) := by decide +kernel
theorem dX0_addHandler_66 : decode cX0_addHandler 66 = .ok (.iaload, 1) := by decide +kernel
theorem dX0_addHandler_67 : decode cX0_addHandler 67 = .ok (.ireturn, 1) := by decide +kernel
theorem dX0_removeHandler_0 : decode cX0_removeHandler 0 = .ok (.iload_n 1, 1) := by decide +kernel
theorem dX0_removeHandler_1 : decode cX0_removeHandler 1 = .ok (.bipush 6, 2) := by decide +kernel
theorem dX0_removeHandler_3 : decode cX0_removeHandler 3 = .ok (.imul, 1) := by decide +kernel
theorem dX0_removeHandler_4 : decode cX0_removeHandler 4 = .ok (.iload_n 2, 1) := by decide +kernel
theorem dX0_removeHandler_5 : decode cX0_removeHandler 5 = .ok (.iadd, 1) := by decide +kernel
theorem dX0_removeHandler_6 : decode cX0_removeHandler 6 = .ok (.istore_n 3, 1) := by decide +kernel
theorem dX0_removeHandler_7 : decode cX0_removeHandler 7 = .ok (.aload_n 0, 1) := by decide +kernel
theorem dX0_removeHandler_8 : decode cX0_removeHandler 8 = .ok (.getfield 22, 3) := by decide +kernel
theorem dX0_removeHandler_11 : decode cX0_removeHandler 11 = .ok (.iload_n 3, 1) := by decide +kernel
theorem dX0_removeHandler_12 : decode cX0_removeHandler 12 = .ok (.iaload, 1) := by decide +kernel
theorem dX0_removeHandler_13 : decode cX0_removeHandler 13 = .ok (.istore 4, 2) := by decide +kernel
theorem dX0_removeHandler_15 : decode cX0_removeHandler 15 = .ok (.aload_n 0, 1) := by decide +kernel
theorem dX0_removeHandler_16 : decode cX0_removeHandler 16 = .ok (.getfield 13, 3) := by decide +kernel
theorem dX0_removeHandler_19 : decode cX0_removeHandler 19 = .ok (.iload_n 1, 1) := by decide +kernel
theorem dX0_removeHandler_20 : decode cX0_removeHandler 20 = .ok (.iaload, 1) := by decide +kernel
theorem dX0_removeHandler_21 : decode cX0_removeHandler 21 = .ok (.iload_n 2, 1) := by decide +kernel
theorem dX0_removeHandler_22 : decode cX0_removeHandler 22 = .ok (.isub, 1) := by decide +kernel
theorem dX0_removeHandler_23 : decode cX0_removeHandler 23 = .ok (.iconst 1, 1) := by decide +kernel
theorem dX0_removeHandler_24 : decode cX0_removeHandler 24 = .ok (.isub, 1) := by decide +kernel
theorem dX0_removeHandler_25 : decode cX0_removeHandler 25 = .ok (.istore 5, 2) := by decide +kernel
theorem dX0_removeHandler_27 : decode cX0_removeHandler 27 = .ok (.aload_n 0, 1) := by decide +kernel
theorem dX0_removeHandler_28 : decode cX0_removeHandler 28 = .ok (.getfield 16, 3) := by decide +kernel
theorem dX0_removeHandler_31 : decode cX0_removeHandler 31 = .ok (.iload_n 3, 1) := by decide +kernel
theorem dX0_removeHandler_32 : decode cX0_removeHandler 32 = .ok (.iconst 1, 1) := by decide +kernel
theorem dX0_removeHandler_33 : decode cX0_removeHandler 33 = .ok (.iadd, 1) := by decide +kernel
theorem dX0_removeHandler_34 : decode cX0_removeHandler 34 = .ok (.aload_n 0, 1) := by decide +kernel
theorem dX0_removeHandler_35 : decode cX0_removeHandler 35 = .ok (.getfield 16, 3) := by decide +kernel
theorem dX0_removeHandler_38 : decode cX0_removeHandler 38 = .ok (.iload_n 3, 1) := by decide +kernel
theorem dX0_removeHandler_39 : decode cX0_removeHandler 39 = .ok (.iload 5, 2) := by decide +kernel
theorem dX0_removeHandler_41 : decode cX0_removeHandler 41 = .ok (.invokestatic 32, 3) := by decide +kernel
theorem dX0_removeHandler_44 : decode cX0_removeHandler 44 = .ok (.aload_n 0, 1) := by decide +kernel
theorem dX0_removeHandler_45 : decode cX0_removeHandler 45 = .ok (.getfield 19, 3) := by decide +kernel
theorem dX0_removeHandler_48 : decode cX0_removeHandler 48 = .ok (.iload_n 3, 1) := by decide +kernel
theorem dX0_removeHandler_49 : decode cX0_removeHandler 49 = .ok (.iconst 1, 1) := by decide +kernel
theorem dX0_removeHandler_50 : decode cX0_removeHandler 50 = .ok (.iadd, 1) := by decide +kernel
theorem dX0_removeHandler_51 : decode cX0_removeHandler 51 = .ok (.aload_n 0, 1) := by decide +kernel
theorem dX0_removeHandler_52 : decode cX0_removeHandler 52 = .ok (.getfield 19, 3) := by decide +kernel
theorem dX0_removeHandler_55 : decode cX0_removeHandler 55 = .ok (.iload_n 3, 1) := by decide +kernel
theorem dX0_removeHandler_56 : decode cX0_removeHandler 56 = .ok (.iload 5, 2) := by decide +kernel
theorem dX0_removeHandler_58 : decode cX0_removeHandler 58 = .ok (.invokestatic 32, 3) := by decide +kernel
theorem dX0_removeHandler_61 : decode cX0_removeHandler 61 = .ok (.aload_n 0, 1) := by decide +kernel
theorem dX0_removeHandler_62 : decode cX0_removeHandler 62 = .ok (.getfield 22, 3) := by decide +kernel
theorem dX0_removeHandler_65 : decode cX0_removeHandler 65 = .ok (.iload_n 3, 1) := by decide +kernel
theorem dX0_removeHandler_66 : decode cX0_removeHandler 66 = .ok (.iconst 1, 1) := by decide +kernel
theorem dX0_removeHandler_67 : decode cX0_removeHandler 67 = .ok (.iadd, 1) := by decide +kernel
theorem dX0_removeHandler_68 : decode cX0_removeHandler 68 = .ok (.aload_n 0, 1) := by decide +kernel
theorem dX0_removeHandler_69 : decode cX0_removeHandler 69 = .ok (.getfield 22, 3) := by decide +kernel
theorem dX0_removeHandler_72 : decode cX0_removeHandler 72 = .ok (.iload_n 3, 1) := by decide +kernel
theorem dX0_removeHandler_73 : decode cX0_removeHandler 73 = .ok (.iload 5, 2) := by decide +kernel
theorem dX0_removeHandler_75 : decode cX0_removeHandler 75 = .ok (.invokestatic 32, 3) := by decide +kernel
theorem dX0_removeHandler_78 : decode cX0_removeHandler 78 = .ok (.aload_n 0, 1) := by decide +kernel
theorem dX0_removeHandler_79 : decode cX0_removeHandler 79 = .ok (.getfield 13, 3) := by decide +kernel
theorem dX0_removeHandler_82 : decode cX0_removeHandler 82 = .ok (.iload_n 1, 1) := by decide +kernel
theorem dX0_removeHandler_83 : decode cX0_removeHandler 83 = .ok (.dup2, 1) := by decide +kernel
theorem dX0_removeHandler_84 : decode cX0_removeHandler 84 = .ok (.iaload, 1) := by decide +kernel
theorem dX0_removeHandler_85 : decode cX0_removeHandler 85 = .ok (.iconst 1, 1) := by decide +kernel
theorem dX0_removeHandler_86 : decode cX0_removeHandler 86 = .ok (.isub, 1) := by decide +kernel
theorem dX0_removeHandler_87 : decode cX0_removeHandler 87 = .ok (.iastore, 1) := by decide +kernel
theorem dX0_removeHandler_88 : decode cX0_removeHandler 88 = .ok (.iload 4, 2) := by decide +kernel
theorem dX0_removeHandler_90 : decode cX0_removeHandler 90 = .ok (.ireturn, 1) := by decide +kernel
theorem dX1_init_0 : decode cX1_init 0 = .ok (.aload_n 0, 1) := by decide +kernel
theorem dX1_init_1 : decode cX1_init 1 = .ok (.invokespecial 3, 3) := by decide +kernel
theorem dX1_init_4 : decode cX1_init 4 = .ok (.aload_n 0, 1) := by decide +kernel
theorem dX1_init_5 : decode cX1_init 5 = .ok (.new 9, 3) := by decide +kernel
theorem dX1_init_8 : decode cX1_init 8 = .ok (.dup, 1) := by decide +kernel
theorem dX1_init_9 : decode cX1_init 9 = .ok (.invokespecial 11, 3) := by decide +kernel
theorem dX1_init_12 : decode cX1_init 12 = .ok (.putfield 12, 3) := by decide +kernel
theorem dX1_init_15 : decode cX1_init 15 = .ok (.aload_n 0, 1) := by decide +kernel
theorem dX1_init_16 : decode cX1_init 16 = .ok (.new 18, 3) := by decide +kernel
theorem dX1_init_19 : decode cX1_init 19 = .ok (.dup, 1) := by decide +kernel
theorem dX1_init_20 : decode cX1_init 20 = .ok (.invokespecial 20, 3) := by decide +kernel
theorem dX1_init_23 : decode cX1_init 23 = .ok (.putfield 21, 3) := by decide +kernel
theorem dX1_init_26 : decode cX1_init 26 = .ok (.aload_n 0, 1) := by decide +kernel
theorem dX1_init_27 : decode cX1_init 27 = .ok (.iconst 1, 1) := by decide +kernel
theorem dX1_init_28 : decode cX1_init 28 = .ok (.putfield 25, 3) := by decide +kernel
theorem dX1_init_31 : decode cX1_init 31 = .ok (.aload_n 0, 1) := by decide +kernel
theorem dX1_init_32 : decode cX1_init 32 = .ok (.iconst (-1), 1) := by decide +kernel
theorem dX1_init_33 : decode cX1_init 33 = .ok (.putfield 29, 3) := by decide +kernel
theorem dX1_init_36 : decode cX1_init 36 = .ok (.return_, 1) := by decide +kernel
theorem dX1_isQuiet_0 : decode cX1_isQuiet 0 = .ok (.aload_n 0, 1) := by decide +kernel
theorem dX1_isQuiet_1 : decode cX1_isQuiet 1 = .ok (.getfield 32, 3) := by decide +kernel
theorem dX1_isQuiet_4 : decode cX1_isQuiet 4 = .ok (.ifCond .eq 33, 3) := by decide +kernel
theorem dX1_isQuiet_7 : decode cX1_isQuiet 7 = .ok (.lload_n 1, 1) := by decide +kernel
theorem dX1_isQuiet_8 : decode cX1_isQuiet 8 = .ok (.aload_n 0, 1) := by decide +kernel
theorem dX1_isQuiet_9 : decode cX1_isQuiet 9 = .ok (.getfield 35, 3) := by decide +kernel
theorem dX1_isQuiet_12 : decode cX1_isQuiet 12 = .ok (.lsub, 1) := by decide +kernel
theorem dX1_isQuiet_13 : decode cX1_isQuiet 13 = .ok (.aload_n 0, 1) := by decide +kernel
theorem dX1_isQuiet_14 : decode cX1_isQuiet 14 = .ok (.getfield 39, 3) := by decide +kernel
theorem dX1_isQuiet_17 : decode cX1_isQuiet 17 = .ok (.i2l, 1) := by decide +kernel
theorem dX1_isQuiet_18 : decode cX1_isQuiet 18 = .ok (.lcmp, 1) := by decide +kernel
theorem dX1_isQuiet_19 : decode cX1_isQuiet 19 = .ok (.ifCond .gt 18, 3) := by decide +kernel
theorem dX1_isQuiet_22 : decode cX1_isQuiet 22 = .ok (.lload_n 1, 1) := by decide +kernel
theorem dX1_isQuiet_23 : decode cX1_isQuiet 23 = .ok (.aload_n 0, 1) := by decide +kernel
theorem dX1_isQuiet_24 : decode cX1_isQuiet 24 = .ok (.getfield 42, 3) := by decide +kernel
theorem dX1_isQuiet_27 : decode cX1_isQuiet 27 = .ok (.lsub, 1) := by decide +kernel
theorem dX1_isQuiet_28 : decode cX1_isQuiet 28 = .ok (.aload_n 0, 1) := by decide +kernel
theorem dX1_isQuiet_29 : decode cX1_isQuiet 29 = .ok (.getfield 32, 3) := by decide +kernel
theorem dX1_isQuiet_32 : decode cX1_isQuiet 32 = .ok (.i2l, 1) := by decide +kernel
theorem dX1_isQuiet_33 : decode cX1_isQuiet 33 = .ok (.lcmp, 1) := by decide +kernel
theorem dX1_isQuiet_34 : decode cX1_isQuiet 34 = .ok (.ifCond .le 7, 3) := by decide +kernel
theorem dX1_isQuiet_37 : decode cX1_isQuiet 37 = .ok (.iconst 1, 1) := by decide +kernel
theorem dX1_isQuiet_38 : decode cX1_isQuiet 38 = .ok (.goto 4, 3) := by decide +kernel
theorem dX1_isQuiet_41 : decode cX1_isQuiet 41 = .ok (.iconst 0, 1) := by decide +kernel
theorem dX1_isQuiet_42 : decode cX1_isQuiet 42 = .ok (.ireturn, 1) := by decide +kernel
theorem dX2_init_0 : decode cX2_init 0 = .ok (.aload_n 0, 1) := by decide +kernel
theorem dX2_init_1 : decode cX2_init 1 = .ok (.invokespecial 1, 3) := by decide +kernel
theorem dX2_init_4 : decode cX2_init 4 = .ok (.aload_n 0, 1) := by decide +kernel
theorem dX2_init_5 : decode cX2_init 5 = .ok (.bipush 32, 2) := by decide +kernel
theorem dX2_init_7 : decode cX2_init 7 = .ok (.newarray .int, 2) := by decide +kernel
theorem dX2_init_9 : decode cX2_init 9 = .ok (.putfield 9, 3) := by decide +kernel
theorem dX2_init_12 : decode cX2_init 12 = .ok (.aload_n 0, 1) := by decide +kernel
theorem dX2_init_13 : decode cX2_init 13 = .ok (.bipush 32, 2) := by decide +kernel
theorem dX2_init_15 : decode cX2_init 15 = .ok (.newarray .int, 2) := by decide +kernel
theorem dX2_init_17 : decode cX2_init 17 = .ok (.putfield 13, 3) := by decide +kernel
theorem dX2_init_20 : decode cX2_init 20 = .ok (.aload_n 0, 1) := by decide +kernel
theorem dX2_init_21 : decode cX2_init 21 = .ok (.bipush 32, 2) := by decide +kernel
theorem dX2_init_23 : decode cX2_init 23 = .ok (.newarray .int, 2) := by decide +kernel
theorem dX2_init_25 : decode cX2_init 25 = .ok (.putfield 16, 3) := by decide +kernel
theorem dX2_init_28 : decode cX2_init 28 = .ok (.aload_n 0, 1) := by decide +kernel
theorem dX2_init_29 : decode cX2_init 29 = .ok (.bipush 32, 2) := by decide +kernel
theorem dX2_init_31 : decode cX2_init 31 = .ok (.newarray .boolean, 2) := by decide +kernel
theorem dX2_init_33 : decode cX2_init 33 = .ok (.putfield 19, 3) := by decide +kernel
theorem dX2_init_36 : decode cX2_init 36 = .ok (.aload_n 0, 1) := by decide +kernel
theorem dX2_init_37 : decode cX2_init 37 = .ok (.bipush 32, 2) := by decide +kernel
theorem dX2_init_39 : decode cX2_init 39 = .ok (.newarray .int, 2) := by decide +kernel
theorem dX2_init_41 : decode cX2_init 41 = .ok (.putfield 23, 3) := by decide +kernel
theorem dX2_init_44 : decode cX2_init 44 = .ok (.aload_n 0, 1) := by decide +kernel
theorem dX2_init_45 : decode cX2_init 45 = .ok (.sipush 192, 3) := by decide +kernel
theorem dX2_init_48 : decode cX2_init 48 = .ok (.newarray .int, 2) := by decide +kernel
theorem dX2_init_50 : decode cX2_init 50 = .ok (.putfield 26, 3) := by decide +kernel
theorem dX2_init_53 : decode cX2_init 53 = .ok (.return_, 1) := by decide +kernel
theorem dX2_has_0 : decode cX2_has 0 = .ok (.iload_n 1, 1) := by decide +kernel
theorem dX2_has_1 : decode cX2_has 1 = .ok (.ifCond .lt 15, 3) := by decide +kernel
theorem dX2_has_4 : decode cX2_has 4 = .ok (.iload_n 1, 1) := by decide +kernel
theorem dX2_has_5 : decode cX2_has 5 = .ok (.aload_n 0, 1) := by decide +kernel
theorem dX2_has_6 : decode cX2_has 6 = .ok (.getfield 29, 3) := by decide +kernel
theorem dX2_has_9 : decode cX2_has 9 = .ok (.if_icmp .ge 7, 3) := by decide +kernel
theorem dX2_has_12 : decode cX2_has 12 = .ok (.iconst 1, 1) := by decide +kernel
theorem dX2_has_13 : decode cX2_has 13 = .ok (.goto 4, 3) := by decide +kernel
theorem dX2_has_16 : decode cX2_has 16 = .ok (.iconst 0, 1) := by decide +kernel
theorem dX2_has_17 : decode cX2_has 17 = .ok (.ireturn, 1) := by decide +kernel
theorem dX2_add_0 : decode cX2_add 0 = .ok (.aload_n 0, 1) := by decide +kernel
theorem dX2_add_1 : decode cX2_add 1 = .ok (.getfield 9, 3) := by decide +kernel
theorem dX2_add_4 : decode cX2_add 4 = .ok (.aload_n 0, 1) := by decide +kernel
theorem dX2_add_5 : decode cX2_add 5 = .ok (.getfield 29, 3) := by decide +kernel
theorem dX2_add_8 : decode cX2_add 8 = .ok (.iload_n 1, 1) := by decide +kernel
theorem dX2_add_9 : decode cX2_add 9 = .ok (.iastore, 1) := by decide +kernel
theorem dX2_add_10 : decode cX2_add 10 = .ok (.aload_n 0, 1) := by decide +kernel
theorem dX2_add_11 : decode cX2_add 11 = .ok (.dup, 1) := by decide +kernel
theorem dX2_add_12 : decode cX2_add 12 = .ok (.getfield 29, 3) := by decide +kernel
theorem dX2_add_15 : decode cX2_add 15 = .ok (.iconst 1, 1) := by decide +kernel
theorem dX2_add_16 : decode cX2_add 16 = .ok (.iadd, 1) := by decide +kernel
theorem dX2_add_17 : decode cX2_add 17 = .ok (.putfield 29, 3) := by decide +kernel
theorem dX2_add_20 : decode cX2_add 20 = .ok (.aload_n 0, 1) := by decide +kernel
theorem dX2_add_21 : decode cX2_add 21 = .ok (.getfield 29, 3) := by decide +kernel
theorem dX2_add_24 : decode cX2_add 24 = .ok (.iconst 1, 1) := by decide +kernel
theorem dX2_add_25 : decode cX2_add 25 = .ok (.isub, 1) := by decide +kernel
theorem dX2_add_26 : decode cX2_add 26 = .ok (.ireturn, 1) := by decide +kernel
theorem dX2_isPending_0 : decode cX2_isPending 0 = .ok (.aload_n 0, 1) := by decide +kernel
theorem dX2_isPending_1 : decode cX2_isPending 1 = .ok (.getfield 13, 3) := by decide +kernel
theorem dX2_isPending_4 : decode cX2_isPending 4 = .ok (.iload_n 1, 1) := by decide +kernel
theorem dX2_isPending_5 : decode cX2_isPending 5 = .ok (.iaload, 1) := by decide +kernel
theorem dX2_isPending_6 : decode cX2_isPending 6 = .ok (.ifCond .ne 7, 3) := by decide +kernel
theorem dX2_isPending_9 : decode cX2_isPending 9 = .ok (.iconst 1, 1) := by decide +kernel
theorem dX2_isPending_10 : decode cX2_isPending 10 = .ok (.goto 4, 3) := by decide +kernel
theorem dX2_isPending_13 : decode cX2_isPending 13 = .ok (.iconst 0, 1) := by decide +kernel
theorem dX2_isPending_14 : decode cX2_isPending 14 = .ok (.ireturn, 1) := by decide +kernel
theorem dX2_pin_0 : decode cX2_pin 0 = .ok (.aload_n 0, 1) := by decide +kernel
theorem dX2_pin_1 : decode cX2_pin 1 = .ok (.iload_n 1, 1) := by decide +kernel
theorem dX2_pin_2 : decode cX2_pin 2 = .ok (.invokevirtual 33, 3) := by decide +kernel
theorem dX2_pin_5 : decode cX2_pin 5 = .ok (.ifCond .ne 5, 3) := by decide +kernel
theorem dX2_pin_8 : decode cX2_pin 8 = .ok (.iconst 0, 1) := by decide +kernel
theorem dX2_pin_9 : decode cX2_pin 9 = .ok (.ireturn, 1) := by decide +kernel
theorem dX2_pin_10 : decode cX2_pin 10 = .ok (.aload_n 0, 1) := by decide +kernel
theorem dX2_pin_11 : decode cX2_pin 11 = .ok (.getfield 19, 3) := by decide +kernel
theorem dX2_pin_14 : decode cX2_pin 14 = .ok (.iload_n 1, 1) := by decide +kernel
theorem dX2_pin_15 : decode cX2_pin 15 = .ok (.iconst 1, 1) := by decide +kernel
theorem dX2_pin_16 : decode cX2_pin 16 = .ok (.bastore, 1) := by decide +kernel
theorem dX2_pin_17 : decode cX2_pin 17 = .ok (.iconst 1, 1) := by decide +kernel
theorem dX2_pin_18 : decode cX2_pin 18 = .ok (.ireturn, 1) := by decide +kernel
theorem dX2_close_0 : decode cX2_close 0 = .ok (.aload_n 0, 1) := by decide +kernel
theorem dX2_close_1 : decode cX2_close 1 = .ok (.iload_n 1, 1) := by decide +kernel
theorem dX2_close_2 : decode cX2_close 2 = .ok (.invokevirtual 33, 3) := by decide +kernel
theorem dX2_close_5 : decode cX2_close 5 = .ok (.ifCond .eq 17, 3) := by decide +kernel
theorem dX2_close_8 : decode cX2_close 8 = .ok (.iload_n 2, 1) := by decide +kernel
theorem dX2_close_9 : decode cX2_close 9 = .ok (.iconst 3, 1) := by decide +kernel
theorem dX2_close_10 : decode cX2_close 10 = .ok (.if_icmp .ne 14, 3) := by decide +kernel
theorem dX2_close_13 : decode cX2_close 13 = .ok (.aload_n 0, 1) := by decide +kernel
theorem dX2_close_14 : decode cX2_close 14 = .ok (.getfield 19, 3) := by decide +kernel
theorem dX2_close_17 : decode cX2_close 17 = .ok (.iload_n 1, 1) := by decide +kernel
theorem dX2_close_18 : decode cX2_close 18 = .ok (.baload, 1) := by decide +kernel
theorem dX2_close_19 : decode cX2_close 19 = .ok (.ifCond .eq 5, 3) := by decide +kernel
theorem dX2_close_22 : decode cX2_close 22 = .ok (.iconst 0, 1) := by decide +kernel
theorem dX2_close_23 : decode cX2_close 23 = .ok (.ireturn, 1) := by decide +kernel
theorem dX2_close_24 : decode cX2_close 24 = .ok (.aload_n 0, 1) := by decide +kernel
theorem dX2_close_25 : decode cX2_close 25 = .ok (.getfield 13, 3) := by decide +kernel
theorem dX2_close_28 : decode cX2_close 28 = .ok (.iload_n 1, 1) := by decide +kernel
theorem dX2_close_29 : decode cX2_close 29 = .ok (.iload_n 2, 1) := by decide +kernel
theorem dX2_close_30 : decode cX2_close 30 = .ok (.iastore, 1) := by decide +kernel
theorem dX2_close_31 : decode cX2_close 31 = .ok (.aload_n 0, 1) := by decide +kernel
theorem dX2_close_32 : decode cX2_close 32 = .ok (.getfield 16, 3) := by decide +kernel
theorem dX2_close_35 : decode cX2_close 35 = .ok (.iload_n 1, 1) := by decide +kernel
theorem dX2_close_36 : decode cX2_close 36 = .ok (.iload_n 2, 1) := by decide +kernel
theorem dX2_close_37 : decode cX2_close 37 = .ok (.iconst 3, 1) := by decide +kernel
theorem dX2_close_38 : decode cX2_close 38 = .ok (.if_icmp .ne 7, 3) := by decide +kernel
theorem dX2_close_41 : decode cX2_close 41 = .ok (.iconst 0, 1) := by decide +kernel
theorem dX2_close_42 : decode cX2_close 42 = .ok (.goto 4, 3) := by decide +kernel
theorem dX2_close_45 : decode cX2_close 45 = .ok (.iload_n 3, 1) := by decide +kernel
theorem dX2_close_46 : decode cX2_close 46 = .ok (.iastore, 1) := by decide +kernel
theorem dX2_close_47 : decode cX2_close 47 = .ok (.iconst 1, 1) := by decide +kernel
theorem dX2_close_48 : decode cX2_close 48 = .ok (.ireturn, 1) := by decide +kernel
theorem dX2_takesListener_0 : decode cX2_takesListener 0 = .ok (.aload_n 0, 1) := by decide +kernel
theorem dX2_takesListener_1 : decode cX2_takesListener 1 = .ok (.iload_n 1, 1) := by decide +kernel
theorem dX2_takesListener_2 : decode cX2_takesListener 2 = .ok (.invokevirtual 33, 3) := by decide +kernel
theorem dX2_takesListener_5 : decode cX2_takesListener 5 = .ok (.ifCond .eq 14, 3) := by decide +kernel
theorem dX2_takesListener_8 : decode cX2_takesListener 8 = .ok (.aload_n 0, 1) := by decide +kernel
theorem dX2_takesListener_9 : decode cX2_takesListener 9 = .ok (.getfield 23, 3) := by decide +kernel
theorem dX2_takesListener_12 : decode cX2_takesListener 12 = .ok (.iload_n 1, 1) := by decide +kernel
theorem dX2_takesListener_13 : decode cX2_takesListener 13 = .ok (.iaload, 1) := by decide +kernel
theorem dX2_takesListener_14 : decode cX2_takesListener 14 = .ok (.bipush 6, 2) := by decide +kernel
theorem dX2_takesListener_16 : decode cX2_takesListener 16 = .ok (.if_icmp .ge 7, 3) := by decide +kernel
theorem dX2_takesListener_19 : decode cX2_takesListener 19 = .ok (.iconst 1, 1) := by decide +kernel
theorem dX2_takesListener_20 : decode cX2_takesListener 20 = .ok (.goto 4, 3) := by decide +kernel
theorem dX2_takesListener_23 : decode cX2_takesListener 23 = .ok (.iconst 0, 1) := by decide +kernel
theorem dX2_takesListener_24 : decode cX2_takesListener 24 = .ok (.ireturn, 1) := by decide +kernel
theorem dX2_addWaiting_0 : decode cX2_addWaiting 0 = .ok (.aload_n 0, 1) := by decide +kernel
theorem dX2_addWaiting_1 : decode cX2_addWaiting 1 = .ok (.getfield 26, 3) := by decide +kernel
theorem dX2_addWaiting_4 : decode cX2_addWaiting 4 = .ok (.iload_n 1, 1) := by decide +kernel
theorem dX2_addWaiting_5 : decode cX2_addWaiting 5 = .ok (.bipush 6, 2) := by decide +kernel
theorem dX2_addWaiting_7 : decode cX2_addWaiting 7 = .ok (.imul, 1) := by decide +kernel
theorem dX2_addWaiting_8 : decode cX2_addWaiting 8 = .ok (.aload_n 0, 1) := by decide +kernel
theorem dX2_addWaiting_9 : decode cX2_addWaiting 9 = .ok (.getfield 23, 3) := by decide +kernel
theorem dX2_addWaiting_12 : decode cX2_addWaiting 12 = .ok (.iload_n 1, 1) := by decide +kernel
theorem dX2_addWaiting_13 : decode cX2_addWaiting 13 = .ok (.iaload, 1) := by decide +kernel
theorem dX2_addWaiting_14 : decode cX2_addWaiting 14 = .ok (.iadd, 1) := by decide +kernel
theorem dX2_addWaiting_15 : decode cX2_addWaiting 15 = .ok (.iload_n 2, 1) := by decide +kernel
theorem dX2_addWaiting_16 : decode cX2_addWaiting 16 = .ok (.iastore, 1) := by decide +kernel
theorem dX2_addWaiting_17 : decode cX2_addWaiting 17 = .ok (.aload_n 0, 1) := by decide +kernel
theorem dX2_addWaiting_18 : decode cX2_addWaiting 18 = .ok (.getfield 23, 3) := by decide +kernel
theorem dX2_addWaiting_21 : decode cX2_addWaiting 21 = .ok (.iload_n 1, 1) := by decide +kernel
theorem dX2_addWaiting_22 : decode cX2_addWaiting 22 = .ok (.dup2, 1) := by decide +kernel
theorem dX2_addWaiting_23 : decode cX2_addWaiting 23 = .ok (.iaload, 1) := by decide +kernel
theorem dX2_addWaiting_24 : decode cX2_addWaiting 24 = .ok (.iconst 1, 1) := by decide +kernel
theorem dX2_addWaiting_25 : decode cX2_addWaiting 25 = .ok (.iadd, 1) := by decide +kernel
theorem dX2_addWaiting_26 : decode cX2_addWaiting 26 = .ok (.iastore, 1) := by decide +kernel
theorem dX2_addWaiting_27 : decode cX2_addWaiting 27 = .ok (.return_, 1) := by decide +kernel
theorem dX3_init_0 : decode cX3_init 0 = .ok (.aload_n 0, 1) := by decide +kernel
theorem dX3_init_1 : decode cX3_init 1 = .ok (.invokespecial 1, 3) := by decide +kernel
theorem dX3_init_4 : decode cX3_init 4 = .ok (.aload_n 0, 1) := by decide +kernel
theorem dX3_init_5 : decode cX3_init 5 = .ok (.bipush 24, 2) := by decide +kernel
theorem dX3_init_7 : decode cX3_init 7 = .ok (.newarray .int, 2) := by decide +kernel
theorem dX3_init_9 : decode cX3_init 9 = .ok (.putfield 9, 3) := by decide +kernel
theorem dX3_init_12 : decode cX3_init 12 = .ok (.aload_n 0, 1) := by decide +kernel
theorem dX3_init_13 : decode cX3_init 13 = .ok (.bipush 24, 2) := by decide +kernel
theorem dX3_init_15 : decode cX3_init 15 = .ok (.newarray .int, 2) := by decide +kernel
theorem dX3_init_17 : decode cX3_init 17 = .ok (.putfield 13, 3) := by decide +kernel
theorem dX3_init_20 : decode cX3_init 20 = .ok (.aload_n 0, 1) := by decide +kernel
theorem dX3_init_21 : decode cX3_init 21 = .ok (.bipush 24, 2) := by decide +kernel
theorem dX3_init_23 : decode cX3_init 23 = .ok (.newarray .int, 2) := by decide +kernel
theorem dX3_init_25 : decode cX3_init 25 = .ok (.putfield 16, 3) := by decide +kernel
theorem dX3_init_28 : decode cX3_init 28 = .ok (.return_, 1) := by decide +kernel
theorem dX3_isFull_0 : decode cX3_isFull 0 = .ok (.aload_n 0, 1) := by decide +kernel
theorem dX3_isFull_1 : decode cX3_isFull 1 = .ok (.getfield 19, 3) := by decide +kernel
theorem dX3_isFull_4 : decode cX3_isFull 4 = .ok (.bipush 24, 2) := by decide +kernel
theorem dX3_isFull_6 : decode cX3_isFull 6 = .ok (.if_icmp .lt 7, 3) := by decide +kernel
theorem dX3_isFull_9 : decode cX3_isFull 9 = .ok (.iconst 1, 1) := by decide +kernel
theorem dX3_isFull_10 : decode cX3_isFull 10 = .ok (.goto 4, 3) := by decide +kernel
theorem dX3_isFull_13 : decode cX3_isFull 13 = .ok (.iconst 0, 1) := by decide +kernel
theorem dX3_isFull_14 : decode cX3_isFull 14 = .ok (.ireturn, 1) := by decide +kernel
theorem dX3_put_0 : decode cX3_put 0 = .ok (.aload_n 0, 1) := by decide +kernel
theorem dX3_put_1 : decode cX3_put 1 = .ok (.getfield 23, 3) := by decide +kernel
theorem dX3_put_4 : decode cX3_put 4 = .ok (.aload_n 0, 1) := by decide +kernel
theorem dX3_put_5 : decode cX3_put 5 = .ok (.getfield 19, 3) := by decide +kernel
theorem dX3_put_8 : decode cX3_put 8 = .ok (.iadd, 1) := by decide +kernel
theorem dX3_put_9 : decode cX3_put 9 = .ok (.bipush 24, 2) := by decide +kernel
theorem dX3_put_11 : decode cX3_put 11 = .ok (.irem, 1) := by decide +kernel
theorem dX3_put_12 : decode cX3_put 12 = .ok (.istore 4, 2) := by decide +kernel
theorem dX3_put_14 : decode cX3_put 14 = .ok (.aload_n 0, 1) := by decide +kernel
theorem dX3_put_15 : decode cX3_put 15 = .ok (.getfield 9, 3) := by decide +kernel
theorem dX3_put_18 : decode cX3_put 18 = .ok (.iload 4, 2) := by decide +kernel
theorem dX3_put_20 : decode cX3_put 20 = .ok (.iload_n 1, 1) := by decide +kernel
theorem dX3_put_21 : decode cX3_put 21 = .ok (.iastore, 1) := by decide +kernel
theorem dX3_put_22 : decode cX3_put 22 = .ok (.aload_n 0, 1) := by decide +kernel
theorem dX3_put_23 : decode cX3_put 23 = .ok (.getfield 13, 3) := by decide +kernel
theorem dX3_put_26 : decode cX3_put 26 = .ok (.iload 4, 2) := by decide +kernel
theorem dX3_put_28 : decode cX3_put 28 = .ok (.iload_n 2, 1) := by decide +kernel
theorem dX3_put_29 : decode cX3_put 29 = .ok (.iastore, 1) := by decide +kernel
theorem dX3_put_30 : decode cX3_put 30 = .ok (.aload_n 0, 1) := by decide +kernel
theorem dX3_put_31 : decode cX3_put 31 = .ok (.getfield 16, 3) := by decide +kernel
theorem dX3_put_34 : decode cX3_put 34 = .ok (.iload 4, 2) := by decide +kernel
theorem dX3_put_36 : decode cX3_put 36 = .ok (.iload_n 3, 1) := by decide +kernel
theorem dX3_put_37 : decode cX3_put 37 = .ok (.iastore, 1) := by decide +kernel
theorem dX3_put_38 : decode cX3_put 38 = .ok (.aload_n 0, 1) := by decide +kernel
theorem dX3_put_39 : decode cX3_put 39 = .ok (.dup, 1) := by decide +kernel
theorem dX3_put_40 : decode cX3_put 40 = .ok (.getfield 19, 3) := by decide +kernel
theorem dX3_put_43 : decode cX3_put 43 = .ok (.iconst 1, 1) := by decide +kernel
theorem dX3_put_44 : decode cX3_put 44 = .ok (.iadd, 1) := by decide +kernel
theorem dX3_put_45 : decode cX3_put 45 = .ok (.putfield 19, 3) := by decide +kernel
theorem dX3_put_48 : decode cX3_put 48 = .ok (.return_, 1) := by decide +kernel
theorem dX3_dropFirst_0 : decode cX3_dropFirst 0 = .ok (.aload_n 0, 1) := by decide +kernel
theorem dX3_dropFirst_1 : decode cX3_dropFirst 1 = .ok (.aload_n 0, 1) := by decide +kernel
theorem dX3_dropFirst_2 : decode cX3_dropFirst 2 = .ok (.getfield 23, 3) := by decide +kernel
theorem dX3_dropFirst_5 : decode cX3_dropFirst 5 = .ok (.iconst 1, 1) := by decide +kernel
theorem dX3_dropFirst_6 : decode cX3_dropFirst 6 = .ok (.iadd, 1) := by decide +kernel
theorem dX3_dropFirst_7 : decode cX3_dropFirst 7 = .ok (.bipush 24, 2) := by decide +kernel
theorem dX3_dropFirst_9 : decode cX3_dropFirst 9 = .ok (.irem, 1) := by decide +kernel
theorem dX3_dropFirst_10 : decode cX3_dropFirst 10 = .ok (.putfield 23, 3) := by decide +kernel
theorem dX3_dropFirst_13 : decode cX3_dropFirst 13 = .ok (.aload_n 0, 1) := by decide +kernel
theorem dX3_dropFirst_14 : decode cX3_dropFirst 14 = .ok (.dup, 1) := by decide +kernel
theorem dX3_dropFirst_15 : decode cX3_dropFirst 15 = .ok (.getfield 19, 3) := by decide +kernel
theorem dX3_dropFirst_18 : decode cX3_dropFirst 18 = .ok (.iconst 1, 1) := by decide +kernel
theorem dX3_dropFirst_19 : decode cX3_dropFirst 19 = .ok (.isub, 1) := by decide +kernel
theorem dX3_dropFirst_20 : decode cX3_dropFirst 20 = .ok (.putfield 19, 3) := by decide +kernel
theorem dX3_dropFirst_23 : decode cX3_dropFirst 23 = .ok (.return_, 1) := by decide +kernel
theorem dX4_init_0 : decode cX4_init 0 = .ok (.aload_n 0, 1) := by decide +kernel
theorem dX4_init_1 : decode cX4_init 1 = .ok (.invokespecial 3, 3) := by decide +kernel
theorem dX4_init_4 : decode cX4_init 4 = .ok (.aload_n 0, 1) := by decide +kernel
theorem dX4_init_5 : decode cX4_init 5 = .ok (.new 9, 3) := by decide +kernel
theorem dX4_init_8 : decode cX4_init 8 = .ok (.dup, 1) := by decide +kernel
theorem dX4_init_9 : decode cX4_init 9 = .ok (.invokespecial 11, 3) := by decide +kernel
theorem dX4_init_12 : decode cX4_init 12 = .ok (.putfield 12, 3) := by decide +kernel
theorem dX4_init_15 : decode cX4_init 15 = .ok (.aload_n 0, 1) := by decide +kernel
theorem dX4_init_16 : decode cX4_init 16 = .ok (.new 18, 3) := by decide +kernel
theorem dX4_init_19 : decode cX4_init 19 = .ok (.dup, 1) := by decide +kernel
theorem dX4_init_20 : decode cX4_init 20 = .ok (.invokespecial 20, 3) := by decide +kernel
theorem dX4_init_23 : decode cX4_init 23 = .ok (.putfield 21, 3) := by decide +kernel
theorem dX4_init_26 : decode cX4_init 26 = .ok (.aload_n 0, 1) := by decide +kernel
theorem dX4_init_27 : decode cX4_init 27 = .ok (.new 25, 3) := by decide +kernel
theorem dX4_init_30 : decode cX4_init 30 = .ok (.dup, 1) := by decide +kernel
theorem dX4_init_31 : decode cX4_init 31 = .ok (.invokespecial 27, 3) := by decide +kernel
theorem dX4_init_34 : decode cX4_init 34 = .ok (.putfield 28, 3) := by decide +kernel
theorem dX4_init_37 : decode cX4_init 37 = .ok (.aload_n 0, 1) := by decide +kernel
theorem dX4_init_38 : decode cX4_init 38 = .ok (.new 32, 3) := by decide +kernel
theorem dX4_init_41 : decode cX4_init 41 = .ok (.dup, 1) := by decide +kernel
theorem dX4_init_42 : decode cX4_init 42 = .ok (.iload_n 1, 1) := by decide +kernel
theorem dX4_init_43 : decode cX4_init 43 = .ok (.invokespecial 34, 3) := by decide +kernel
theorem dX4_init_46 : decode cX4_init 46 = .ok (.putfield 37, 3) := by decide +kernel
theorem dX4_init_49 : decode cX4_init 49 = .ok (.aload_n 0, 1) := by decide +kernel
theorem dX4_init_50 : decode cX4_init 50 = .ok (.aload_n 0, 1) := by decide +kernel
theorem dX4_init_51 : decode cX4_init 51 = .ok (.getfield 37, 3) := by decide +kernel
theorem dX4_init_54 : decode cX4_init 54 = .ok (.getfield 41, 3) := by decide +kernel
theorem dX4_init_57 : decode cX4_init 57 = .ok (.putfield 45, 3) := by decide +kernel
theorem dX4_init_60 : decode cX4_init 60 = .ok (.return_, 1) := by decide +kernel
theorem dX4_takeStep_0 : decode cX4_takeStep 0 = .ok (.aload_n 0, 1) := by decide +kernel
theorem dX4_takeStep_1 : decode cX4_takeStep 1 = .ok (.getfield 37, 3) := by decide +kernel
theorem dX4_takeStep_4 : decode cX4_takeStep 4 = .ok (.getfield 46, 3) := by decide +kernel
theorem dX4_takeStep_7 : decode cX4_takeStep 7 = .ok (.iload_n 1, 1) := by decide +kernel
theorem dX4_takeStep_8 : decode cX4_takeStep 8 = .ok (.aaload, 1) := by decide +kernel
theorem dX4_takeStep_9 : decode cX4_takeStep 9 = .ok (.astore_n 2, 1) := by decide +kernel
theorem dX4_takeStep_10 : decode cX4_takeStep 10 = .ok (.aload_n 2, 1) := by decide +kernel
theorem dX4_takeStep_11 : decode cX4_takeStep 11 = .ok (.getfield 50, 3) := by decide +kernel
theorem dX4_takeStep_14 : decode cX4_takeStep 14 = .ok (.iconst 1, 1) := by decide +kernel
theorem dX4_takeStep_15 : decode cX4_takeStep 15 = .ok (.if_icmp .eq 11, 3) := by decide +kernel
theorem dX4_takeStep_18 : decode cX4_takeStep 18 = .ok (.aload_n 2, 1) := by decide +kernel
theorem dX4_takeStep_19 : decode cX4_takeStep 19 = .ok (.getfield 50, 3) := by decide +kernel
theorem dX4_takeStep_22 : decode cX4_takeStep 22 = .ok (.iconst 5, 1) := by decide +kernel
theorem dX4_takeStep_23 : decode cX4_takeStep 23 = .ok (.if_icmp .ne 5, 3) := by decide +kernel
theorem dX4_takeStep_26 : decode cX4_takeStep 26 = .ok (.iconst 0, 1) := by decide +kernel
theorem dX4_takeStep_27 : decode cX4_takeStep 27 = .ok (.ireturn, 1) := by decide +kernel
theorem dX4_takeStep_28 : decode cX4_takeStep 28 = .ok (.aload_n 2, 1) := by decide +kernel
theorem dX4_takeStep_29 : decode cX4_takeStep 29 = .ok (.getfield 50, 3) := by decide +kernel
theorem dX4_takeStep_32 : decode cX4_takeStep 32 = .ok (.iconst 3, 1) := by decide +kernel
theorem dX4_takeStep_33 : decode cX4_takeStep 33 = .ok (.if_icmp .ne 11, 3) := by decide +kernel
theorem dX4_takeStep_36 : decode cX4_takeStep 36 = .ok (.aload_n 2, 1) := by decide +kernel
theorem dX4_takeStep_37 : decode cX4_takeStep 37 = .ok (.getfield 56, 3) := by decide +kernel
theorem dX4_takeStep_40 : decode cX4_takeStep 40 = .ok (.iconst 0, 1) := by decide +kernel
theorem dX4_takeStep_41 : decode cX4_takeStep 41 = .ok (.putfield 60, 3) := by decide +kernel
theorem dX4_takeStep_44 : decode cX4_takeStep 44 = .ok (.aload_n 0, 1) := by decide +kernel
theorem dX4_takeStep_45 : decode cX4_takeStep 45 = .ok (.iconst 0, 1) := by decide +kernel
theorem dX4_takeStep_46 : decode cX4_takeStep 46 = .ok (.putfield 65, 3) := by decide +kernel
theorem dX4_takeStep_49 : decode cX4_takeStep 49 = .ok (.aload_n 2, 1) := by decide +kernel
theorem dX4_takeStep_50 : decode cX4_takeStep 50 = .ok (.getfield 68, 3) := by decide +kernel
theorem dX4_takeStep_53 : decode cX4_takeStep 53 = .ok (.iconst (-1), 1) := by decide +kernel
theorem dX4_takeStep_54 : decode cX4_takeStep 54 = .ok (.if_icmp .eq 10, 3) := by decide +kernel
theorem dX4_takeStep_57 : decode cX4_takeStep 57 = .ok (.aload_n 0, 1) := by decide +kernel
theorem dX4_takeStep_58 : decode cX4_takeStep 58 = .ok (.iload_n 1, 1) := by decide +kernel
theorem dX4_takeStep_59 : decode cX4_takeStep 59 = .ok (.aload_n 2, 1) := by decide +kernel
theorem dX4_takeStep_60 : decode cX4_takeStep 60 = .ok (.invokevirtual 71, 3) := by decide +kernel
theorem dX4_takeStep_63 : decode cX4_takeStep 63 = .ok (.ireturn, 1) := by decide +kernel
theorem dX4_takeStep_64 : decode cX4_takeStep 64 = .ok (.aload_n 2, 1) := by decide +kernel
theorem dX4_takeStep_65 : decode cX4_takeStep 65 = .ok (.getfield 75, 3) := by decide +kernel
theorem dX4_takeStep_68 : decode cX4_takeStep 68 = .ok (.ifCond .ne 11, 3) := by decide +kernel
theorem dX4_takeStep_71 : decode cX4_takeStep 71 = .ok (.aload_n 0, 1) := by decide +kernel
theorem dX4_takeStep_72 : decode cX4_takeStep 72 = .ok (.getfield 37, 3) := by decide +kernel
theorem dX4_takeStep_75 : decode cX4_takeStep 75 = .ok (.aload_n 2, 1) := by decide +kernel
theorem dX4_takeStep_76 : decode cX4_takeStep 76 = .ok (.invokevirtual 78, 3) := by decide +kernel
theorem dX4_takeStep_79 : decode cX4_takeStep 79 = .ok (.aload_n 2, 1) := by decide +kernel
theorem dX4_takeStep_80 : decode cX4_takeStep 80 = .ok (.getfield 82, 3) := by decide +kernel
theorem dX4_takeStep_83 : decode cX4_takeStep 83 = .ok (.getfield 86, 3) := by decide +kernel
theorem dX4_takeStep_86 : decode cX4_takeStep 86 = .ok (.ifCond .ne 20, 3) := by decide +kernel
theorem dX4_takeStep_89 : decode cX4_takeStep 89 = .ok (.aload_n 0, 1) := by decide +kernel
theorem dX4_takeStep_90 : decode cX4_takeStep 90 = .ok (.getfield 37, 3) := by decide +kernel
theorem dX4_takeStep_93 : decode cX4_takeStep 93 = .ok (.iload_n 1, 1) := by decide +kernel
theorem dX4_takeStep_94 : decode cX4_takeStep 94 = .ok (.invokevirtual 89, 3) := by decide +kernel
theorem dX4_takeStep_97 : decode cX4_takeStep 97 = .ok (.ifCond .eq 7, 3) := by decide +kernel
theorem dX4_takeStep_100 : decode cX4_takeStep 100 = .ok (.iconst 3, 1) := by decide +kernel
theorem dX4_takeStep_101 : decode cX4_takeStep 101 = .ok (.goto 4, 3) := by decide +kernel
theorem dX4_takeStep_104 : decode cX4_takeStep 104 = .ok (.iconst 0, 1) := by decide +kernel
theorem dX4_takeStep_105 : decode cX4_takeStep 105 = .ok (.ireturn, 1) := by decide +kernel
theorem dX4_takeStep_106 : decode cX4_takeStep 106 = .ok (.aload_n 0, 1) := by decide +kernel
theorem dX4_takeStep_107 : decode cX4_takeStep 107 = .ok (.iload_n 1, 1) := by decide +kernel
theorem dX4_takeStep_108 : decode cX4_takeStep 108 = .ok (.aload_n 2, 1) := by decide +kernel
theorem dX4_takeStep_109 : decode cX4_takeStep 109 = .ok (.invokevirtual 93, 3) := by decide +kernel
theorem dX4_takeStep_112 : decode cX4_takeStep 112 = .ok (.iconst 1, 1) := by decide +kernel
theorem dX4_takeStep_113 : decode cX4_takeStep 113 = .ok (.ireturn, 1) := by decide +kernel
theorem dX4_resume_0 : decode cX4_resume 0 = .ok (.aload_n 2, 1) := by decide +kernel
theorem dX4_resume_1 : decode cX4_resume 1 = .ok (.getfield 68, 3) := by decide +kernel
theorem dX4_resume_4 : decode cX4_resume 4 = .ok (.istore_n 3, 1) := by decide +kernel
theorem dX4_resume_5 : decode cX4_resume 5 = .ok (.aload_n 0, 1) := by decide +kernel
theorem dX4_resume_6 : decode cX4_resume 6 = .ok (.getfield 21, 3) := by decide +kernel
theorem dX4_resume_9 : decode cX4_resume 9 = .ok (.iload_n 3, 1) := by decide +kernel
theorem dX4_resume_10 : decode cX4_resume 10 = .ok (.invokevirtual 97, 3) := by decide +kernel
theorem dX4_resume_13 : decode cX4_resume 13 = .ok (.ifCond .eq 5, 3) := by decide +kernel
theorem dX4_resume_16 : decode cX4_resume 16 = .ok (.iconst 2, 1) := by decide +kernel
theorem dX4_resume_17 : decode cX4_resume 17 = .ok (.ireturn, 1) := by decide +kernel
theorem dX4_resume_18 : decode cX4_resume 18 = .ok (.aload_n 2, 1) := by decide +kernel
theorem dX4_resume_19 : decode cX4_resume 19 = .ok (.iconst (-1), 1) := by decide +kernel
theorem dX4_resume_20 : decode cX4_resume 20 = .ok (.putfield 68, 3) := by decide +kernel
theorem dX4_resume_23 : decode cX4_resume 23 = .ok (.aload_n 0, 1) := by decide +kernel
theorem dX4_resume_24 : decode cX4_resume 24 = .ok (.getfield 45, 3) := by decide +kernel
theorem dX4_resume_27 : decode cX4_resume 27 = .ok (.iload_n 1, 1) := by decide +kernel
theorem dX4_resume_28 : decode cX4_resume 28 = .ok (.bipush 10, 2) := by decide +kernel
theorem dX4_resume_30 : decode cX4_resume 30 = .ok (.iload_n 3, 1) := by decide +kernel
theorem dX4_resume_31 : decode cX4_resume 31 = .ok (.invokevirtual 102, 3) := by decide +kernel
theorem dX4_resume_34 : decode cX4_resume 34 = .ok (.aload_n 0, 1) := by decide +kernel
theorem dX4_resume_35 : decode cX4_resume 35 = .ok (.iload_n 1, 1) := by decide +kernel
theorem dX4_resume_36 : decode cX4_resume 36 = .ok (.aload_n 2, 1) := by decide +kernel
theorem dX4_resume_37 : decode cX4_resume 37 = .ok (.getfield 106, 3) := by decide +kernel
theorem dX4_resume_40 : decode cX4_resume 40 = .ok (.aload_n 2, 1) := by decide +kernel
theorem dX4_resume_41 : decode cX4_resume 41 = .ok (.getfield 109, 3) := by decide +kernel
theorem dX4_resume_44 : decode cX4_resume 44 = .ok (.invokevirtual 112, 3) := by decide +kernel
theorem dX4_resume_47 : decode cX4_resume 47 = .ok (.iconst 1, 1) := by decide +kernel
theorem dX4_resume_48 : decode cX4_resume 48 = .ok (.ireturn, 1) := by decide +kernel
theorem dX4_beginFirst_0 : decode cX4_beginFirst 0 = .ok (.aload_n 2, 1) := by decide +kernel
theorem dX4_beginFirst_1 : decode cX4_beginFirst 1 = .ok (.getfield 82, 3) := by decide +kernel
theorem dX4_beginFirst_4 : decode cX4_beginFirst 4 = .ok (.getfield 115, 3) := by decide +kernel
theorem dX4_beginFirst_7 : decode cX4_beginFirst 7 = .ok (.istore_n 3, 1) := by decide +kernel
theorem dX4_beginFirst_8 : decode cX4_beginFirst 8 = .ok (.aload_n 2, 1) := by decide +kernel
theorem dX4_beginFirst_9 : decode cX4_beginFirst 9 = .ok (.getfield 82, 3) := by decide +kernel
theorem dX4_beginFirst_12 : decode cX4_beginFirst 12 = .ok (.getfield 118, 3) := by decide +kernel
theorem dX4_beginFirst_15 : decode cX4_beginFirst 15 = .ok (.iload_n 3, 1) := by decide +kernel
theorem dX4_beginFirst_16 : decode cX4_beginFirst 16 = .ok (.iaload, 1) := by decide +kernel
theorem dX4_beginFirst_17 : decode cX4_beginFirst 17 = .ok (.istore 4, 2) := by decide +kernel
theorem dX4_beginFirst_19 : decode cX4_beginFirst 19 = .ok (.aload_n 2, 1) := by decide +kernel
theorem dX4_beginFirst_20 : decode cX4_beginFirst 20 = .ok (.getfield 82, 3) := by decide +kernel
theorem dX4_beginFirst_23 : decode cX4_beginFirst 23 = .ok (.getfield 122, 3) := by decide +kernel
theorem dX4_beginFirst_26 : decode cX4_beginFirst 26 = .ok (.iload_n 3, 1) := by decide +kernel
theorem dX4_beginFirst_27 : decode cX4_beginFirst 27 = .ok (.iaload, 1) := by decide +kernel
theorem dX4_beginFirst_28 : decode cX4_beginFirst 28 = .ok (.istore 5, 2) := by decide +kernel
theorem dX4_beginFirst_30 : decode cX4_beginFirst 30 = .ok (.aload_n 2, 1) := by decide +kernel
theorem dX4_beginFirst_31 : decode cX4_beginFirst 31 = .ok (.getfield 82, 3) := by decide +kernel
theorem dX4_beginFirst_34 : decode cX4_beginFirst 34 = .ok (.getfield 125, 3) := by decide +kernel
theorem dX4_beginFirst_37 : decode cX4_beginFirst 37 = .ok (.iload_n 3, 1) := by decide +kernel
theorem dX4_beginFirst_38 : decode cX4_beginFirst 38 = .ok (.iaload, 1) := by decide +kernel
theorem dX4_beginFirst_39 : decode cX4_beginFirst 39 = .ok (.istore 6, 2) := by decide +kernel
theorem dX4_beginFirst_41 : decode cX4_beginFirst 41 = .ok (.aload_n 2, 1) := by decide +kernel
theorem dX4_beginFirst_42 : decode cX4_beginFirst 42 = .ok (.getfield 82, 3) := by decide +kernel
theorem dX4_beginFirst_45 : decode cX4_beginFirst 45 = .ok (.invokevirtual 128, 3) := by decide +kernel
theorem dX4_beginFirst_48 : decode cX4_beginFirst 48 = .ok (.aload_n 2, 1) := by decide +kernel
theorem dX4_beginFirst_49 : decode cX4_beginFirst 49 = .ok (.dup, 1) := by decide +kernel
theorem dX4_beginFirst_50 : decode cX4_beginFirst 50 = .ok (.getfield 75, 3) := by decide +kernel
theorem dX4_beginFirst_53 : decode cX4_beginFirst 53 = .ok (.iconst 1, 1) := by decide +kernel
theorem dX4_beginFirst_54 : decode cX4_beginFirst 54 = .ok (.isub, 1) := by decide +kernel
theorem dX4_beginFirst_55 : decode cX4_beginFirst 55 = .ok (.putfield 75, 3) := by decide +kernel
theorem dX4_beginFirst_58 : decode cX4_beginFirst 58 = .ok (.aload_n 2, 1) := by decide +kernel
theorem dX4_beginFirst_59 : decode cX4_beginFirst 59 = .ok (.aload_n 0, 1) := by decide +kernel
theorem dX4_beginFirst_60 : decode cX4_beginFirst 60 = .ok (.getfield 37, 3) := by decide +kernel
theorem dX4_beginFirst_63 : decode cX4_beginFirst 63 = .ok (.getfield 131, 3) := by decide +kernel
theorem dX4_beginFirst_66 : decode cX4_beginFirst 66 = .ok (.putfield 135, 3) := by decide +kernel
theorem dX4_beginFirst_69 : decode cX4_beginFirst 69 = .ok (.iload 4, 2) := by decide +kernel
theorem dX4_beginFirst_71 : decode cX4_beginFirst 71 = .ok (.iconst 2, 1) := by decide +kernel
theorem dX4_beginFirst_72 : decode cX4_beginFirst 72 = .ok (.if_icmp .ne 23, 3) := by decide +kernel
theorem dX4_beginFirst_75 : decode cX4_beginFirst 75 = .ok (.aload_n 0, 1) := by decide +kernel
theorem dX4_beginFirst_76 : decode cX4_beginFirst 76 = .ok (.getfield 45, 3) := by decide +kernel
theorem dX4_beginFirst_79 : decode cX4_beginFirst 79 = .ok (.iload_n 1, 1) := by decide +kernel
theorem dX4_beginFirst_80 : decode cX4_beginFirst 80 = .ok (.iconst 1, 1) := by decide +kernel
theorem dX4_beginFirst_81 : decode cX4_beginFirst 81 = .ok (.iconst (-1), 1) := by decide +kernel
theorem dX4_beginFirst_82 : decode cX4_beginFirst 82 = .ok (.invokevirtual 102, 3) := by decide +kernel
theorem dX4_beginFirst_85 : decode cX4_beginFirst 85 = .ok (.aload_n 0, 1) := by decide +kernel
theorem dX4_beginFirst_86 : decode cX4_beginFirst 86 = .ok (.iload_n 1, 1) := by decide +kernel
theorem dX4_beginFirst_87 : decode cX4_beginFirst 87 = .ok (.iload 5, 2) := by decide +kernel
theorem dX4_beginFirst_89 : decode cX4_beginFirst 89 = .ok (.iload 6, 2) := by decide +kernel
theorem dX4_beginFirst_91 : decode cX4_beginFirst 91 = .ok (.invokevirtual 138, 3) := by decide +kernel
theorem dX4_beginFirst_94 : decode cX4_beginFirst 94 = .ok (.return_, 1) := by decide +kernel
theorem dX4_beginFirst_95 : decode cX4_beginFirst 95 = .ok (.aload_n 0, 1) := by decide +kernel
theorem dX4_beginFirst_96 : decode cX4_beginFirst 96 = .ok (.getfield 45, 3) := by decide +kernel
theorem dX4_beginFirst_99 : decode cX4_beginFirst 99 = .ok (.iload_n 1, 1) := by decide +kernel
theorem dX4_beginFirst_100 : decode cX4_beginFirst 100 = .ok (.iload 4, 2) := by decide +kernel
theorem dX4_beginFirst_102 : decode cX4_beginFirst 102 = .ok (.ifCond .ne 7, 3) := by decide +kernel
theorem dX4_beginFirst_105 : decode cX4_beginFirst 105 = .ok (.iconst 1, 1) := by decide +kernel
theorem dX4_beginFirst_106 : decode cX4_beginFirst 106 = .ok (.goto 4, 3) := by decide +kernel
theorem dX4_beginFirst_109 : decode cX4_beginFirst 109 = .ok (.iconst 5, 1) := by decide +kernel
theorem dX4_beginFirst_110 : decode cX4_beginFirst 110 = .ok (.iload 5, 2) := by decide +kernel
theorem dX4_beginFirst_112 : decode cX4_beginFirst 112 = .ok (.invokevirtual 102, 3) := by decide +kernel
theorem dX4_beginFirst_115 : decode cX4_beginFirst 115 = .ok (.aload_n 0, 1) := by decide +kernel
theorem dX4_beginFirst_116 : decode cX4_beginFirst 116 = .ok (.iload_n 1, 1) := by decide +kernel
theorem dX4_beginFirst_117 : decode cX4_beginFirst 117 = .ok (.iload 5, 2) := by decide +kernel
theorem dX4_beginFirst_119 : decode cX4_beginFirst 119 = .ok (.iconst 0, 1) := by decide +kernel
theorem dX4_beginFirst_120 : decode cX4_beginFirst 120 = .ok (.invokevirtual 112, 3) := by decide +kernel
theorem dX4_beginFirst_123 : decode cX4_beginFirst 123 = .ok (.return_, 1) := by decide +kernel
theorem dX4_doOrders_0 : decode cX4_doOrders 0 = .ok (.iload_n 3, 1) := by decide +kernel
theorem dX4_doOrders_1 : decode cX4_doOrders 1 = .ok (.istore 4, 2) := by decide +kernel
theorem dX4_doOrders_3 : decode cX4_doOrders 3 = .ok (.iload 4, 2) := by decide +kernel
theorem dX4_doOrders_5 : decode cX4_doOrders 5 = .ok (.aload_n 0, 1) := by decide +kernel
theorem dX4_doOrders_6 : decode cX4_doOrders 6 = .ok (.getfield 12, 3) := by decide +kernel
theorem dX4_doOrders_9 : decode cX4_doOrders 9 = .ok (.getfield 141, 3) := by decide +kernel
theorem dX4_doOrders_12 : decode cX4_doOrders 12 = .ok (.iload_n 2, 1) := by decide +kernel
theorem dX4_doOrders_13 : decode cX4_doOrders 13 = .ok (.iaload, 1) := by decide +kernel
theorem dX4_doOrders_14 : decode cX4_doOrders 14 = .ok (.if_icmp .ge 108, 3) := by decide +kernel
theorem dX4_doOrders_17 : decode cX4_doOrders 17 = .ok (.iload_n 2, 1) := by decide +kernel
theorem dX4_doOrders_18 : decode cX4_doOrders 18 = .ok (.bipush 8, 2) := by decide +kernel
theorem dX4_doOrders_20 : decode cX4_doOrders 20 = .ok (.imul, 1) := by decide +kernel
theorem dX4_doOrders_21 : decode cX4_doOrders 21 = .ok (.iload 4, 2) := by decide +kernel
theorem dX4_doOrders_23 : decode cX4_doOrders 23 = .ok (.iadd, 1) := by decide +kernel
theorem dX4_doOrders_24 : decode cX4_doOrders 24 = .ok (.istore 5, 2) := by decide +kernel
theorem dX4_doOrders_26 : decode cX4_doOrders 26 = .ok (.aload_n 0, 1) := by decide +kernel
theorem dX4_doOrders_27 : decode cX4_doOrders 27 = .ok (.iload_n 1, 1) := by decide +kernel
theorem dX4_doOrders_28 : decode cX4_doOrders 28 = .ok (.aload_n 0, 1) := by decide +kernel
theorem dX4_doOrders_29 : decode cX4_doOrders 29 = .ok (.getfield 12, 3) := by decide +kernel
theorem dX4_doOrders_32 : decode cX4_doOrders 32 = .ok (.getfield 144, 3) := by decide +kernel
theorem dX4_doOrders_35 : decode cX4_doOrders 35 = .ok (.iload 5, 2) := by decide +kernel
theorem dX4_doOrders_37 : decode cX4_doOrders 37 = .ok (.iaload, 1) := by decide +kernel
theorem dX4_doOrders_38 : decode cX4_doOrders 38 = .ok (.aload_n 0, 1) := by decide +kernel
theorem dX4_doOrders_39 : decode cX4_doOrders 39 = .ok (.getfield 12, 3) := by decide +kernel
theorem dX4_doOrders_42 : decode cX4_doOrders 42 = .ok (.getfield 145, 3) := by decide +kernel
theorem dX4_doOrders_45 : decode cX4_doOrders 45 = .ok (.iload 5, 2) := by decide +kernel
theorem dX4_doOrders_47 : decode cX4_doOrders 47 = .ok (.iaload, 1) := by decide +kernel
theorem dX4_doOrders_48 : decode cX4_doOrders 48 = .ok (.aload_n 0, 1) := by decide +kernel
theorem dX4_doOrders_49 : decode cX4_doOrders 49 = .ok (.getfield 12, 3) := by decide +kernel
theorem dX4_doOrders_52 : decode cX4_doOrders 52 = .ok (.getfield 148, 3) := by decide +kernel
theorem dX4_doOrders_55 : decode cX4_doOrders 55 = .ok (.iload 5, 2) := by decide +kernel
theorem dX4_doOrders_57 : decode cX4_doOrders 57 = .ok (.iaload, 1) := by decide +kernel
theorem dX4_doOrders_58 : decode cX4_doOrders 58 = .ok (.invokevirtual 151, 3) := by decide +kernel
theorem dX4_doOrders_61 : decode cX4_doOrders 61 = .ok (.istore 6, 2) := by decide +kernel
theorem dX4_doOrders_63 : decode cX4_doOrders 63 = .ok (.iload 6, 2) := by decide +kernel
theorem dX4_doOrders_65 : decode cX4_doOrders 65 = .ok (.iconst 1, 1) := by decide +kernel
theorem dX4_doOrders_66 : decode cX4_doOrders 66 = .ok (.if_icmp .ne 14, 3) := by decide +kernel
theorem dX4_doOrders_69 : decode cX4_doOrders 69 = .ok (.aload_n 0, 1) := by decide +kernel
theorem dX4_doOrders_70 : decode cX4_doOrders 70 = .ok (.getfield 45, 3) := by decide +kernel
theorem dX4_doOrders_73 : decode cX4_doOrders 73 = .ok (.iload_n 1, 1) := by decide +kernel
theorem dX4_doOrders_74 : decode cX4_doOrders 74 = .ok (.iconst 2, 1) := by decide +kernel
theorem dX4_doOrders_75 : decode cX4_doOrders 75 = .ok (.iload_n 2, 1) := by decide +kernel
theorem dX4_doOrders_76 : decode cX4_doOrders 76 = .ok (.invokevirtual 102, 3) := by decide +kernel
theorem dX4_doOrders_79 : decode cX4_doOrders 79 = .ok (.return_, 1) := by decide +kernel
theorem dX4_doOrders_80 : decode cX4_doOrders 80 = .ok (.iload 6, 2) := by decide +kernel
theorem dX4_doOrders_82 : decode cX4_doOrders 82 = .ok (.iconst 2, 1) := by decide +kernel
theorem dX4_doOrders_83 : decode cX4_doOrders 83 = .ok (.if_icmp .ne 33, 3) := by decide +kernel
theorem dX4_doOrders_86 : decode cX4_doOrders 86 = .ok (.aload_n 0, 1) := by decide +kernel
theorem dX4_doOrders_87 : decode cX4_doOrders 87 = .ok (.getfield 37, 3) := by decide +kernel
theorem dX4_doOrders_90 : decode cX4_doOrders 90 = .ok (.getfield 46, 3) := by decide +kernel
theorem dX4_doOrders_93 : decode cX4_doOrders 93 = .ok (.iload_n 1, 1) := by decide +kernel
theorem dX4_doOrders_94 : decode cX4_doOrders 94 = .ok (.aaload, 1) := by decide +kernel
theorem dX4_doOrders_95 : decode cX4_doOrders 95 = .ok (.iload_n 2, 1) := by decide +kernel
theorem dX4_doOrders_96 : decode cX4_doOrders 96 = .ok (.putfield 106, 3) := by decide +kernel
theorem dX4_doOrders_99 : decode cX4_doOrders 99 = .ok (.aload_n 0, 1) := by decide +kernel
theorem dX4_doOrders_100 : decode cX4_doOrders 100 = .ok (.getfield 37, 3) := by decide +kernel
theorem dX4_doOrders_103 : decode cX4_doOrders 103 = .ok (.getfield 46, 3) := by decide +kernel
theorem dX4_doOrders_106 : decode cX4_doOrders 106 = .ok (.iload_n 1, 1) := by decide +kernel
theorem dX4_doOrders_107 : decode cX4_doOrders 107 = .ok (.aaload, 1) := by decide +kernel
theorem dX4_doOrders_108 : decode cX4_doOrders 108 = .ok (.iload 4, 2) := by decide +kernel
theorem dX4_doOrders_110 : decode cX4_doOrders 110 = .ok (.iconst 1, 1) := by decide +kernel
theorem dX4_doOrders_111 : decode cX4_doOrders 111 = .ok (.iadd, 1) := by decide +kernel
theorem dX4_doOrders_112 : decode cX4_doOrders 112 = .ok (.putfield 109, 3) := by decide +kernel
theorem dX4_doOrders_115 : decode cX4_doOrders 115 = .ok (.return_, 1) := by decide +kernel
theorem dX4_doOrders_116 : decode cX4_doOrders 116 = .ok (.iinc 4 1, 3) := by decide +kernel
theorem dX4_doOrders_119 : decode cX4_doOrders 119 = .ok (.goto (-116), 3) := by decide +kernel
theorem dX4_doOrders_122 : decode cX4_doOrders 122 = .ok (.return_, 1) := by decide +kernel
theorem dX4_doOrder_0 : decode cX4_doOrder 0 = .ok (.aload_n 0, 1) := by decide +kernel
theorem dX4_doOrder_1 : decode cX4_doOrder 1 = .ok (.getfield 65, 3) := by decide +kernel
theorem dX4_doOrder_4 : decode cX4_doOrder 4 = .ok (.sipush 1000, 3) := by decide +kernel
theorem dX4_doOrder_7 : decode cX4_doOrder 7 = .ok (.if_icmp .lt 5, 3) := by decide +kernel
theorem dX4_doOrder_10 : decode cX4_doOrder 10 = .ok (.iconst 1, 1) := by decide +kernel
theorem dX4_doOrder_11 : decode cX4_doOrder 11 = .ok (.ireturn, 1) := by decide +kernel
theorem dX4_doOrder_12 : decode cX4_doOrder 12 = .ok (.aload_n 0, 1) := by decide +kernel
theorem dX4_doOrder_13 : decode cX4_doOrder 13 = .ok (.dup, 1) := by decide +kernel
theorem dX4_doOrder_14 : decode cX4_doOrder 14 = .ok (.getfield 65, 3) := by decide +kernel
theorem dX4_doOrder_17 : decode cX4_doOrder 17 = .ok (.iconst 1, 1) := by decide +kernel
theorem dX4_doOrder_18 : decode cX4_doOrder 18 = .ok (.iadd, 1) := by decide +kernel
theorem dX4_doOrder_19 : decode cX4_doOrder 19 = .ok (.putfield 65, 3) := by decide +kernel
theorem dX4_doOrder_22 : decode cX4_doOrder 22 = .ok (.aload_n 0, 1) := by decide +kernel
theorem dX4_doOrder_23 : decode cX4_doOrder 23 = .ok (.iload_n 2, 1) := by decide +kernel
theorem dX4_doOrder_24 : decode cX4_doOrder 24 = .ok (.iload_n 3, 1) := by decide +kernel
theorem dX4_doOrder_25 : decode cX4_doOrder 25 = .ok (.iload 4, 2) := by decide +kernel
theorem dX4_doOrder_27 : decode cX4_doOrder 27 = .ok (.invokevirtual 155, 3) := by decide +kernel
theorem dX4_doOrder_30 : decode cX4_doOrder 30 = .ok (.ifCond .ne 5, 3) := by decide +kernel
theorem dX4_doOrder_33 : decode cX4_doOrder 33 = .ok (.iconst 1, 1) := by decide +kernel
theorem dX4_doOrder_34 : decode cX4_doOrder 34 = .ok (.ireturn, 1) := by decide +kernel
theorem dX4_doOrder_35 : decode cX4_doOrder 35 = .ok (.iload_n 2, 1) := by decide +kernel
theorem dX4_doOrder_36 : decode cX4_doOrder 36 = .ok (.bipush 8, 2) := by decide +kernel
theorem dX4_doOrder_38 : decode cX4_doOrder 38 = .ok (.if_icmp .ne 10, 3) := by decide +kernel
theorem dX4_doOrder_41 : decode cX4_doOrder 41 = .ok (.aload_n 0, 1) := by decide +kernel
theorem dX4_doOrder_42 : decode cX4_doOrder 42 = .ok (.iload_n 1, 1) := by decide +kernel
theorem dX4_doOrder_43 : decode cX4_doOrder 43 = .ok (.iload_n 3, 1) := by decide +kernel
theorem dX4_doOrder_44 : decode cX4_doOrder 44 = .ok (.invokevirtual 159, 3) := by decide +kernel
theorem dX4_doOrder_47 : decode cX4_doOrder 47 = .ok (.ireturn, 1) := by decide +kernel
theorem dX4_doOrder_48 : decode cX4_doOrder 48 = .ok (.aload_n 0, 1) := by decide +kernel
theorem dX4_doOrder_49 : decode cX4_doOrder 49 = .ok (.iload_n 1, 1) := by decide +kernel
theorem dX4_doOrder_50 : decode cX4_doOrder 50 = .ok (.iload_n 2, 1) := by decide +kernel
theorem dX4_doOrder_51 : decode cX4_doOrder 51 = .ok (.iload_n 3, 1) := by decide +kernel
theorem dX4_doOrder_52 : decode cX4_doOrder 52 = .ok (.iload 4, 2) := by decide +kernel
theorem dX4_doOrder_54 : decode cX4_doOrder 54 = .ok (.invokevirtual 163, 3) := by decide +kernel
theorem dX4_doOrder_57 : decode cX4_doOrder 57 = .ok (.iconst 0, 1) := by decide +kernel
theorem dX4_doOrder_58 : decode cX4_doOrder 58 = .ok (.ireturn, 1) := by decide +kernel
theorem dX4_canDo_0 : decode cX4_canDo 0 = .ok (.iload_n 1, 1) := by decide +kernel
theorem dX4_canDo_1 : decode cX4_canDo 1 = .ok (.tableswitch 221 0 13 #[71, 73, 112, 133, 154, 154, 154, 163, 154, 221, 202, 202, 211, 154], 71) := by decide +kernel
theorem dX4_canDo_72 : decode cX4_canDo 72 = .ok (.iconst 1, 1) := by decide +kernel
theorem dX4_canDo_73 : decode cX4_canDo 73 = .ok (.ireturn, 1) := by decide +kernel
theorem dX4_canDo_74 : decode cX4_canDo 74 = .ok (.aload_n 0, 1) := by decide +kernel
theorem dX4_canDo_75 : decode cX4_canDo 75 = .ok (.getfield 12, 3) := by decide +kernel
theorem dX4_canDo_78 : decode cX4_canDo 78 = .ok (.iload_n 2, 1) := by decide +kernel
theorem dX4_canDo_79 : decode cX4_canDo 79 = .ok (.invokevirtual 167, 3) := by decide +kernel
theorem dX4_canDo_82 : decode cX4_canDo 82 = .ok (.ifCond .eq 29, 3) := by decide +kernel
theorem dX4_canDo_85 : decode cX4_canDo 85 = .ok (.iload_n 3, 1) := by decide +kernel
theorem dX4_canDo_86 : decode cX4_canDo 86 = .ok (.iconst (-1), 1) := by decide +kernel
theorem dX4_canDo_87 : decode cX4_canDo 87 = .ok (.if_icmp .eq 20, 3) := by decide +kernel
theorem dX4_canDo_90 : decode cX4_canDo 90 = .ok (.iload_n 3, 1) := by decide +kernel
theorem dX4_canDo_91 : decode cX4_canDo 91 = .ok (.bipush (-2), 2) := by decide +kernel
theorem dX4_canDo_93 : decode cX4_canDo 93 = .ok (.if_icmp .eq 14, 3) := by decide +kernel
theorem dX4_canDo_96 : decode cX4_canDo 96 = .ok (.aload_n 0, 1) := by decide +kernel
theorem dX4_canDo_97 : decode cX4_canDo 97 = .ok (.getfield 37, 3) := by decide +kernel
theorem dX4_canDo_100 : decode cX4_canDo 100 = .ok (.iload_n 3, 1) := by decide +kernel
theorem dX4_canDo_101 : decode cX4_canDo 101 = .ok (.invokevirtual 170, 3) := by decide +kernel
theorem dX4_canDo_104 : decode cX4_canDo 104 = .ok (.ifCond .eq 7, 3) := by decide +kernel
theorem dX4_canDo_107 : decode cX4_canDo 107 = .ok (.iconst 1, 1) := by decide +kernel
theorem dX4_canDo_108 : decode cX4_canDo 108 = .ok (.goto 4, 3) := by decide +kernel
theorem dX4_canDo_111 : decode cX4_canDo 111 = .ok (.iconst 0, 1) := by decide +kernel
theorem dX4_canDo_112 : decode cX4_canDo 112 = .ok (.ireturn, 1) := by decide +kernel
theorem dX4_canDo_113 : decode cX4_canDo 113 = .ok (.aload_n 0, 1) := by decide +kernel
theorem dX4_canDo_114 : decode cX4_canDo 114 = .ok (.getfield 12, 3) := by decide +kernel
theorem dX4_canDo_117 : decode cX4_canDo 117 = .ok (.iload_n 2, 1) := by decide +kernel
theorem dX4_canDo_118 : decode cX4_canDo 118 = .ok (.invokevirtual 167, 3) := by decide +kernel
theorem dX4_canDo_121 : decode cX4_canDo 121 = .ok (.ifCond .eq 11, 3) := by decide +kernel
theorem dX4_canDo_124 : decode cX4_canDo 124 = .ok (.iload_n 3, 1) := by decide +kernel
theorem dX4_canDo_125 : decode cX4_canDo 125 = .ok (.ifCond .lt 7, 3) := by decide +kernel
theorem dX4_canDo_128 : decode cX4_canDo 128 = .ok (.iconst 1, 1) := by decide +kernel
theorem dX4_canDo_129 : decode cX4_canDo 129 = .ok (.goto 4, 3) := by decide +kernel
theorem dX4_canDo_132 : decode cX4_canDo 132 = .ok (.iconst 0, 1) := by decide +kernel
theorem dX4_canDo_133 : decode cX4_canDo 133 = .ok (.ireturn, 1) := by decide +kernel
theorem dX4_canDo_134 : decode cX4_canDo 134 = .ok (.iload_n 2, 1) := by decide +kernel
theorem dX4_canDo_135 : decode cX4_canDo 135 = .ok (.ifCond .lt 18, 3) := by decide +kernel
theorem dX4_canDo_138 : decode cX4_canDo 138 = .ok (.iload_n 2, 1) := by decide +kernel
theorem dX4_canDo_139 : decode cX4_canDo 139 = .ok (.aload_n 0, 1) := by decide +kernel
theorem dX4_canDo_140 : decode cX4_canDo 140 = .ok (.getfield 37, 3) := by decide +kernel
theorem dX4_canDo_143 : decode cX4_canDo 143 = .ok (.getfield 171, 3) := by decide +kernel
theorem dX4_canDo_146 : decode cX4_canDo 146 = .ok (.if_icmp .ge 7, 3) := by decide +kernel
theorem dX4_canDo_149 : decode cX4_canDo 149 = .ok (.iconst 1, 1) := by decide +kernel
theorem dX4_canDo_150 : decode cX4_canDo 150 = .ok (.goto 4, 3) := by decide +kernel
theorem dX4_canDo_153 : decode cX4_canDo 153 = .ok (.iconst 0, 1) := by decide +kernel
theorem dX4_canDo_154 : decode cX4_canDo 154 = .ok (.ireturn, 1) := by decide +kernel
theorem dX4_canDo_155 : decode cX4_canDo 155 = .ok (.aload_n 0, 1) := by decide +kernel
theorem dX4_canDo_156 : decode cX4_canDo 156 = .ok (.getfield 21, 3) := by decide +kernel
theorem dX4_canDo_159 : decode cX4_canDo 159 = .ok (.iload_n 2, 1) := by decide +kernel
theorem dX4_canDo_160 : decode cX4_canDo 160 = .ok (.invokevirtual 174, 3) := by decide +kernel
theorem dX4_canDo_163 : decode cX4_canDo 163 = .ok (.ireturn, 1) := by decide +kernel
theorem dX4_canDo_164 : decode cX4_canDo 164 = .ok (.aload_n 0, 1) := by decide +kernel
theorem dX4_canDo_165 : decode cX4_canDo 165 = .ok (.getfield 21, 3) := by decide +kernel
theorem dX4_canDo_168 : decode cX4_canDo 168 = .ok (.iload_n 2, 1) := by decide +kernel
theorem dX4_canDo_169 : decode cX4_canDo 169 = .ok (.invokevirtual 174, 3) := by decide +kernel
theorem dX4_canDo_172 : decode cX4_canDo 172 = .ok (.ifCond .eq 29, 3) := by decide +kernel
theorem dX4_canDo_175 : decode cX4_canDo 175 = .ok (.aload_n 0, 1) := by decide +kernel
theorem dX4_canDo_176 : decode cX4_canDo 176 = .ok (.getfield 12, 3) := by decide +kernel
theorem dX4_canDo_179 : decode cX4_canDo 179 = .ok (.iload_n 3, 1) := by decide +kernel
theorem dX4_canDo_180 : decode cX4_canDo 180 = .ok (.invokevirtual 167, 3) := by decide +kernel
theorem dX4_canDo_183 : decode cX4_canDo 183 = .ok (.ifCond .eq 18, 3) := by decide +kernel
theorem dX4_canDo_186 : decode cX4_canDo 186 = .ok (.aload_n 0, 1) := by decide +kernel
theorem dX4_canDo_187 : decode cX4_canDo 187 = .ok (.getfield 21, 3) := by decide +kernel
theorem dX4_canDo_190 : decode cX4_canDo 190 = .ok (.iload_n 2, 1) := by decide +kernel
theorem dX4_canDo_191 : decode cX4_canDo 191 = .ok (.invokevirtual 175, 3) := by decide +kernel
theorem dX4_canDo_194 : decode cX4_canDo 194 = .ok (.ifCond .eq 7, 3) := by decide +kernel
theorem dX4_canDo_197 : decode cX4_canDo 197 = .ok (.iconst 1, 1) := by decide +kernel
theorem dX4_canDo_198 : decode cX4_canDo 198 = .ok (.goto 4, 3) := by decide +kernel
theorem dX4_canDo_201 : decode cX4_canDo 201 = .ok (.iconst 0, 1) := by decide +kernel
theorem dX4_canDo_202 : decode cX4_canDo 202 = .ok (.ireturn, 1) := by decide +kernel
theorem dX4_canDo_203 : decode cX4_canDo 203 = .ok (.aload_n 0, 1) := by decide +kernel
theorem dX4_canDo_204 : decode cX4_canDo 204 = .ok (.getfield 28, 3) := by decide +kernel
theorem dX4_canDo_207 : decode cX4_canDo 207 = .ok (.iload_n 2, 1) := by decide +kernel
theorem dX4_canDo_208 : decode cX4_canDo 208 = .ok (.invokevirtual 178, 3) := by decide +kernel
theorem dX4_canDo_211 : decode cX4_canDo 211 = .ok (.ireturn, 1) := by decide +kernel
theorem dX4_canDo_212 : decode cX4_canDo 212 = .ok (.aload_n 0, 1) := by decide +kernel
theorem dX4_canDo_213 : decode cX4_canDo 213 = .ok (.getfield 37, 3) := by decide +kernel
theorem dX4_canDo_216 : decode cX4_canDo 216 = .ok (.iload_n 2, 1) := by decide +kernel
theorem dX4_canDo_217 : decode cX4_canDo 217 = .ok (.iload_n 3, 1) := by decide +kernel
theorem dX4_canDo_218 : decode cX4_canDo 218 = .ok (.invokevirtual 179, 3) := by decide +kernel
theorem dX4_canDo_221 : decode cX4_canDo 221 = .ok (.ireturn, 1) := by decide +kernel
theorem dX4_canDo_222 : decode cX4_canDo 222 = .ok (.iconst 0, 1) := by decide +kernel
theorem dX4_canDo_223 : decode cX4_canDo 223 = .ok (.ireturn, 1) := by decide +kernel
theorem dX4_await_0 : decode cX4_await 0 = .ok (.aload_n 0, 1) := by decide +kernel
theorem dX4_await_1 : decode cX4_await 1 = .ok (.getfield 21, 3) := by decide +kernel
theorem dX4_await_4 : decode cX4_await 4 = .ok (.iload_n 2, 1) := by decide +kernel
theorem dX4_await_5 : decode cX4_await 5 = .ok (.invokevirtual 97, 3) := by decide +kernel
theorem dX4_await_8 : decode cX4_await 8 = .ok (.ifCond .ne 5, 3) := by decide +kernel
theorem dX4_await_11 : decode cX4_await 11 = .ok (.iconst 0, 1) := by decide +kernel
theorem dX4_await_12 : decode cX4_await 12 = .ok (.ireturn, 1) := by decide +kernel
theorem dX4_await_13 : decode cX4_await 13 = .ok (.aload_n 0, 1) := by decide +kernel
theorem dX4_await_14 : decode cX4_await 14 = .ok (.getfield 183, 3) := by decide +kernel
theorem dX4_await_17 : decode cX4_await 17 = .ok (.ifCond .gt 23, 3) := by decide +kernel
theorem dX4_await_20 : decode cX4_await 20 = .ok (.aload_n 0, 1) := by decide +kernel
theorem dX4_await_21 : decode cX4_await 21 = .ok (.getfield 186, 3) := by decide +kernel
theorem dX4_await_24 : decode cX4_await 24 = .ok (.ifCond .gt 16, 3) := by decide +kernel
theorem dX4_await_27 : decode cX4_await 27 = .ok (.aload_n 0, 1) := by decide +kernel
theorem dX4_await_28 : decode cX4_await 28 = .ok (.getfield 21, 3) := by decide +kernel
theorem dX4_await_31 : decode cX4_await 31 = .ok (.getfield 189, 3) := by decide +kernel
theorem dX4_await_34 : decode cX4_await 34 = .ok (.iload_n 2, 1) := by decide +kernel
theorem dX4_await_35 : decode cX4_await 35 = .ok (.iaload, 1) := by decide +kernel
theorem dX4_await_36 : decode cX4_await 36 = .ok (.iload_n 1, 1) := by decide +kernel
theorem dX4_await_37 : decode cX4_await 37 = .ok (.if_icmp .ne 15, 3) := by decide +kernel
theorem dX4_await_40 : decode cX4_await 40 = .ok (.aload_n 0, 1) := by decide +kernel
theorem dX4_await_41 : decode cX4_await 41 = .ok (.getfield 45, 3) := by decide +kernel
theorem dX4_await_44 : decode cX4_await 44 = .ok (.iload_n 1, 1) := by decide +kernel
theorem dX4_await_45 : decode cX4_await 45 = .ok (.iconst 3, 1) := by decide +kernel
theorem dX4_await_46 : decode cX4_await 46 = .ok (.iload_n 2, 1) := by decide +kernel
theorem dX4_await_47 : decode cX4_await 47 = .ok (.invokevirtual 102, 3) := by decide +kernel
theorem dX4_await_50 : decode cX4_await 50 = .ok (.iconst 0, 1) := by decide +kernel
theorem dX4_await_51 : decode cX4_await 51 = .ok (.ireturn, 1) := by decide +kernel
theorem dX4_await_52 : decode cX4_await 52 = .ok (.aload_n 0, 1) := by decide +kernel
theorem dX4_await_53 : decode cX4_await 53 = .ok (.getfield 37, 3) := by decide +kernel
theorem dX4_await_56 : decode cX4_await 56 = .ok (.getfield 46, 3) := by decide +kernel
theorem dX4_await_59 : decode cX4_await 59 = .ok (.iload_n 1, 1) := by decide +kernel
theorem dX4_await_60 : decode cX4_await 60 = .ok (.aaload, 1) := by decide +kernel
theorem dX4_await_61 : decode cX4_await 61 = .ok (.iload_n 2, 1) := by decide +kernel
theorem dX4_await_62 : decode cX4_await 62 = .ok (.putfield 68, 3) := by decide +kernel
theorem dX4_await_65 : decode cX4_await 65 = .ok (.iconst 2, 1) := by decide +kernel
theorem dX4_await_66 : decode cX4_await 66 = .ok (.ireturn, 1) := by decide +kernel
theorem dX4_carryOut_0 : decode cX4_carryOut 0 = .ok (.iload_n 2, 1) := by decide +kernel
theorem dX4_carryOut_1 : decode cX4_carryOut 1 = .ok (.tableswitch 240 0 13 #[71, 84, 106, 122, 134, 147, 160, 173, 240, 240, 184, 196, 215, 228], 71) := by decide +kernel
theorem dX4_carryOut_72 : decode cX4_carryOut 72 = .ok (.aload_n 0, 1) := by decide +kernel
theorem dX4_carryOut_73 : decode cX4_carryOut 73 = .ok (.getfield 45, 3) := by decide +kernel
theorem dX4_carryOut_76 : decode cX4_carryOut 76 = .ok (.iload_n 1, 1) := by decide +kernel
theorem dX4_carryOut_77 : decode cX4_carryOut 77 = .ok (.iconst 0, 1) := by decide +kernel
theorem dX4_carryOut_78 : decode cX4_carryOut 78 = .ok (.iload_n 3, 1) := by decide +kernel
theorem dX4_carryOut_79 : decode cX4_carryOut 79 = .ok (.invokevirtual 102, 3) := by decide +kernel
theorem dX4_carryOut_82 : decode cX4_carryOut 82 = .ok (.goto 159, 3) := by decide +kernel
theorem dX4_carryOut_85 : decode cX4_carryOut 85 = .ok (.aload_n 0, 1) := by decide +kernel
theorem dX4_carryOut_86 : decode cX4_carryOut 86 = .ok (.getfield 37, 3) := by decide +kernel
theorem dX4_carryOut_89 : decode cX4_carryOut 89 = .ok (.iload_n 1, 1) := by decide +kernel
theorem dX4_carryOut_90 : decode cX4_carryOut 90 = .ok (.aload_n 0, 1) := by decide +kernel
theorem dX4_carryOut_91 : decode cX4_carryOut 91 = .ok (.iload_n 1, 1) := by decide +kernel
theorem dX4_carryOut_92 : decode cX4_carryOut 92 = .ok (.iload 4, 2) := by decide +kernel
theorem dX4_carryOut_94 : decode cX4_carryOut 94 = .ok (.invokevirtual 192, 3) := by decide +kernel
theorem dX4_carryOut_97 : decode cX4_carryOut 97 = .ok (.iconst 0, 1) := by decide +kernel
theorem dX4_carryOut_98 : decode cX4_carryOut 98 = .ok (.iload_n 3, 1) := by decide +kernel
theorem dX4_carryOut_99 : decode cX4_carryOut 99 = .ok (.iconst 0, 1) := by decide +kernel
theorem dX4_carryOut_100 : decode cX4_carryOut 100 = .ok (.invokevirtual 195, 3) := by decide +kernel
theorem dX4_carryOut_103 : decode cX4_carryOut 103 = .ok (.pop, 1) := by decide +kernel
theorem dX4_carryOut_104 : decode cX4_carryOut 104 = .ok (.goto 137, 3) := by decide +kernel
theorem dX4_carryOut_107 : decode cX4_carryOut 107 = .ok (.aload_n 0, 1) := by decide +kernel
theorem dX4_carryOut_108 : decode cX4_carryOut 108 = .ok (.getfield 37, 3) := by decide +kernel
theorem dX4_carryOut_111 : decode cX4_carryOut 111 = .ok (.iload_n 1, 1) := by decide +kernel
theorem dX4_carryOut_112 : decode cX4_carryOut 112 = .ok (.iload_n 1, 1) := by decide +kernel
theorem dX4_carryOut_113 : decode cX4_carryOut 113 = .ok (.iload_n 3, 1) := by decide +kernel
theorem dX4_carryOut_114 : decode cX4_carryOut 114 = .ok (.iload 4, 2) := by decide +kernel
theorem dX4_carryOut_116 : decode cX4_carryOut 116 = .ok (.invokevirtual 199, 3) := by decide +kernel
theorem dX4_carryOut_119 : decode cX4_carryOut 119 = .ok (.pop, 1) := by decide +kernel
theorem dX4_carryOut_120 : decode cX4_carryOut 120 = .ok (.goto 121, 3) := by decide +kernel
theorem dX4_carryOut_123 : decode cX4_carryOut 123 = .ok (.aload_n 0, 1) := by decide +kernel
theorem dX4_carryOut_124 : decode cX4_carryOut 124 = .ok (.getfield 37, 3) := by decide +kernel
theorem dX4_carryOut_127 : decode cX4_carryOut 127 = .ok (.iload_n 3, 1) := by decide +kernel
theorem dX4_carryOut_128 : decode cX4_carryOut 128 = .ok (.invokevirtual 202, 3) := by decide +kernel
theorem dX4_carryOut_131 : decode cX4_carryOut 131 = .ok (.pop, 1) := by decide +kernel
theorem dX4_carryOut_132 : decode cX4_carryOut 132 = .ok (.goto 109, 3) := by decide +kernel
theorem dX4_carryOut_135 : decode cX4_carryOut 135 = .ok (.aload_n 0, 1) := by decide +kernel
theorem dX4_carryOut_136 : decode cX4_carryOut 136 = .ok (.iload_n 1, 1) := by decide +kernel
theorem dX4_carryOut_137 : decode cX4_carryOut 137 = .ok (.iload_n 3, 1) := by decide +kernel
theorem dX4_carryOut_138 : decode cX4_carryOut 138 = .ok (.iconst 1, 1) := by decide +kernel
theorem dX4_carryOut_139 : decode cX4_carryOut 139 = .ok (.iload 4, 2) := by decide +kernel
theorem dX4_carryOut_141 : decode cX4_carryOut 141 = .ok (.invokevirtual 205, 3) := by decide +kernel
theorem dX4_carryOut_144 : decode cX4_carryOut 144 = .ok (.pop, 1) := by decide +kernel
theorem dX4_carryOut_145 : decode cX4_carryOut 145 = .ok (.goto 96, 3) := by decide +kernel
theorem dX4_carryOut_148 : decode cX4_carryOut 148 = .ok (.aload_n 0, 1) := by decide +kernel
theorem dX4_carryOut_149 : decode cX4_carryOut 149 = .ok (.iload_n 1, 1) := by decide +kernel
theorem dX4_carryOut_150 : decode cX4_carryOut 150 = .ok (.iload_n 3, 1) := by decide +kernel
theorem dX4_carryOut_151 : decode cX4_carryOut 151 = .ok (.iconst 2, 1) := by decide +kernel
theorem dX4_carryOut_152 : decode cX4_carryOut 152 = .ok (.iload 4, 2) := by decide +kernel
theorem dX4_carryOut_154 : decode cX4_carryOut 154 = .ok (.invokevirtual 205, 3) := by decide +kernel
theorem dX4_carryOut_157 : decode cX4_carryOut 157 = .ok (.pop, 1) := by decide +kernel
theorem dX4_carryOut_158 : decode cX4_carryOut 158 = .ok (.goto 83, 3) := by decide +kernel
theorem dX4_carryOut_161 : decode cX4_carryOut 161 = .ok (.aload_n 0, 1) := by decide +kernel
theorem dX4_carryOut_162 : decode cX4_carryOut 162 = .ok (.iload_n 1, 1) := by decide +kernel
theorem dX4_carryOut_163 : decode cX4_carryOut 163 = .ok (.iload_n 3, 1) := by decide +kernel
theorem dX4_carryOut_164 : decode cX4_carryOut 164 = .ok (.iconst 3, 1) := by decide +kernel
theorem dX4_carryOut_165 : decode cX4_carryOut 165 = .ok (.iload 4, 2) := by decide +kernel
theorem dX4_carryOut_167 : decode cX4_carryOut 167 = .ok (.invokevirtual 205, 3) := by decide +kernel
theorem dX4_carryOut_170 : decode cX4_carryOut 170 = .ok (.pop, 1) := by decide +kernel
theorem dX4_carryOut_171 : decode cX4_carryOut 171 = .ok (.goto 70, 3) := by decide +kernel
theorem dX4_carryOut_174 : decode cX4_carryOut 174 = .ok (.aload_n 0, 1) := by decide +kernel
theorem dX4_carryOut_175 : decode cX4_carryOut 175 = .ok (.iload_n 1, 1) := by decide +kernel
theorem dX4_carryOut_176 : decode cX4_carryOut 176 = .ok (.iload_n 3, 1) := by decide +kernel
theorem dX4_carryOut_177 : decode cX4_carryOut 177 = .ok (.iload 4, 2) := by decide +kernel
theorem dX4_carryOut_179 : decode cX4_carryOut 179 = .ok (.invokevirtual 209, 3) := by decide +kernel
theorem dX4_carryOut_182 : decode cX4_carryOut 182 = .ok (.goto 59, 3) := by decide +kernel
theorem dX4_carryOut_185 : decode cX4_carryOut 185 = .ok (.aload_n 0, 1) := by decide +kernel
theorem dX4_carryOut_186 : decode cX4_carryOut 186 = .ok (.iload_n 1, 1) := by decide +kernel
theorem dX4_carryOut_187 : decode cX4_carryOut 187 = .ok (.iload_n 3, 1) := by decide +kernel
theorem dX4_carryOut_188 : decode cX4_carryOut 188 = .ok (.iload 4, 2) := by decide +kernel
theorem dX4_carryOut_190 : decode cX4_carryOut 190 = .ok (.invokevirtual 212, 3) := by decide +kernel
theorem dX4_carryOut_193 : decode cX4_carryOut 193 = .ok (.pop, 1) := by decide +kernel
theorem dX4_carryOut_194 : decode cX4_carryOut 194 = .ok (.goto 47, 3) := by decide +kernel
theorem dX4_carryOut_197 : decode cX4_carryOut 197 = .ok (.aload_n 0, 1) := by decide +kernel
theorem dX4_carryOut_198 : decode cX4_carryOut 198 = .ok (.iload_n 1, 1) := by decide +kernel
theorem dX4_carryOut_199 : decode cX4_carryOut 199 = .ok (.aload_n 0, 1) := by decide +kernel
theorem dX4_carryOut_200 : decode cX4_carryOut 200 = .ok (.getfield 28, 3) := by decide +kernel
theorem dX4_carryOut_203 : decode cX4_carryOut 203 = .ok (.iload_n 3, 1) := by decide +kernel
theorem dX4_carryOut_204 : decode cX4_carryOut 204 = .ok (.invokevirtual 215, 3) := by decide +kernel
theorem dX4_carryOut_207 : decode cX4_carryOut 207 = .ok (.iload 4, 2) := by decide +kernel
theorem dX4_carryOut_209 : decode cX4_carryOut 209 = .ok (.invokevirtual 212, 3) := by decide +kernel
theorem dX4_carryOut_212 : decode cX4_carryOut 212 = .ok (.pop, 1) := by decide +kernel
theorem dX4_carryOut_213 : decode cX4_carryOut 213 = .ok (.goto 28, 3) := by decide +kernel
theorem dX4_carryOut_216 : decode cX4_carryOut 216 = .ok (.aload_n 0, 1) := by decide +kernel
theorem dX4_carryOut_217 : decode cX4_carryOut 217 = .ok (.getfield 37, 3) := by decide +kernel
theorem dX4_carryOut_220 : decode cX4_carryOut 220 = .ok (.iload_n 3, 1) := by decide +kernel
theorem dX4_carryOut_221 : decode cX4_carryOut 221 = .ok (.iload 4, 2) := by decide +kernel
theorem dX4_carryOut_223 : decode cX4_carryOut 223 = .ok (.invokevirtual 219, 3) := by decide +kernel
theorem dX4_carryOut_226 : decode cX4_carryOut 226 = .ok (.goto 15, 3) := by decide +kernel
theorem dX4_carryOut_229 : decode cX4_carryOut 229 = .ok (.aload_n 0, 1) := by decide +kernel
theorem dX4_carryOut_230 : decode cX4_carryOut 230 = .ok (.getfield 21, 3) := by decide +kernel
theorem dX4_carryOut_233 : decode cX4_carryOut 233 = .ok (.iload_n 3, 1) := by decide +kernel
theorem dX4_carryOut_234 : decode cX4_carryOut 234 = .ok (.invokevirtual 223, 3) := by decide +kernel
theorem dX4_carryOut_237 : decode cX4_carryOut 237 = .ok (.pop, 1) := by decide +kernel
theorem dX4_carryOut_238 : decode cX4_carryOut 238 = .ok (.goto 3, 3) := by decide +kernel
theorem dX4_carryOut_241 : decode cX4_carryOut 241 = .ok (.return_, 1) := by decide +kernel
theorem dX4_targetOf_0 : decode cX4_targetOf 0 = .ok (.iload_n 2, 1) := by decide +kernel
theorem dX4_targetOf_1 : decode cX4_targetOf 1 = .ok (.iconst (-1), 1) := by decide +kernel
theorem dX4_targetOf_2 : decode cX4_targetOf 2 = .ok (.if_icmp .ne 5, 3) := by decide +kernel
theorem dX4_targetOf_5 : decode cX4_targetOf 5 = .ok (.iload_n 1, 1) := by decide +kernel
theorem dX4_targetOf_6 : decode cX4_targetOf 6 = .ok (.ireturn, 1) := by decide +kernel
theorem dX4_targetOf_7 : decode cX4_targetOf 7 = .ok (.iload_n 2, 1) := by decide +kernel
theorem dX4_targetOf_8 : decode cX4_targetOf 8 = .ok (.bipush (-2), 2) := by decide +kernel
theorem dX4_targetOf_10 : decode cX4_targetOf 10 = .ok (.if_icmp .ne 13, 3) := by decide +kernel
theorem dX4_targetOf_13 : decode cX4_targetOf 13 = .ok (.aload_n 0, 1) := by decide +kernel
theorem dX4_targetOf_14 : decode cX4_targetOf 14 = .ok (.getfield 37, 3) := by decide +kernel
theorem dX4_targetOf_17 : decode cX4_targetOf 17 = .ok (.invokevirtual 226, 3) := by decide +kernel
theorem dX4_targetOf_20 : decode cX4_targetOf 20 = .ok (.goto 4, 3) := by decide +kernel
theorem dX4_targetOf_23 : decode cX4_targetOf 23 = .ok (.iload_n 2, 1) := by decide +kernel
theorem dX4_targetOf_24 : decode cX4_targetOf 24 = .ok (.ireturn, 1) := by decide +kernel
theorem dX4_settle_0 : decode cX4_settle 0 = .ok (.aload_n 0, 1) := by decide +kernel
theorem dX4_settle_1 : decode cX4_settle 1 = .ok (.getfield 21, 3) := by decide +kernel
theorem dX4_settle_4 : decode cX4_settle 4 = .ok (.iload_n 2, 1) := by decide +kernel
theorem dX4_settle_5 : decode cX4_settle 5 = .ok (.iload_n 3, 1) := by decide +kernel
theorem dX4_settle_6 : decode cX4_settle 6 = .ok (.iload 4, 2) := by decide +kernel
theorem dX4_settle_8 : decode cX4_settle 8 = .ok (.invokevirtual 230, 3) := by decide +kernel
theorem dX4_settle_11 : decode cX4_settle 11 = .ok (.ifCond .ne 5, 3) := by decide +kernel
theorem dX4_settle_14 : decode cX4_settle 14 = .ok (.iconst 0, 1) := by decide +kernel
theorem dX4_settle_15 : decode cX4_settle 15 = .ok (.ireturn, 1) := by decide +kernel
theorem dX4_settle_16 : decode cX4_settle 16 = .ok (.aload_n 0, 1) := by decide +kernel
theorem dX4_settle_17 : decode cX4_settle 17 = .ok (.getfield 21, 3) := by decide +kernel
theorem dX4_settle_20 : decode cX4_settle 20 = .ok (.getfield 233, 3) := by decide +kernel
theorem dX4_settle_23 : decode cX4_settle 23 = .ok (.iload_n 2, 1) := by decide +kernel
theorem dX4_settle_24 : decode cX4_settle 24 = .ok (.iaload, 1) := by decide +kernel
theorem dX4_settle_25 : decode cX4_settle 25 = .ok (.istore 5, 2) := by decide +kernel
theorem dX4_settle_27 : decode cX4_settle 27 = .ok (.aload_n 0, 1) := by decide +kernel
theorem dX4_settle_28 : decode cX4_settle 28 = .ok (.getfield 21, 3) := by decide +kernel
theorem dX4_settle_31 : decode cX4_settle 31 = .ok (.getfield 233, 3) := by decide +kernel
theorem dX4_settle_34 : decode cX4_settle 34 = .ok (.iload_n 2, 1) := by decide +kernel
theorem dX4_settle_35 : decode cX4_settle 35 = .ok (.iconst 0, 1) := by decide +kernel
theorem dX4_settle_36 : decode cX4_settle 36 = .ok (.iastore, 1) := by decide +kernel
theorem dX4_settle_37 : decode cX4_settle 37 = .ok (.iconst 0, 1) := by decide +kernel
theorem dX4_settle_38 : decode cX4_settle 38 = .ok (.istore 6, 2) := by decide +kernel
theorem dX4_settle_40 : decode cX4_settle 40 = .ok (.iload 6, 2) := by decide +kernel
theorem dX4_settle_42 : decode cX4_settle 42 = .ok (.iload 5, 2) := by decide +kernel
theorem dX4_settle_44 : decode cX4_settle 44 = .ok (.if_icmp .ge 30, 3) := by decide +kernel
theorem dX4_settle_47 : decode cX4_settle 47 = .ok (.aload_n 0, 1) := by decide +kernel
theorem dX4_settle_48 : decode cX4_settle 48 = .ok (.iload_n 1, 1) := by decide +kernel
theorem dX4_settle_49 : decode cX4_settle 49 = .ok (.iload_n 2, 1) := by decide +kernel
theorem dX4_settle_50 : decode cX4_settle 50 = .ok (.aload_n 0, 1) := by decide +kernel
theorem dX4_settle_51 : decode cX4_settle 51 = .ok (.getfield 21, 3) := by decide +kernel
theorem dX4_settle_54 : decode cX4_settle 54 = .ok (.getfield 236, 3) := by decide +kernel
theorem dX4_settle_57 : decode cX4_settle 57 = .ok (.iload_n 2, 1) := by decide +kernel
theorem dX4_settle_58 : decode cX4_settle 58 = .ok (.bipush 6, 2) := by decide +kernel
theorem dX4_settle_60 : decode cX4_settle 60 = .ok (.imul, 1) := by decide +kernel
theorem dX4_settle_61 : decode cX4_settle 61 = .ok (.iload 6, 2) := by decide +kernel
theorem dX4_settle_63 : decode cX4_settle 63 = .ok (.iadd, 1) := by decide +kernel
theorem dX4_settle_64 : decode cX4_settle 64 = .ok (.iaload, 1) := by decide +kernel
theorem dX4_settle_65 : decode cX4_settle 65 = .ok (.invokevirtual 239, 3) := by decide +kernel
theorem dX4_settle_68 : decode cX4_settle 68 = .ok (.iinc 6 1, 3) := by decide +kernel
theorem dX4_settle_71 : decode cX4_settle 71 = .ok (.goto (-31), 3) := by decide +kernel
theorem dX4_settle_74 : decode cX4_settle 74 = .ok (.iconst 1, 1) := by decide +kernel
theorem dX4_settle_75 : decode cX4_settle 75 = .ok (.ireturn, 1) := by decide +kernel
theorem dX4_addListener_0 : decode cX4_addListener 0 = .ok (.aload_n 0, 1) := by decide +kernel
theorem dX4_addListener_1 : decode cX4_addListener 1 = .ok (.getfield 21, 3) := by decide +kernel
theorem dX4_addListener_4 : decode cX4_addListener 4 = .ok (.iload_n 2, 1) := by decide +kernel
theorem dX4_addListener_5 : decode cX4_addListener 5 = .ok (.invokevirtual 97, 3) := by decide +kernel
theorem dX4_addListener_8 : decode cX4_addListener 8 = .ok (.ifCond .eq 15, 3) := by decide +kernel
theorem dX4_addListener_11 : decode cX4_addListener 11 = .ok (.aload_n 0, 1) := by decide +kernel
theorem dX4_addListener_12 : decode cX4_addListener 12 = .ok (.getfield 21, 3) := by decide +kernel
theorem dX4_addListener_15 : decode cX4_addListener 15 = .ok (.iload_n 2, 1) := by decide +kernel
theorem dX4_addListener_16 : decode cX4_addListener 16 = .ok (.iload_n 3, 1) := by decide +kernel
theorem dX4_addListener_17 : decode cX4_addListener 17 = .ok (.invokevirtual 242, 3) := by decide +kernel
theorem dX4_addListener_20 : decode cX4_addListener 20 = .ok (.goto 10, 3) := by decide +kernel
theorem dX4_addListener_23 : decode cX4_addListener 23 = .ok (.aload_n 0, 1) := by decide +kernel
theorem dX4_addListener_24 : decode cX4_addListener 24 = .ok (.iload_n 1, 1) := by decide +kernel
theorem dX4_addListener_25 : decode cX4_addListener 25 = .ok (.iload_n 2, 1) := by decide +kernel
theorem dX4_addListener_26 : decode cX4_addListener 26 = .ok (.iload_n 3, 1) := by decide +kernel
theorem dX4_addListener_27 : decode cX4_addListener 27 = .ok (.invokevirtual 239, 3) := by decide +kernel
theorem dX4_addListener_30 : decode cX4_addListener 30 = .ok (.return_, 1) := by decide +kernel
theorem dX4_tell_0 : decode cX4_tell 0 = .ok (.aload_n 0, 1) := by decide +kernel
theorem dX4_tell_1 : decode cX4_tell 1 = .ok (.getfield 21, 3) := by decide +kernel
theorem dX4_tell_4 : decode cX4_tell 4 = .ok (.getfield 189, 3) := by decide +kernel
theorem dX4_tell_7 : decode cX4_tell 7 = .ok (.iload_n 2, 1) := by decide +kernel
theorem dX4_tell_8 : decode cX4_tell 8 = .ok (.iaload, 1) := by decide +kernel
theorem dX4_tell_9 : decode cX4_tell 9 = .ok (.istore 4, 2) := by decide +kernel
theorem dX4_tell_11 : decode cX4_tell 11 = .ok (.iload_n 1, 1) := by decide +kernel
theorem dX4_tell_12 : decode cX4_tell 12 = .ok (.iload 4, 2) := by decide +kernel
theorem dX4_tell_14 : decode cX4_tell 14 = .ok (.if_icmp .ne 11, 3) := by decide +kernel
theorem dX4_tell_17 : decode cX4_tell 17 = .ok (.aload_n 0, 1) := by decide +kernel
theorem dX4_tell_18 : decode cX4_tell 18 = .ok (.getfield 183, 3) := by decide +kernel
theorem dX4_tell_21 : decode cX4_tell 21 = .ok (.iconst 4, 1) := by decide +kernel
theorem dX4_tell_22 : decode cX4_tell 22 = .ok (.if_icmp .lt 18, 3) := by decide +kernel
theorem dX4_tell_25 : decode cX4_tell 25 = .ok (.aload_n 0, 1) := by decide +kernel
theorem dX4_tell_26 : decode cX4_tell 26 = .ok (.getfield 37, 3) := by decide +kernel
theorem dX4_tell_29 : decode cX4_tell 29 = .ok (.iload_n 1, 1) := by decide +kernel
theorem dX4_tell_30 : decode cX4_tell 30 = .ok (.iload 4, 2) := by decide +kernel
theorem dX4_tell_32 : decode cX4_tell 32 = .ok (.iconst 1, 1) := by decide +kernel
theorem dX4_tell_33 : decode cX4_tell 33 = .ok (.iload_n 3, 1) := by decide +kernel
theorem dX4_tell_34 : decode cX4_tell 34 = .ok (.iconst 0, 1) := by decide +kernel
theorem dX4_tell_35 : decode cX4_tell 35 = .ok (.invokevirtual 195, 3) := by decide +kernel
theorem dX4_tell_38 : decode cX4_tell 38 = .ok (.pop, 1) := by decide +kernel
theorem dX4_tell_39 : decode cX4_tell 39 = .ok (.return_, 1) := by decide +kernel
theorem dX4_tell_40 : decode cX4_tell 40 = .ok (.aload_n 0, 1) := by decide +kernel
theorem dX4_tell_41 : decode cX4_tell 41 = .ok (.dup, 1) := by decide +kernel
theorem dX4_tell_42 : decode cX4_tell 42 = .ok (.getfield 183, 3) := by decide +kernel
theorem dX4_tell_45 : decode cX4_tell 45 = .ok (.iconst 1, 1) := by decide +kernel
theorem dX4_tell_46 : decode cX4_tell 46 = .ok (.iadd, 1) := by decide +kernel
theorem dX4_tell_47 : decode cX4_tell 47 = .ok (.putfield 183, 3) := by decide +kernel
theorem dX4_tell_50 : decode cX4_tell 50 = .ok (.aload_n 0, 1) := by decide +kernel
theorem dX4_tell_51 : decode cX4_tell 51 = .ok (.getfield 45, 3) := by decide +kernel
theorem dX4_tell_54 : decode cX4_tell 54 = .ok (.iload_n 1, 1) := by decide +kernel
theorem dX4_tell_55 : decode cX4_tell 55 = .ok (.iconst 5, 1) := by decide +kernel
theorem dX4_tell_56 : decode cX4_tell 56 = .ok (.iload_n 3, 1) := by decide +kernel
theorem dX4_tell_57 : decode cX4_tell 57 = .ok (.invokevirtual 102, 3) := by decide +kernel
theorem dX4_tell_60 : decode cX4_tell 60 = .ok (.aload_n 0, 1) := by decide +kernel
theorem dX4_tell_61 : decode cX4_tell 61 = .ok (.iload_n 1, 1) := by decide +kernel
theorem dX4_tell_62 : decode cX4_tell 62 = .ok (.iload_n 3, 1) := by decide +kernel
theorem dX4_tell_63 : decode cX4_tell 63 = .ok (.iconst 0, 1) := by decide +kernel
theorem dX4_tell_64 : decode cX4_tell 64 = .ok (.invokevirtual 112, 3) := by decide +kernel
theorem dX4_tell_67 : decode cX4_tell 67 = .ok (.aload_n 0, 1) := by decide +kernel
theorem dX4_tell_68 : decode cX4_tell 68 = .ok (.dup, 1) := by decide +kernel
theorem dX4_tell_69 : decode cX4_tell 69 = .ok (.getfield 183, 3) := by decide +kernel
theorem dX4_tell_72 : decode cX4_tell 72 = .ok (.iconst 1, 1) := by decide +kernel
theorem dX4_tell_73 : decode cX4_tell 73 = .ok (.isub, 1) := by decide +kernel
theorem dX4_tell_74 : decode cX4_tell 74 = .ok (.putfield 183, 3) := by decide +kernel
theorem dX4_tell_77 : decode cX4_tell 77 = .ok (.return_, 1) := by decide +kernel
theorem dX4_send_0 : decode cX4_send 0 = .ok (.aload_n 0, 1) := by decide +kernel
theorem dX4_send_1 : decode cX4_send 1 = .ok (.getfield 28, 3) := by decide +kernel
theorem dX4_send_4 : decode cX4_send 4 = .ok (.getfield 245, 3) := by decide +kernel
theorem dX4_send_7 : decode cX4_send 7 = .ok (.iload_n 2, 1) := by decide +kernel
theorem dX4_send_8 : decode cX4_send 8 = .ok (.iaload, 1) := by decide +kernel
theorem dX4_send_9 : decode cX4_send 9 = .ok (.istore 4, 2) := by decide +kernel
theorem dX4_send_11 : decode cX4_send 11 = .ok (.iload_n 1, 1) := by decide +kernel
theorem dX4_send_12 : decode cX4_send 12 = .ok (.iload 4, 2) := by decide +kernel
theorem dX4_send_14 : decode cX4_send 14 = .ok (.if_icmp .ne 11, 3) := by decide +kernel
theorem dX4_send_17 : decode cX4_send 17 = .ok (.aload_n 0, 1) := by decide +kernel
theorem dX4_send_18 : decode cX4_send 18 = .ok (.getfield 186, 3) := by decide +kernel
theorem dX4_send_21 : decode cX4_send 21 = .ok (.iconst 4, 1) := by decide +kernel
theorem dX4_send_22 : decode cX4_send 22 = .ok (.if_icmp .lt 17, 3) := by decide +kernel
theorem dX4_send_25 : decode cX4_send 25 = .ok (.aload_n 0, 1) := by decide +kernel
theorem dX4_send_26 : decode cX4_send 26 = .ok (.getfield 37, 3) := by decide +kernel
theorem dX4_send_29 : decode cX4_send 29 = .ok (.iload_n 1, 1) := by decide +kernel
theorem dX4_send_30 : decode cX4_send 30 = .ok (.iload 4, 2) := by decide +kernel
theorem dX4_send_32 : decode cX4_send 32 = .ok (.iconst 2, 1) := by decide +kernel
theorem dX4_send_33 : decode cX4_send 33 = .ok (.iload_n 2, 1) := by decide +kernel
theorem dX4_send_34 : decode cX4_send 34 = .ok (.iload_n 3, 1) := by decide +kernel
theorem dX4_send_35 : decode cX4_send 35 = .ok (.invokevirtual 195, 3) := by decide +kernel
theorem dX4_send_38 : decode cX4_send 38 = .ok (.ireturn, 1) := by decide +kernel
theorem dX4_send_39 : decode cX4_send 39 = .ok (.aload_n 0, 1) := by decide +kernel
theorem dX4_send_40 : decode cX4_send 40 = .ok (.iload_n 1, 1) := by decide +kernel
theorem dX4_send_41 : decode cX4_send 41 = .ok (.iload_n 2, 1) := by decide +kernel
theorem dX4_send_42 : decode cX4_send 42 = .ok (.iload_n 3, 1) := by decide +kernel
theorem dX4_send_43 : decode cX4_send 43 = .ok (.invokevirtual 138, 3) := by decide +kernel
theorem dX4_send_46 : decode cX4_send 46 = .ok (.iconst 1, 1) := by decide +kernel
theorem dX4_send_47 : decode cX4_send 47 = .ok (.ireturn, 1) := by decide +kernel
theorem dX4_goThrough_0 : decode cX4_goThrough 0 = .ok (.aload_n 0, 1) := by decide +kernel
theorem dX4_goThrough_1 : decode cX4_goThrough 1 = .ok (.dup, 1) := by decide +kernel
theorem dX4_goThrough_2 : decode cX4_goThrough 2 = .ok (.getfield 186, 3) := by decide +kernel
theorem dX4_goThrough_5 : decode cX4_goThrough 5 = .ok (.iconst 1, 1) := by decide +kernel
theorem dX4_goThrough_6 : decode cX4_goThrough 6 = .ok (.iadd, 1) := by decide +kernel
theorem dX4_goThrough_7 : decode cX4_goThrough 7 = .ok (.putfield 186, 3) := by decide +kernel
theorem dX4_goThrough_10 : decode cX4_goThrough 10 = .ok (.iload_n 3, 1) := by decide +kernel
theorem dX4_goThrough_11 : decode cX4_goThrough 11 = .ok (.istore 4, 2) := by decide +kernel
theorem dX4_goThrough_13 : decode cX4_goThrough 13 = .ok (.iconst 0, 1) := by decide +kernel
theorem dX4_goThrough_14 : decode cX4_goThrough 14 = .ok (.istore 5, 2) := by decide +kernel
theorem dX4_goThrough_16 : decode cX4_goThrough 16 = .ok (.iconst 0, 1) := by decide +kernel
theorem dX4_goThrough_17 : decode cX4_goThrough 17 = .ok (.istore 6, 2) := by decide +kernel
theorem dX4_goThrough_19 : decode cX4_goThrough 19 = .ok (.iload 6, 2) := by decide +kernel
theorem dX4_goThrough_21 : decode cX4_goThrough 21 = .ok (.aload_n 0, 1) := by decide +kernel
theorem dX4_goThrough_22 : decode cX4_goThrough 22 = .ok (.getfield 28, 3) := by decide +kernel
theorem dX4_goThrough_25 : decode cX4_goThrough 25 = .ok (.getfield 247, 3) := by decide +kernel
theorem dX4_goThrough_28 : decode cX4_goThrough 28 = .ok (.iload_n 2, 1) := by decide +kernel
theorem dX4_goThrough_29 : decode cX4_goThrough 29 = .ok (.iaload, 1) := by decide +kernel
theorem dX4_goThrough_30 : decode cX4_goThrough 30 = .ok (.if_icmp .ge 103, 3) := by decide +kernel
theorem dX4_goThrough_33 : decode cX4_goThrough 33 = .ok (.iload 5, 2) := by decide +kernel
theorem dX4_goThrough_35 : decode cX4_goThrough 35 = .ok (.iconst 1, 1) := by decide +kernel
theorem dX4_goThrough_36 : decode cX4_goThrough 36 = .ok (.if_icmp .eq 97, 3) := by decide +kernel
theorem dX4_goThrough_39 : decode cX4_goThrough 39 = .ok (.iload_n 2, 1) := by decide +kernel
theorem dX4_goThrough_40 : decode cX4_goThrough 40 = .ok (.bipush 6, 2) := by decide +kernel
theorem dX4_goThrough_42 : decode cX4_goThrough 42 = .ok (.imul, 1) := by decide +kernel
theorem dX4_goThrough_43 : decode cX4_goThrough 43 = .ok (.iload 6, 2) := by decide +kernel
theorem dX4_goThrough_45 : decode cX4_goThrough 45 = .ok (.iadd, 1) := by decide +kernel
theorem dX4_goThrough_46 : decode cX4_goThrough 46 = .ok (.istore 7, 2) := by decide +kernel
theorem dX4_goThrough_48 : decode cX4_goThrough 48 = .ok (.aload_n 0, 1) := by decide +kernel
theorem dX4_goThrough_49 : decode cX4_goThrough 49 = .ok (.getfield 28, 3) := by decide +kernel
theorem dX4_goThrough_52 : decode cX4_goThrough 52 = .ok (.getfield 248, 3) := by decide +kernel
theorem dX4_goThrough_55 : decode cX4_goThrough 55 = .ok (.iload 7, 2) := by decide +kernel
theorem dX4_goThrough_57 : decode cX4_goThrough 57 = .ok (.iaload, 1) := by decide +kernel
theorem dX4_goThrough_58 : decode cX4_goThrough 58 = .ok (.istore 8, 2) := by decide +kernel
theorem dX4_goThrough_60 : decode cX4_goThrough 60 = .ok (.iload 5, 2) := by decide +kernel
theorem dX4_goThrough_62 : decode cX4_goThrough 62 = .ok (.iconst 2, 1) := by decide +kernel
theorem dX4_goThrough_63 : decode cX4_goThrough 63 = .ok (.if_icmp .ne 20, 3) := by decide +kernel
theorem dX4_goThrough_66 : decode cX4_goThrough 66 = .ok (.iload 8, 2) := by decide +kernel
theorem dX4_goThrough_68 : decode cX4_goThrough 68 = .ok (.bipush 6, 2) := by decide +kernel
theorem dX4_goThrough_70 : decode cX4_goThrough 70 = .ok (.if_icmp .ne 7, 3) := by decide +kernel
theorem dX4_goThrough_73 : decode cX4_goThrough 73 = .ok (.iconst 1, 1) := by decide +kernel
theorem dX4_goThrough_74 : decode cX4_goThrough 74 = .ok (.goto 4, 3) := by decide +kernel
theorem dX4_goThrough_77 : decode cX4_goThrough 77 = .ok (.iconst 2, 1) := by decide +kernel
theorem dX4_goThrough_78 : decode cX4_goThrough 78 = .ok (.istore 5, 2) := by decide +kernel
theorem dX4_goThrough_80 : decode cX4_goThrough 80 = .ok (.goto 47, 3) := by decide +kernel
theorem dX4_goThrough_83 : decode cX4_goThrough 83 = .ok (.iload 8, 2) := by decide +kernel
theorem dX4_goThrough_85 : decode cX4_goThrough 85 = .ok (.bipush 6, 2) := by decide +kernel
theorem dX4_goThrough_87 : decode cX4_goThrough 87 = .ok (.if_icmp .eq 40, 3) := by decide +kernel
theorem dX4_goThrough_90 : decode cX4_goThrough 90 = .ok (.aload_n 0, 1) := by decide +kernel
theorem dX4_goThrough_91 : decode cX4_goThrough 91 = .ok (.iload_n 1, 1) := by decide +kernel
theorem dX4_goThrough_92 : decode cX4_goThrough 92 = .ok (.iload_n 2, 1) := by decide +kernel
theorem dX4_goThrough_93 : decode cX4_goThrough 93 = .ok (.iload 7, 2) := by decide +kernel
theorem dX4_goThrough_95 : decode cX4_goThrough 95 = .ok (.iload 4, 2) := by decide +kernel
theorem dX4_goThrough_97 : decode cX4_goThrough 97 = .ok (.invokevirtual 249, 3) := by decide +kernel
theorem dX4_goThrough_100 : decode cX4_goThrough 100 = .ok (.istore 5, 2) := by decide +kernel
theorem dX4_goThrough_102 : decode cX4_goThrough 102 = .ok (.iload 4, 2) := by decide +kernel
theorem dX4_goThrough_104 : decode cX4_goThrough 104 = .ok (.iload 8, 2) := by decide +kernel
theorem dX4_goThrough_106 : decode cX4_goThrough 106 = .ok (.iconst 1, 1) := by decide +kernel
theorem dX4_goThrough_107 : decode cX4_goThrough 107 = .ok (.if_icmp .ne 16, 3) := by decide +kernel
theorem dX4_goThrough_110 : decode cX4_goThrough 110 = .ok (.aload_n 0, 1) := by decide +kernel
theorem dX4_goThrough_111 : decode cX4_goThrough 111 = .ok (.getfield 28, 3) := by decide +kernel
theorem dX4_goThrough_114 : decode cX4_goThrough 114 = .ok (.getfield 252, 3) := by decide +kernel
theorem dX4_goThrough_117 : decode cX4_goThrough 117 = .ok (.iload 7, 2) := by decide +kernel
theorem dX4_goThrough_119 : decode cX4_goThrough 119 = .ok (.iaload, 1) := by decide +kernel
theorem dX4_goThrough_120 : decode cX4_goThrough 120 = .ok (.goto 4, 3) := by decide +kernel
theorem dX4_goThrough_123 : decode cX4_goThrough 123 = .ok (.iconst 0, 1) := by decide +kernel
theorem dX4_goThrough_124 : decode cX4_goThrough 124 = .ok (.iadd, 1) := by decide +kernel
theorem dX4_goThrough_125 : decode cX4_goThrough 125 = .ok (.istore 4, 2) := by decide +kernel
theorem dX4_goThrough_127 : decode cX4_goThrough 127 = .ok (.iinc 6 1, 3) := by decide +kernel
theorem dX4_goThrough_130 : decode cX4_goThrough 130 = .ok (.goto (-111), 3) := by decide +kernel
theorem dX4_goThrough_133 : decode cX4_goThrough 133 = .ok (.aload_n 0, 1) := by decide +kernel
theorem dX4_goThrough_134 : decode cX4_goThrough 134 = .ok (.dup, 1) := by decide +kernel
theorem dX4_goThrough_135 : decode cX4_goThrough 135 = .ok (.getfield 186, 3) := by decide +kernel
theorem dX4_goThrough_138 : decode cX4_goThrough 138 = .ok (.iconst 1, 1) := by decide +kernel
theorem dX4_goThrough_139 : decode cX4_goThrough 139 = .ok (.isub, 1) := by decide +kernel
theorem dX4_goThrough_140 : decode cX4_goThrough 140 = .ok (.putfield 186, 3) := by decide +kernel
theorem dX4_goThrough_143 : decode cX4_goThrough 143 = .ok (.iload 5, 2) := by decide +kernel
theorem dX4_goThrough_145 : decode cX4_goThrough 145 = .ok (.ifCond .ne 18, 3) := by decide +kernel
theorem dX4_goThrough_148 : decode cX4_goThrough 148 = .ok (.aload_n 0, 1) := by decide +kernel
theorem dX4_goThrough_149 : decode cX4_goThrough 149 = .ok (.getfield 45, 3) := by decide +kernel
theorem dX4_goThrough_152 : decode cX4_goThrough 152 = .ok (.iload_n 1, 1) := by decide +kernel
theorem dX4_goThrough_153 : decode cX4_goThrough 153 = .ok (.bipush 8, 2) := by decide +kernel
theorem dX4_goThrough_155 : decode cX4_goThrough 155 = .ok (.iload 4, 2) := by decide +kernel
theorem dX4_goThrough_157 : decode cX4_goThrough 157 = .ok (.invokevirtual 102, 3) := by decide +kernel
theorem dX4_goThrough_160 : decode cX4_goThrough 160 = .ok (.goto 21, 3) := by decide +kernel
theorem dX4_goThrough_163 : decode cX4_goThrough 163 = .ok (.iload 5, 2) := by decide +kernel
theorem dX4_goThrough_165 : decode cX4_goThrough 165 = .ok (.iconst 2, 1) := by decide +kernel
theorem dX4_goThrough_166 : decode cX4_goThrough 166 = .ok (.if_icmp .ne 15, 3) := by decide +kernel
theorem dX4_goThrough_169 : decode cX4_goThrough 169 = .ok (.aload_n 0, 1) := by decide +kernel
theorem dX4_goThrough_170 : decode cX4_goThrough 170 = .ok (.getfield 45, 3) := by decide +kernel
theorem dX4_goThrough_173 : decode cX4_goThrough 173 = .ok (.iload_n 1, 1) := by decide +kernel
theorem dX4_goThrough_174 : decode cX4_goThrough 174 = .ok (.iconst 2, 1) := by decide +kernel
theorem dX4_goThrough_175 : decode cX4_goThrough 175 = .ok (.iconst (-1), 1) := by decide +kernel
theorem dX4_goThrough_176 : decode cX4_goThrough 176 = .ok (.iload_n 2, 1) := by decide +kernel
theorem dX4_goThrough_177 : decode cX4_goThrough 177 = .ok (.isub, 1) := by decide +kernel
theorem dX4_goThrough_178 : decode cX4_goThrough 178 = .ok (.invokevirtual 102, 3) := by decide +kernel
theorem dX4_goThrough_181 : decode cX4_goThrough 181 = .ok (.return_, 1) := by decide +kernel
theorem dX4_handle_0 : decode cX4_handle 0 = .ok (.aload_n 0, 1) := by decide +kernel
theorem dX4_handle_1 : decode cX4_handle 1 = .ok (.getfield 45, 3) := by decide +kernel
theorem dX4_handle_4 : decode cX4_handle 4 = .ok (.iload_n 1, 1) := by decide +kernel
theorem dX4_handle_5 : decode cX4_handle 5 = .ok (.bipush 6, 2) := by decide +kernel
theorem dX4_handle_7 : decode cX4_handle 7 = .ok (.ldc 253, 2) := by decide +kernel
theorem dX4_handle_9 : decode cX4_handle 9 = .ok (.aload_n 0, 1) := by decide +kernel
theorem dX4_handle_10 : decode cX4_handle 10 = .ok (.getfield 28, 3) := by decide +kernel
theorem dX4_handle_13 : decode cX4_handle 13 = .ok (.getfield 252, 3) := by decide +kernel
theorem dX4_handle_16 : decode cX4_handle 16 = .ok (.iload_n 3, 1) := by decide +kernel
theorem dX4_handle_17 : decode cX4_handle 17 = .ok (.iaload, 1) := by decide +kernel
theorem dX4_handle_18 : decode cX4_handle 18 = .ok (.imul, 1) := by decide +kernel
theorem dX4_handle_19 : decode cX4_handle 19 = .ok (.iload 4, 2) := by decide +kernel
theorem dX4_handle_21 : decode cX4_handle 21 = .ok (.iadd, 1) := by decide +kernel
theorem dX4_handle_22 : decode cX4_handle 22 = .ok (.invokevirtual 102, 3) := by decide +kernel
theorem dX4_handle_25 : decode cX4_handle 25 = .ok (.aload_n 0, 1) := by decide +kernel
theorem dX4_handle_26 : decode cX4_handle 26 = .ok (.getfield 28, 3) := by decide +kernel
theorem dX4_handle_29 : decode cX4_handle 29 = .ok (.getfield 248, 3) := by decide +kernel
theorem dX4_handle_32 : decode cX4_handle 32 = .ok (.iload_n 3, 1) := by decide +kernel
theorem dX4_handle_33 : decode cX4_handle 33 = .ok (.iaload, 1) := by decide +kernel
theorem dX4_handle_34 : decode cX4_handle 34 = .ok (.tableswitch 83 2 5 #[30, 43, 53, 70], 30) := by decide +kernel
theorem dX4_handle_64 : decode cX4_handle 64 = .ok (.iload 4, 2) := by decide +kernel
theorem dX4_handle_66 : decode cX4_handle 66 = .ok (.iconst 2, 1) := by decide +kernel
theorem dX4_handle_67 : decode cX4_handle 67 = .ok (.irem, 1) := by decide +kernel
theorem dX4_handle_68 : decode cX4_handle 68 = .ok (.ifCond .eq 7, 3) := by decide +kernel
theorem dX4_handle_71 : decode cX4_handle 71 = .ok (.iconst 1, 1) := by decide +kernel
theorem dX4_handle_72 : decode cX4_handle 72 = .ok (.goto 4, 3) := by decide +kernel
theorem dX4_handle_75 : decode cX4_handle 75 = .ok (.iconst 0, 1) := by decide +kernel
theorem dX4_handle_76 : decode cX4_handle 76 = .ok (.ireturn, 1) := by decide +kernel
theorem dX4_handle_77 : decode cX4_handle 77 = .ok (.aload_n 0, 1) := by decide +kernel
theorem dX4_handle_78 : decode cX4_handle 78 = .ok (.iload_n 1, 1) := by decide +kernel
theorem dX4_handle_79 : decode cX4_handle 79 = .ok (.iload_n 2, 1) := by decide +kernel
theorem dX4_handle_80 : decode cX4_handle 80 = .ok (.iload 4, 2) := by decide +kernel
theorem dX4_handle_82 : decode cX4_handle 82 = .ok (.invokevirtual 254, 3) := by decide +kernel
theorem dX4_handle_85 : decode cX4_handle 85 = .ok (.iconst 0, 1) := by decide +kernel
theorem dX4_handle_86 : decode cX4_handle 86 = .ok (.ireturn, 1) := by decide +kernel
theorem dX4_handle_87 : decode cX4_handle 87 = .ok (.aload_n 0, 1) := by decide +kernel
theorem dX4_handle_88 : decode cX4_handle 88 = .ok (.iload_n 1, 1) := by decide +kernel
theorem dX4_handle_89 : decode cX4_handle 89 = .ok (.aload_n 0, 1) := by decide +kernel
theorem dX4_handle_90 : decode cX4_handle 90 = .ok (.getfield 28, 3) := by decide +kernel
theorem dX4_handle_93 : decode cX4_handle 93 = .ok (.getfield 257, 3) := by decide +kernel
theorem dX4_handle_96 : decode cX4_handle 96 = .ok (.iload_n 3, 1) := by decide +kernel
theorem dX4_handle_97 : decode cX4_handle 97 = .ok (.iaload, 1) := by decide +kernel
theorem dX4_handle_98 : decode cX4_handle 98 = .ok (.iconst 0, 1) := by decide +kernel
theorem dX4_handle_99 : decode cX4_handle 99 = .ok (.invokevirtual 112, 3) := by decide +kernel
theorem dX4_handle_102 : decode cX4_handle 102 = .ok (.iconst 0, 1) := by decide +kernel
theorem dX4_handle_103 : decode cX4_handle 103 = .ok (.ireturn, 1) := by decide +kernel
theorem dX4_handle_104 : decode cX4_handle 104 = .ok (.iload 4, 2) := by decide +kernel
theorem dX4_handle_106 : decode cX4_handle 106 = .ok (.iconst 3, 1) := by decide +kernel
theorem dX4_handle_107 : decode cX4_handle 107 = .ok (.irem, 1) := by decide +kernel
theorem dX4_handle_108 : decode cX4_handle 108 = .ok (.ifCond .ne 7, 3) := by decide +kernel
theorem dX4_handle_111 : decode cX4_handle 111 = .ok (.iconst 2, 1) := by decide +kernel
theorem dX4_handle_112 : decode cX4_handle 112 = .ok (.goto 4, 3) := by decide +kernel
theorem dX4_handle_115 : decode cX4_handle 115 = .ok (.iconst 0, 1) := by decide +kernel
theorem dX4_handle_116 : decode cX4_handle 116 = .ok (.ireturn, 1) := by decide +kernel
theorem dX4_handle_117 : decode cX4_handle 117 = .ok (.iconst 0, 1) := by decide +kernel
theorem dX4_handle_118 : decode cX4_handle 118 = .ok (.ireturn, 1) := by decide +kernel
theorem dX4_echo_0 : decode cX4_echo 0 = .ok (.aload_n 0, 1) := by decide +kernel
theorem dX4_echo_1 : decode cX4_echo 1 = .ok (.getfield 65, 3) := by decide +kernel
theorem dX4_echo_4 : decode cX4_echo 4 = .ok (.sipush 1000, 3) := by decide +kernel
theorem dX4_echo_7 : decode cX4_echo 7 = .ok (.if_icmp .ge 28, 3) := by decide +kernel
theorem dX4_echo_10 : decode cX4_echo 10 = .ok (.aload_n 0, 1) := by decide +kernel
theorem dX4_echo_11 : decode cX4_echo 11 = .ok (.dup, 1) := by decide +kernel
theorem dX4_echo_12 : decode cX4_echo 12 = .ok (.getfield 65, 3) := by decide +kernel
theorem dX4_echo_15 : decode cX4_echo 15 = .ok (.iconst 1, 1) := by decide +kernel
theorem dX4_echo_16 : decode cX4_echo 16 = .ok (.iadd, 1) := by decide +kernel
theorem dX4_echo_17 : decode cX4_echo 17 = .ok (.putfield 65, 3) := by decide +kernel
theorem dX4_echo_20 : decode cX4_echo 20 = .ok (.aload_n 0, 1) := by decide +kernel
theorem dX4_echo_21 : decode cX4_echo 21 = .ok (.iload_n 1, 1) := by decide +kernel
theorem dX4_echo_22 : decode cX4_echo 22 = .ok (.aload_n 0, 1) := by decide +kernel
theorem dX4_echo_23 : decode cX4_echo 23 = .ok (.getfield 28, 3) := by decide +kernel
theorem dX4_echo_26 : decode cX4_echo 26 = .ok (.iload_n 2, 1) := by decide +kernel
theorem dX4_echo_27 : decode cX4_echo 27 = .ok (.invokevirtual 215, 3) := by decide +kernel
theorem dX4_echo_30 : decode cX4_echo 30 = .ok (.iload_n 3, 1) := by decide +kernel
theorem dX4_echo_31 : decode cX4_echo 31 = .ok (.invokevirtual 212, 3) := by decide +kernel
theorem dX4_echo_34 : decode cX4_echo 34 = .ok (.pop, 1) := by decide +kernel
theorem dX4_echo_35 : decode cX4_echo 35 = .ok (.return_, 1) := by decide +kernel
theorem dX5_init_0 : decode cX5_init 0 = .ok (.aload_n 0, 1) := by decide +kernel
theorem dX5_init_1 : decode cX5_init 1 = .ok (.invokespecial 3, 3) := by decide +kernel
theorem dX5_init_4 : decode cX5_init 4 = .ok (.aload_n 0, 1) := by decide +kernel
theorem dX5_init_5 : decode cX5_init 5 = .ok (.new 9, 3) := by decide +kernel
theorem dX5_init_8 : decode cX5_init 8 = .ok (.dup, 1) := by decide +kernel
theorem dX5_init_9 : decode cX5_init 9 = .ok (.invokespecial 11, 3) := by decide +kernel
theorem dX5_init_12 : decode cX5_init 12 = .ok (.putfield 12, 3) := by decide +kernel
theorem dX5_init_15 : decode cX5_init 15 = .ok (.aload_n 0, 1) := by decide +kernel
theorem dX5_init_16 : decode cX5_init 16 = .ok (.iload_n 1, 1) := by decide +kernel
theorem dX5_init_17 : decode cX5_init 17 = .ok (.anewarray 18, 3) := by decide +kernel
theorem dX5_init_20 : decode cX5_init 20 = .ok (.putfield 20, 3) := by decide +kernel
theorem dX5_init_23 : decode cX5_init 23 = .ok (.iconst 0, 1) := by decide +kernel
theorem dX5_init_24 : decode cX5_init 24 = .ok (.istore_n 2, 1) := by decide +kernel
theorem dX5_init_25 : decode cX5_init 25 = .ok (.iload_n 2, 1) := by decide +kernel
theorem dX5_init_26 : decode cX5_init 26 = .ok (.iload_n 1, 1) := by decide +kernel
theorem dX5_init_27 : decode cX5_init 27 = .ok (.if_icmp .ge 22, 3) := by decide +kernel
theorem dX5_init_30 : decode cX5_init 30 = .ok (.aload_n 0, 1) := by decide +kernel
theorem dX5_init_31 : decode cX5_init 31 = .ok (.getfield 20, 3) := by decide +kernel
theorem dX5_init_34 : decode cX5_init 34 = .ok (.iload_n 2, 1) := by decide +kernel
theorem dX5_init_35 : decode cX5_init 35 = .ok (.new 18, 3) := by decide +kernel
theorem dX5_init_38 : decode cX5_init 38 = .ok (.dup, 1) := by decide +kernel
theorem dX5_init_39 : decode cX5_init 39 = .ok (.invokespecial 24, 3) := by decide +kernel
theorem dX5_init_42 : decode cX5_init 42 = .ok (.aastore, 1) := by decide +kernel
theorem dX5_init_43 : decode cX5_init 43 = .ok (.iinc 2 1, 3) := by decide +kernel
theorem dX5_init_46 : decode cX5_init 46 = .ok (.goto (-21), 3) := by decide +kernel
theorem dX5_init_49 : decode cX5_init 49 = .ok (.return_, 1) := by decide +kernel
theorem dX5_has_0 : decode cX5_has 0 = .ok (.iload_n 1, 1) := by decide +kernel
theorem dX5_has_1 : decode cX5_has 1 = .ok (.ifCond .lt 16, 3) := by decide +kernel
theorem dX5_has_4 : decode cX5_has 4 = .ok (.iload_n 1, 1) := by decide +kernel
theorem dX5_has_5 : decode cX5_has 5 = .ok (.aload_n 0, 1) := by decide +kernel
theorem dX5_has_6 : decode cX5_has 6 = .ok (.getfield 20, 3) := by decide +kernel
theorem dX5_has_9 : decode cX5_has 9 = .ok (.arraylength, 1) := by decide +kernel
theorem dX5_has_10 : decode cX5_has 10 = .ok (.if_icmp .ge 7, 3) := by decide +kernel
theorem dX5_has_13 : decode cX5_has 13 = .ok (.iconst 1, 1) := by decide +kernel
theorem dX5_has_14 : decode cX5_has 14 = .ok (.goto 4, 3) := by decide +kernel
theorem dX5_has_17 : decode cX5_has 17 = .ok (.iconst 0, 1) := by decide +kernel
theorem dX5_has_18 : decode cX5_has 18 = .ok (.ireturn, 1) := by decide +kernel
theorem dX5_choose_0 : decode cX5_choose 0 = .ok (.aload_n 0, 1) := by decide +kernel
theorem dX5_choose_1 : decode cX5_choose 1 = .ok (.getfield 25, 3) := by decide +kernel
theorem dX5_choose_4 : decode cX5_choose 4 = .ok (.istore_n 1, 1) := by decide +kernel
theorem dX5_choose_5 : decode cX5_choose 5 = .ok (.aload_n 0, 1) := by decide +kernel
theorem dX5_choose_6 : decode cX5_choose 6 = .ok (.getfield 20, 3) := by decide +kernel
theorem dX5_choose_9 : decode cX5_choose 9 = .ok (.arraylength, 1) := by decide +kernel
theorem dX5_choose_10 : decode cX5_choose 10 = .ok (.istore_n 2, 1) := by decide +kernel
theorem dX5_choose_11 : decode cX5_choose 11 = .ok (.aload_n 0, 1) := by decide +kernel
theorem dX5_choose_12 : decode cX5_choose 12 = .ok (.dup, 1) := by decide +kernel
theorem dX5_choose_13 : decode cX5_choose 13 = .ok (.getfield 25, 3) := by decide +kernel
theorem dX5_choose_16 : decode cX5_choose 16 = .ok (.iconst 1, 1) := by decide +kernel
theorem dX5_choose_17 : decode cX5_choose 17 = .ok (.iadd, 1) := by decide +kernel
theorem dX5_choose_18 : decode cX5_choose 18 = .ok (.putfield 25, 3) := by decide +kernel
theorem dX5_choose_21 : decode cX5_choose 21 = .ok (.iload_n 2, 1) := by decide +kernel
theorem dX5_choose_22 : decode cX5_choose 22 = .ok (.iload_n 2, 1) := by decide +kernel
theorem dX5_choose_23 : decode cX5_choose 23 = .ok (.iconst 1, 1) := by decide +kernel
theorem dX5_choose_24 : decode cX5_choose 24 = .ok (.isub, 1) := by decide +kernel
theorem dX5_choose_25 : decode cX5_choose 25 = .ok (.iand, 1) := by decide +kernel
theorem dX5_choose_26 : decode cX5_choose 26 = .ok (.ifCond .ne 11, 3) := by decide +kernel
theorem dX5_choose_29 : decode cX5_choose 29 = .ok (.iload_n 1, 1) := by decide +kernel
theorem dX5_choose_30 : decode cX5_choose 30 = .ok (.iload_n 2, 1) := by decide +kernel
theorem dX5_choose_31 : decode cX5_choose 31 = .ok (.iconst 1, 1) := by decide +kernel
theorem dX5_choose_32 : decode cX5_choose 32 = .ok (.isub, 1) := by decide +kernel
theorem dX5_choose_33 : decode cX5_choose 33 = .ok (.iand, 1) := by decide +kernel
theorem dX5_choose_34 : decode cX5_choose 34 = .ok (.goto 9, 3) := by decide +kernel
theorem dX5_choose_37 : decode cX5_choose 37 = .ok (.iload_n 1, 1) := by decide +kernel
theorem dX5_choose_38 : decode cX5_choose 38 = .ok (.iload_n 2, 1) := by decide +kernel
theorem dX5_choose_39 : decode cX5_choose 39 = .ok (.irem, 1) := by decide +kernel
theorem dX5_choose_40 : decode cX5_choose 40 = .ok (.invokestatic 29, 3) := by decide +kernel
theorem dX5_choose_43 : decode cX5_choose 43 = .ok (.ireturn, 1) := by decide +kernel
theorem dX5_enqueue_0 : decode cX5_enqueue 0 = .ok (.aload_n 0, 1) := by decide +kernel
theorem dX5_enqueue_1 : decode cX5_enqueue 1 = .ok (.getfield 20, 3) := by decide +kernel
theorem dX5_enqueue_4 : decode cX5_enqueue 4 = .ok (.iload_n 2, 1) := by decide +kernel
theorem dX5_enqueue_5 : decode cX5_enqueue 5 = .ok (.aaload, 1) := by decide +kernel
theorem dX5_enqueue_6 : decode cX5_enqueue 6 = .ok (.astore 6, 2) := by decide +kernel
theorem dX5_enqueue_8 : decode cX5_enqueue 8 = .ok (.aload 6, 2) := by decide +kernel
theorem dX5_enqueue_10 : decode cX5_enqueue 10 = .ok (.getfield 35, 3) := by decide +kernel
theorem dX5_enqueue_13 : decode cX5_enqueue 13 = .ok (.iconst 4, 1) := by decide +kernel
theorem dX5_enqueue_14 : decode cX5_enqueue 14 = .ok (.if_icmp .ge 14, 3) := by decide +kernel
theorem dX5_enqueue_17 : decode cX5_enqueue 17 = .ok (.aload 6, 2) := by decide +kernel
theorem dX5_enqueue_19 : decode cX5_enqueue 19 = .ok (.getfield 38, 3) := by decide +kernel
theorem dX5_enqueue_22 : decode cX5_enqueue 22 = .ok (.invokevirtual 42, 3) := by decide +kernel
theorem dX5_enqueue_25 : decode cX5_enqueue 25 = .ok (.ifCond .eq 25, 3) := by decide +kernel
theorem dX5_enqueue_28 : decode cX5_enqueue 28 = .ok (.aload_n 0, 1) := by decide +kernel
theorem dX5_enqueue_29 : decode cX5_enqueue 29 = .ok (.getfield 12, 3) := by decide +kernel
theorem dX5_enqueue_32 : decode cX5_enqueue 32 = .ok (.iload_n 1, 1) := by decide +kernel
theorem dX5_enqueue_33 : decode cX5_enqueue 33 = .ok (.iconst 4, 1) := by decide +kernel
theorem dX5_enqueue_34 : decode cX5_enqueue 34 = .ok (.iload_n 3, 1) := by decide +kernel
theorem dX5_enqueue_35 : decode cX5_enqueue 35 = .ok (.iconst 2, 1) := by decide +kernel
theorem dX5_enqueue_36 : decode cX5_enqueue 36 = .ok (.if_icmp .ne 7, 3) := by decide +kernel
theorem dX5_enqueue_39 : decode cX5_enqueue 39 = .ok (.iconst (-1), 1) := by decide +kernel
theorem dX5_enqueue_40 : decode cX5_enqueue 40 = .ok (.goto 5, 3) := by decide +kernel
theorem dX5_enqueue_43 : decode cX5_enqueue 43 = .ok (.iload 4, 2) := by decide +kernel
theorem dX5_enqueue_45 : decode cX5_enqueue 45 = .ok (.invokevirtual 48, 3) := by decide +kernel
theorem dX5_enqueue_48 : decode cX5_enqueue 48 = .ok (.iconst 0, 1) := by decide +kernel
theorem dX5_enqueue_49 : decode cX5_enqueue 49 = .ok (.ireturn, 1) := by decide +kernel
theorem dX5_enqueue_50 : decode cX5_enqueue 50 = .ok (.aload 6, 2) := by decide +kernel
theorem dX5_enqueue_52 : decode cX5_enqueue 52 = .ok (.getfield 35, 3) := by decide +kernel
theorem dX5_enqueue_55 : decode cX5_enqueue 55 = .ok (.iconst 1, 1) := by decide +kernel
theorem dX5_enqueue_56 : decode cX5_enqueue 56 = .ok (.if_icmp .ne 9, 3) := by decide +kernel
theorem dX5_enqueue_59 : decode cX5_enqueue 59 = .ok (.aload_n 0, 1) := by decide +kernel
theorem dX5_enqueue_60 : decode cX5_enqueue 60 = .ok (.iload_n 2, 1) := by decide +kernel
theorem dX5_enqueue_61 : decode cX5_enqueue 61 = .ok (.iconst 2, 1) := by decide +kernel
theorem dX5_enqueue_62 : decode cX5_enqueue 62 = .ok (.invokevirtual 52, 3) := by decide +kernel
theorem dX5_enqueue_65 : decode cX5_enqueue 65 = .ok (.aload 6, 2) := by decide +kernel
theorem dX5_enqueue_67 : decode cX5_enqueue 67 = .ok (.getfield 38, 3) := by decide +kernel
theorem dX5_enqueue_70 : decode cX5_enqueue 70 = .ok (.iload_n 3, 1) := by decide +kernel
theorem dX5_enqueue_71 : decode cX5_enqueue 71 = .ok (.iload 4, 2) := by decide +kernel
theorem dX5_enqueue_73 : decode cX5_enqueue 73 = .ok (.iload 5, 2) := by decide +kernel
theorem dX5_enqueue_75 : decode cX5_enqueue 75 = .ok (.invokevirtual 56, 3) := by decide +kernel
theorem dX5_enqueue_78 : decode cX5_enqueue 78 = .ok (.iconst 1, 1) := by decide +kernel
theorem dX5_enqueue_79 : decode cX5_enqueue 79 = .ok (.ireturn, 1) := by decide +kernel
theorem dX5_schedule_0 : decode cX5_schedule 0 = .ok (.aload_n 0, 1) := by decide +kernel
theorem dX5_schedule_1 : decode cX5_schedule 1 = .ok (.getfield 20, 3) := by decide +kernel
theorem dX5_schedule_4 : decode cX5_schedule 4 = .ok (.iload_n 2, 1) := by decide +kernel
theorem dX5_schedule_5 : decode cX5_schedule 5 = .ok (.aaload, 1) := by decide +kernel
theorem dX5_schedule_6 : decode cX5_schedule 6 = .ok (.astore 5, 2) := by decide +kernel
theorem dX5_schedule_8 : decode cX5_schedule 8 = .ok (.aload_n 0, 1) := by decide +kernel
theorem dX5_schedule_9 : decode cX5_schedule 9 = .ok (.getfield 59, 3) := by decide +kernel
theorem dX5_schedule_12 : decode cX5_schedule 12 = .ok (.sipush 400, 3) := by decide +kernel
theorem dX5_schedule_15 : decode cX5_schedule 15 = .ok (.if_icmp .ge 20, 3) := by decide +kernel
theorem dX5_schedule_18 : decode cX5_schedule 18 = .ok (.aload 5, 2) := by decide +kernel
theorem dX5_schedule_20 : decode cX5_schedule 20 = .ok (.getfield 62, 3) := by decide +kernel
theorem dX5_schedule_23 : decode cX5_schedule 23 = .ok (.getfield 66, 3) := by decide +kernel
theorem dX5_schedule_26 : decode cX5_schedule 26 = .ok (.bipush 24, 2) := by decide +kernel
theorem dX5_schedule_28 : decode cX5_schedule 28 = .ok (.if_icmp .ge 7, 3) := by decide +kernel
theorem dX5_schedule_31 : decode cX5_schedule 31 = .ok (.iconst 1, 1) := by decide +kernel
theorem dX5_schedule_32 : decode cX5_schedule 32 = .ok (.goto 4, 3) := by decide +kernel
theorem dX5_schedule_35 : decode cX5_schedule 35 = .ok (.iconst 0, 1) := by decide +kernel
theorem dX5_schedule_36 : decode cX5_schedule 36 = .ok (.istore 6, 2) := by decide +kernel
theorem dX5_schedule_38 : decode cX5_schedule 38 = .ok (.iload 6, 2) := by decide +kernel
theorem dX5_schedule_40 : decode cX5_schedule 40 = .ok (.ifCond .eq 12, 3) := by decide +kernel
theorem dX5_schedule_43 : decode cX5_schedule 43 = .ok (.aload 5, 2) := by decide +kernel
theorem dX5_schedule_45 : decode cX5_schedule 45 = .ok (.getfield 35, 3) := by decide +kernel
theorem dX5_schedule_48 : decode cX5_schedule 48 = .ok (.iconst 3, 1) := by decide +kernel
theorem dX5_schedule_49 : decode cX5_schedule 49 = .ok (.if_icmp .lt 15, 3) := by decide +kernel
theorem dX5_schedule_52 : decode cX5_schedule 52 = .ok (.aload_n 0, 1) := by decide +kernel
theorem dX5_schedule_53 : decode cX5_schedule 53 = .ok (.getfield 12, 3) := by decide +kernel
theorem dX5_schedule_56 : decode cX5_schedule 56 = .ok (.iload_n 1, 1) := by decide +kernel
theorem dX5_schedule_57 : decode cX5_schedule 57 = .ok (.iconst 4, 1) := by decide +kernel
theorem dX5_schedule_58 : decode cX5_schedule 58 = .ok (.iload_n 3, 1) := by decide +kernel
theorem dX5_schedule_59 : decode cX5_schedule 59 = .ok (.invokevirtual 48, 3) := by decide +kernel
theorem dX5_schedule_62 : decode cX5_schedule 62 = .ok (.iconst (-1), 1) := by decide +kernel
theorem dX5_schedule_63 : decode cX5_schedule 63 = .ok (.ireturn, 1) := by decide +kernel
theorem dX5_schedule_64 : decode cX5_schedule 64 = .ok (.aload 5, 2) := by decide +kernel
theorem dX5_schedule_66 : decode cX5_schedule 66 = .ok (.getfield 35, 3) := by decide +kernel
theorem dX5_schedule_69 : decode cX5_schedule 69 = .ok (.iconst 1, 1) := by decide +kernel
theorem dX5_schedule_70 : decode cX5_schedule 70 = .ok (.if_icmp .ne 9, 3) := by decide +kernel
theorem dX5_schedule_73 : decode cX5_schedule 73 = .ok (.aload_n 0, 1) := by decide +kernel
theorem dX5_schedule_74 : decode cX5_schedule 74 = .ok (.iload_n 2, 1) := by decide +kernel
theorem dX5_schedule_75 : decode cX5_schedule 75 = .ok (.iconst 2, 1) := by decide +kernel
theorem dX5_schedule_76 : decode cX5_schedule 76 = .ok (.invokevirtual 52, 3) := by decide +kernel
theorem dX5_schedule_79 : decode cX5_schedule 79 = .ok (.aload_n 0, 1) := by decide +kernel
theorem dX5_schedule_80 : decode cX5_schedule 80 = .ok (.getfield 59, 3) := by decide +kernel
theorem dX5_schedule_83 : decode cX5_schedule 83 = .ok (.istore 7, 2) := by decide +kernel
theorem dX5_schedule_85 : decode cX5_schedule 85 = .ok (.aload_n 0, 1) := by decide +kernel
theorem dX5_schedule_86 : decode cX5_schedule 86 = .ok (.dup, 1) := by decide +kernel
theorem dX5_schedule_87 : decode cX5_schedule 87 = .ok (.getfield 59, 3) := by decide +kernel
theorem dX5_schedule_90 : decode cX5_schedule 90 = .ok (.iconst 1, 1) := by decide +kernel
theorem dX5_schedule_91 : decode cX5_schedule 91 = .ok (.iadd, 1) := by decide +kernel
theorem dX5_schedule_92 : decode cX5_schedule 92 = .ok (.putfield 59, 3) := by decide +kernel
theorem dX5_schedule_95 : decode cX5_schedule 95 = .ok (.aload 5, 2) := by decide +kernel
theorem dX5_schedule_97 : decode cX5_schedule 97 = .ok (.getfield 62, 3) := by decide +kernel
theorem dX5_schedule_100 : decode cX5_schedule 100 = .ok (.iload 7, 2) := by decide +kernel
theorem dX5_schedule_102 : decode cX5_schedule 102 = .ok (.iload_n 3, 1) := by decide +kernel
theorem dX5_schedule_103 : decode cX5_schedule 103 = .ok (.aload_n 0, 1) := by decide +kernel
theorem dX5_schedule_104 : decode cX5_schedule 104 = .ok (.getfield 71, 3) := by decide +kernel
theorem dX5_schedule_107 : decode cX5_schedule 107 = .ok (.iload 4, 2) := by decide +kernel
theorem dX5_schedule_109 : decode cX5_schedule 109 = .ok (.i2l, 1) := by decide +kernel
theorem dX5_schedule_110 : decode cX5_schedule 110 = .ok (.ladd, 1) := by decide +kernel
theorem dX5_schedule_111 : decode cX5_schedule 111 = .ok (.invokevirtual 75, 3) := by decide +kernel
theorem dX5_schedule_114 : decode cX5_schedule 114 = .ok (.aload_n 0, 1) := by decide +kernel
theorem dX5_schedule_115 : decode cX5_schedule 115 = .ok (.getfield 12, 3) := by decide +kernel
theorem dX5_schedule_118 : decode cX5_schedule 118 = .ok (.iload_n 1, 1) := by decide +kernel
theorem dX5_schedule_119 : decode cX5_schedule 119 = .ok (.bipush 9, 2) := by decide +kernel
theorem dX5_schedule_121 : decode cX5_schedule 121 = .ok (.iload 7, 2) := by decide +kernel
theorem dX5_schedule_123 : decode cX5_schedule 123 = .ok (.invokevirtual 48, 3) := by decide +kernel
theorem dX5_schedule_126 : decode cX5_schedule 126 = .ok (.iload 7, 2) := by decide +kernel
theorem dX5_schedule_128 : decode cX5_schedule 128 = .ok (.ireturn, 1) := by decide +kernel
theorem dX5_dropTimer_0 : decode cX5_dropTimer 0 = .ok (.iconst 0, 1) := by decide +kernel
theorem dX5_dropTimer_1 : decode cX5_dropTimer 1 = .ok (.istore_n 2, 1) := by decide +kernel
theorem dX5_dropTimer_2 : decode cX5_dropTimer 2 = .ok (.iload_n 2, 1) := by decide +kernel
theorem dX5_dropTimer_3 : decode cX5_dropTimer 3 = .ok (.aload_n 0, 1) := by decide +kernel
theorem dX5_dropTimer_4 : decode cX5_dropTimer 4 = .ok (.getfield 20, 3) := by decide +kernel
theorem dX5_dropTimer_7 : decode cX5_dropTimer 7 = .ok (.arraylength, 1) := by decide +kernel
theorem dX5_dropTimer_8 : decode cX5_dropTimer 8 = .ok (.if_icmp .ge 43, 3) := by decide +kernel
theorem dX5_dropTimer_11 : decode cX5_dropTimer 11 = .ok (.aload_n 0, 1) := by decide +kernel
theorem dX5_dropTimer_12 : decode cX5_dropTimer 12 = .ok (.getfield 20, 3) := by decide +kernel
theorem dX5_dropTimer_15 : decode cX5_dropTimer 15 = .ok (.iload_n 2, 1) := by decide +kernel
theorem dX5_dropTimer_16 : decode cX5_dropTimer 16 = .ok (.aaload, 1) := by decide +kernel
theorem dX5_dropTimer_17 : decode cX5_dropTimer 17 = .ok (.getfield 62, 3) := by decide +kernel
theorem dX5_dropTimer_20 : decode cX5_dropTimer 20 = .ok (.iload_n 1, 1) := by decide +kernel
theorem dX5_dropTimer_21 : decode cX5_dropTimer 21 = .ok (.invokevirtual 78, 3) := by decide +kernel
theorem dX5_dropTimer_24 : decode cX5_dropTimer 24 = .ok (.istore_n 3, 1) := by decide +kernel
theorem dX5_dropTimer_25 : decode cX5_dropTimer 25 = .ok (.iload_n 3, 1) := by decide +kernel
theorem dX5_dropTimer_26 : decode cX5_dropTimer 26 = .ok (.iconst (-1), 1) := by decide +kernel
theorem dX5_dropTimer_27 : decode cX5_dropTimer 27 = .ok (.if_icmp .eq 18, 3) := by decide +kernel
theorem dX5_dropTimer_30 : decode cX5_dropTimer 30 = .ok (.aload_n 0, 1) := by decide +kernel
theorem dX5_dropTimer_31 : decode cX5_dropTimer 31 = .ok (.getfield 20, 3) := by decide +kernel
theorem dX5_dropTimer_34 : decode cX5_dropTimer 34 = .ok (.iload_n 2, 1) := by decide +kernel
theorem dX5_dropTimer_35 : decode cX5_dropTimer 35 = .ok (.aaload, 1) := by decide +kernel
theorem dX5_dropTimer_36 : decode cX5_dropTimer 36 = .ok (.getfield 62, 3) := by decide +kernel
theorem dX5_dropTimer_39 : decode cX5_dropTimer 39 = .ok (.iload_n 3, 1) := by decide +kernel
theorem dX5_dropTimer_40 : decode cX5_dropTimer 40 = .ok (.invokevirtual 81, 3) := by decide +kernel
theorem dX5_dropTimer_43 : decode cX5_dropTimer 43 = .ok (.iconst 1, 1) := by decide +kernel
theorem dX5_dropTimer_44 : decode cX5_dropTimer 44 = .ok (.ireturn, 1) := by decide +kernel
theorem dX5_dropTimer_45 : decode cX5_dropTimer 45 = .ok (.iinc 2 1, 3) := by decide +kernel
theorem dX5_dropTimer_48 : decode cX5_dropTimer 48 = .ok (.goto (-46), 3) := by decide +kernel
theorem dX5_dropTimer_51 : decode cX5_dropTimer 51 = .ok (.iconst 0, 1) := by decide +kernel
theorem dX5_dropTimer_52 : decode cX5_dropTimer 52 = .ok (.ireturn, 1) := by decide +kernel
theorem dX5_beginBatch_0 : decode cX5_beginBatch 0 = .ok (.iconst 0, 1) := by decide +kernel
theorem dX5_beginBatch_1 : decode cX5_beginBatch 1 = .ok (.istore_n 2, 1) := by decide +kernel
theorem dX5_beginBatch_2 : decode cX5_beginBatch 2 = .ok (.iload_n 2, 1) := by decide +kernel
theorem dX5_beginBatch_3 : decode cX5_beginBatch 3 = .ok (.bipush 24, 2) := by decide +kernel
theorem dX5_beginBatch_5 : decode cX5_beginBatch 5 = .ok (.if_icmp .ge 65, 3) := by decide +kernel
theorem dX5_beginBatch_8 : decode cX5_beginBatch 8 = .ok (.aload_n 1, 1) := by decide +kernel
theorem dX5_beginBatch_9 : decode cX5_beginBatch 9 = .ok (.getfield 38, 3) := by decide +kernel
theorem dX5_beginBatch_12 : decode cX5_beginBatch 12 = .ok (.invokevirtual 42, 3) := by decide +kernel
theorem dX5_beginBatch_15 : decode cX5_beginBatch 15 = .ok (.ifCond .ne 55, 3) := by decide +kernel
theorem dX5_beginBatch_18 : decode cX5_beginBatch 18 = .ok (.aload_n 1, 1) := by decide +kernel
theorem dX5_beginBatch_19 : decode cX5_beginBatch 19 = .ok (.getfield 62, 3) := by decide +kernel
theorem dX5_beginBatch_22 : decode cX5_beginBatch 22 = .ok (.aload_n 0, 1) := by decide +kernel
theorem dX5_beginBatch_23 : decode cX5_beginBatch 23 = .ok (.getfield 71, 3) := by decide +kernel
theorem dX5_beginBatch_26 : decode cX5_beginBatch 26 = .ok (.invokevirtual 85, 3) := by decide +kernel
theorem dX5_beginBatch_29 : decode cX5_beginBatch 29 = .ok (.istore_n 3, 1) := by decide +kernel
theorem dX5_beginBatch_30 : decode cX5_beginBatch 30 = .ok (.iload_n 3, 1) := by decide +kernel
theorem dX5_beginBatch_31 : decode cX5_beginBatch 31 = .ok (.iconst (-1), 1) := by decide +kernel
theorem dX5_beginBatch_32 : decode cX5_beginBatch 32 = .ok (.if_icmp .ne 6, 3) := by decide +kernel
theorem dX5_beginBatch_35 : decode cX5_beginBatch 35 = .ok (.goto 35, 3) := by decide +kernel
theorem dX5_beginBatch_38 : decode cX5_beginBatch 38 = .ok (.aload_n 1, 1) := by decide +kernel
theorem dX5_beginBatch_39 : decode cX5_beginBatch 39 = .ok (.getfield 38, 3) := by decide +kernel
theorem dX5_beginBatch_42 : decode cX5_beginBatch 42 = .ok (.iconst 0, 1) := by decide +kernel
theorem dX5_beginBatch_43 : decode cX5_beginBatch 43 = .ok (.aload_n 1, 1) := by decide +kernel
theorem dX5_beginBatch_44 : decode cX5_beginBatch 44 = .ok (.getfield 62, 3) := by decide +kernel
theorem dX5_beginBatch_47 : decode cX5_beginBatch 47 = .ok (.getfield 89, 3) := by decide +kernel
theorem dX5_beginBatch_50 : decode cX5_beginBatch 50 = .ok (.iload_n 3, 1) := by decide +kernel
theorem dX5_beginBatch_51 : decode cX5_beginBatch 51 = .ok (.iaload, 1) := by decide +kernel
theorem dX5_beginBatch_52 : decode cX5_beginBatch 52 = .ok (.iconst 0, 1) := by decide +kernel
theorem dX5_beginBatch_53 : decode cX5_beginBatch 53 = .ok (.invokevirtual 56, 3) := by decide +kernel
theorem dX5_beginBatch_56 : decode cX5_beginBatch 56 = .ok (.aload_n 1, 1) := by decide +kernel
theorem dX5_beginBatch_57 : decode cX5_beginBatch 57 = .ok (.getfield 62, 3) := by decide +kernel
theorem dX5_beginBatch_60 : decode cX5_beginBatch 60 = .ok (.iload_n 3, 1) := by decide +kernel
theorem dX5_beginBatch_61 : decode cX5_beginBatch 61 = .ok (.invokevirtual 81, 3) := by decide +kernel
theorem dX5_beginBatch_64 : decode cX5_beginBatch 64 = .ok (.iinc 2 1, 3) := by decide +kernel
theorem dX5_beginBatch_67 : decode cX5_beginBatch 67 = .ok (.goto (-65), 3) := by decide +kernel
theorem dX5_beginBatch_70 : decode cX5_beginBatch 70 = .ok (.aload_n 1, 1) := by decide +kernel
theorem dX5_beginBatch_71 : decode cX5_beginBatch 71 = .ok (.aload_n 1, 1) := by decide +kernel
theorem dX5_beginBatch_72 : decode cX5_beginBatch 72 = .ok (.getfield 38, 3) := by decide +kernel
theorem dX5_beginBatch_75 : decode cX5_beginBatch 75 = .ok (.getfield 93, 3) := by decide +kernel
theorem dX5_beginBatch_78 : decode cX5_beginBatch 78 = .ok (.bipush 16, 2) := by decide +kernel
theorem dX5_beginBatch_80 : decode cX5_beginBatch 80 = .ok (.invokestatic 94, 3) := by decide +kernel
theorem dX5_beginBatch_83 : decode cX5_beginBatch 83 = .ok (.putfield 98, 3) := by decide +kernel
theorem dX5_beginBatch_86 : decode cX5_beginBatch 86 = .ok (.return_, 1) := by decide +kernel
theorem dX5_canShut_0 : decode cX5_canShut 0 = .ok (.iload_n 1, 1) := by decide +kernel
theorem dX5_canShut_1 : decode cX5_canShut 1 = .ok (.ifCond .lt 12, 3) := by decide +kernel
theorem dX5_canShut_4 : decode cX5_canShut 4 = .ok (.iload_n 2, 1) := by decide +kernel
theorem dX5_canShut_5 : decode cX5_canShut 5 = .ok (.iload_n 1, 1) := by decide +kernel
theorem dX5_canShut_6 : decode cX5_canShut 6 = .ok (.if_icmp .lt 7, 3) := by decide +kernel
theorem dX5_canShut_9 : decode cX5_canShut 9 = .ok (.iconst 1, 1) := by decide +kernel
theorem dX5_canShut_10 : decode cX5_canShut 10 = .ok (.goto 4, 3) := by decide +kernel
theorem dX5_canShut_13 : decode cX5_canShut 13 = .ok (.iconst 0, 1) := by decide +kernel
theorem dX5_canShut_14 : decode cX5_canShut 14 = .ok (.ireturn, 1) := by decide +kernel
theorem dX5_shutAll_0 : decode cX5_shutAll 0 = .ok (.iconst 0, 1) := by decide +kernel
theorem dX5_shutAll_1 : decode cX5_shutAll 1 = .ok (.istore_n 3, 1) := by decide +kernel
theorem dX5_shutAll_2 : decode cX5_shutAll 2 = .ok (.iload_n 3, 1) := by decide +kernel
theorem dX5_shutAll_3 : decode cX5_shutAll 3 = .ok (.aload_n 0, 1) := by decide +kernel
theorem dX5_shutAll_4 : decode cX5_shutAll 4 = .ok (.getfield 20, 3) := by decide +kernel
theorem dX5_shutAll_7 : decode cX5_shutAll 7 = .ok (.arraylength, 1) := by decide +kernel
theorem dX5_shutAll_8 : decode cX5_shutAll 8 = .ok (.if_icmp .ge 62, 3) := by decide +kernel
theorem dX5_shutAll_11 : decode cX5_shutAll 11 = .ok (.aload_n 0, 1) := by decide +kernel
theorem dX5_shutAll_12 : decode cX5_shutAll 12 = .ok (.getfield 20, 3) := by decide +kernel
theorem dX5_shutAll_15 : decode cX5_shutAll 15 = .ok (.iload_n 3, 1) := by decide +kernel
theorem dX5_shutAll_16 : decode cX5_shutAll 16 = .ok (.aaload, 1) := by decide +kernel
theorem dX5_shutAll_17 : decode cX5_shutAll 17 = .ok (.astore 4, 2) := by decide +kernel
theorem dX5_shutAll_19 : decode cX5_shutAll 19 = .ok (.aload 4, 2) := by decide +kernel
theorem dX5_shutAll_21 : decode cX5_shutAll 21 = .ok (.getfield 35, 3) := by decide +kernel
theorem dX5_shutAll_24 : decode cX5_shutAll 24 = .ok (.iconst 3, 1) := by decide +kernel
theorem dX5_shutAll_25 : decode cX5_shutAll 25 = .ok (.if_icmp .ge 39, 3) := by decide +kernel
theorem dX5_shutAll_28 : decode cX5_shutAll 28 = .ok (.aload 4, 2) := by decide +kernel
theorem dX5_shutAll_30 : decode cX5_shutAll 30 = .ok (.iload_n 1, 1) := by decide +kernel
theorem dX5_shutAll_31 : decode cX5_shutAll 31 = .ok (.putfield 101, 3) := by decide +kernel
theorem dX5_shutAll_34 : decode cX5_shutAll 34 = .ok (.aload 4, 2) := by decide +kernel
theorem dX5_shutAll_36 : decode cX5_shutAll 36 = .ok (.iload_n 2, 1) := by decide +kernel
theorem dX5_shutAll_37 : decode cX5_shutAll 37 = .ok (.putfield 104, 3) := by decide +kernel
theorem dX5_shutAll_40 : decode cX5_shutAll 40 = .ok (.aload 4, 2) := by decide +kernel
theorem dX5_shutAll_42 : decode cX5_shutAll 42 = .ok (.aload_n 0, 1) := by decide +kernel
theorem dX5_shutAll_43 : decode cX5_shutAll 43 = .ok (.getfield 71, 3) := by decide +kernel
theorem dX5_shutAll_46 : decode cX5_shutAll 46 = .ok (.putfield 107, 3) := by decide +kernel
theorem dX5_shutAll_49 : decode cX5_shutAll 49 = .ok (.aload 4, 2) := by decide +kernel
theorem dX5_shutAll_51 : decode cX5_shutAll 51 = .ok (.aload_n 0, 1) := by decide +kernel
theorem dX5_shutAll_52 : decode cX5_shutAll 52 = .ok (.getfield 71, 3) := by decide +kernel
theorem dX5_shutAll_55 : decode cX5_shutAll 55 = .ok (.putfield 110, 3) := by decide +kernel
theorem dX5_shutAll_58 : decode cX5_shutAll 58 = .ok (.aload_n 0, 1) := by decide +kernel
theorem dX5_shutAll_59 : decode cX5_shutAll 59 = .ok (.iload_n 3, 1) := by decide +kernel
theorem dX5_shutAll_60 : decode cX5_shutAll 60 = .ok (.iconst 3, 1) := by decide +kernel
theorem dX5_shutAll_61 : decode cX5_shutAll 61 = .ok (.invokevirtual 52, 3) := by decide +kernel
theorem dX5_shutAll_64 : decode cX5_shutAll 64 = .ok (.iinc 3 1, 3) := by decide +kernel
theorem dX5_shutAll_67 : decode cX5_shutAll 67 = .ok (.goto (-65), 3) := by decide +kernel
theorem dX5_shutAll_70 : decode cX5_shutAll 70 = .ok (.return_, 1) := by decide +kernel
theorem dX5_confirm_0 : decode cX5_confirm 0 = .ok (.aload_n 0, 1) := by decide +kernel
theorem dX5_confirm_1 : decode cX5_confirm 1 = .ok (.getfield 20, 3) := by decide +kernel
theorem dX5_confirm_4 : decode cX5_confirm 4 = .ok (.iload_n 1, 1) := by decide +kernel
theorem dX5_confirm_5 : decode cX5_confirm 5 = .ok (.aaload, 1) := by decide +kernel
theorem dX5_confirm_6 : decode cX5_confirm 6 = .ok (.astore_n 2, 1) := by decide +kernel
theorem dX5_confirm_7 : decode cX5_confirm 7 = .ok (.aload_n 2, 1) := by decide +kernel
theorem dX5_confirm_8 : decode cX5_confirm 8 = .ok (.getfield 35, 3) := by decide +kernel
theorem dX5_confirm_11 : decode cX5_confirm 11 = .ok (.iconst 3, 1) := by decide +kernel
theorem dX5_confirm_12 : decode cX5_confirm 12 = .ok (.if_icmp .ne 14, 3) := by decide +kernel
theorem dX5_confirm_15 : decode cX5_confirm 15 = .ok (.aload_n 2, 1) := by decide +kernel
theorem dX5_confirm_16 : decode cX5_confirm 16 = .ok (.aload_n 0, 1) := by decide +kernel
theorem dX5_confirm_17 : decode cX5_confirm 17 = .ok (.getfield 71, 3) := by decide +kernel
theorem dX5_confirm_20 : decode cX5_confirm 20 = .ok (.invokevirtual 113, 3) := by decide +kernel
theorem dX5_confirm_23 : decode cX5_confirm 23 = .ok (.ifCond .ne 5, 3) := by decide +kernel
theorem dX5_confirm_26 : decode cX5_confirm 26 = .ok (.iconst 0, 1) := by decide +kernel
theorem dX5_confirm_27 : decode cX5_confirm 27 = .ok (.ireturn, 1) := by decide +kernel
theorem dX5_confirm_28 : decode cX5_confirm 28 = .ok (.aload_n 0, 1) := by decide +kernel
theorem dX5_confirm_29 : decode cX5_confirm 29 = .ok (.iload_n 1, 1) := by decide +kernel
theorem dX5_confirm_30 : decode cX5_confirm 30 = .ok (.iconst 4, 1) := by decide +kernel
theorem dX5_confirm_31 : decode cX5_confirm 31 = .ok (.invokevirtual 52, 3) := by decide +kernel
theorem dX5_confirm_34 : decode cX5_confirm 34 = .ok (.aload_n 0, 1) := by decide +kernel
theorem dX5_confirm_35 : decode cX5_confirm 35 = .ok (.iload_n 1, 1) := by decide +kernel
theorem dX5_confirm_36 : decode cX5_confirm 36 = .ok (.iconst 5, 1) := by decide +kernel
theorem dX5_confirm_37 : decode cX5_confirm 37 = .ok (.invokevirtual 52, 3) := by decide +kernel
theorem dX5_confirm_40 : decode cX5_confirm 40 = .ok (.iconst 1, 1) := by decide +kernel
theorem dX5_confirm_41 : decode cX5_confirm 41 = .ok (.ireturn, 1) := by decide +kernel
theorem dX5_become_0 : decode cX5_become 0 = .ok (.aload_n 0, 1) := by decide +kernel
theorem dX5_become_1 : decode cX5_become 1 = .ok (.getfield 20, 3) := by decide +kernel
theorem dX5_become_4 : decode cX5_become 4 = .ok (.iload_n 1, 1) := by decide +kernel
theorem dX5_become_5 : decode cX5_become 5 = .ok (.aaload, 1) := by decide +kernel
theorem dX5_become_6 : decode cX5_become 6 = .ok (.iload_n 2, 1) := by decide +kernel
theorem dX5_become_7 : decode cX5_become 7 = .ok (.putfield 35, 3) := by decide +kernel
theorem dX5_become_10 : decode cX5_become 10 = .ok (.aload_n 0, 1) := by decide +kernel
theorem dX5_become_11 : decode cX5_become 11 = .ok (.getfield 12, 3) := by decide +kernel
theorem dX5_become_14 : decode cX5_become 14 = .ok (.iload_n 1, 1) := by decide +kernel
theorem dX5_become_15 : decode cX5_become 15 = .ok (.bipush 7, 2) := by decide +kernel
theorem dX5_become_17 : decode cX5_become 17 = .ok (.iload_n 2, 1) := by decide +kernel
theorem dX5_become_18 : decode cX5_become 18 = .ok (.invokevirtual 48, 3) := by decide +kernel
theorem dX5_become_21 : decode cX5_become 21 = .ok (.return_, 1) := by decide +kernel
theorem dX6_init_0 : decode cX6_init 0 = .ok (.aload_n 0, 1) := by decide +kernel
theorem dX6_init_1 : decode cX6_init 1 = .ok (.invokespecial 1, 3) := by decide +kernel
theorem dX6_init_4 : decode cX6_init 4 = .ok (.aload_n 0, 1) := by decide +kernel
theorem dX6_init_5 : decode cX6_init 5 = .ok (.bipush 24, 2) := by decide +kernel
theorem dX6_init_7 : decode cX6_init 7 = .ok (.newarray .int, 2) := by decide +kernel
theorem dX6_init_9 : decode cX6_init 9 = .ok (.putfield 9, 3) := by decide +kernel
theorem dX6_init_12 : decode cX6_init 12 = .ok (.aload_n 0, 1) := by decide +kernel
theorem dX6_init_13 : decode cX6_init 13 = .ok (.sipush 192, 3) := by decide +kernel
theorem dX6_init_16 : decode cX6_init 16 = .ok (.newarray .int, 2) := by decide +kernel
theorem dX6_init_18 : decode cX6_init 18 = .ok (.putfield 13, 3) := by decide +kernel
theorem dX6_init_21 : decode cX6_init 21 = .ok (.aload_n 0, 1) := by decide +kernel
theorem dX6_init_22 : decode cX6_init 22 = .ok (.sipush 192, 3) := by decide +kernel
theorem dX6_init_25 : decode cX6_init 25 = .ok (.newarray .int, 2) := by decide +kernel
theorem dX6_init_27 : decode cX6_init 27 = .ok (.putfield 16, 3) := by decide +kernel
theorem dX6_init_30 : decode cX6_init 30 = .ok (.aload_n 0, 1) := by decide +kernel
theorem dX6_init_31 : decode cX6_init 31 = .ok (.sipush 192, 3) := by decide +kernel
theorem dX6_init_34 : decode cX6_init 34 = .ok (.newarray .int, 2) := by decide +kernel
theorem dX6_init_36 : decode cX6_init 36 = .ok (.putfield 19, 3) := by decide +kernel
theorem dX6_init_39 : decode cX6_init 39 = .ok (.return_, 1) := by decide +kernel
theorem dX6_has_0 : decode cX6_has 0 = .ok (.iload_n 1, 1) := by decide +kernel
theorem dX6_has_1 : decode cX6_has 1 = .ok (.ifCond .lt 15, 3) := by decide +kernel
theorem dX6_has_4 : decode cX6_has 4 = .ok (.iload_n 1, 1) := by decide +kernel
theorem dX6_has_5 : decode cX6_has 5 = .ok (.aload_n 0, 1) := by decide +kernel
theorem dX6_has_6 : decode cX6_has 6 = .ok (.getfield 22, 3) := by decide +kernel
theorem dX6_has_9 : decode cX6_has 9 = .ok (.if_icmp .ge 7, 3) := by decide +kernel
theorem dX6_has_12 : decode cX6_has 12 = .ok (.iconst 1, 1) := by decide +kernel
theorem dX6_has_13 : decode cX6_has 13 = .ok (.goto 4, 3) := by decide +kernel
theorem dX6_has_16 : decode cX6_has 16 = .ok (.iconst 0, 1) := by decide +kernel
theorem dX6_has_17 : decode cX6_has 17 = .ok (.ireturn, 1) := by decide +kernel
theorem dX6_add_0 : decode cX6_add 0 = .ok (.aload_n 0, 1) := by decide +kernel
theorem dX6_add_1 : decode cX6_add 1 = .ok (.dup, 1) := by decide +kernel
theorem dX6_add_2 : decode cX6_add 2 = .ok (.getfield 22, 3) := by decide +kernel
theorem dX6_add_5 : decode cX6_add 5 = .ok (.iconst 1, 1) := by decide +kernel
theorem dX6_add_6 : decode cX6_add 6 = .ok (.iadd, 1) := by decide +kernel
theorem dX6_add_7 : decode cX6_add 7 = .ok (.putfield 22, 3) := by decide +kernel
theorem dX6_add_10 : decode cX6_add 10 = .ok (.aload_n 0, 1) := by decide +kernel
theorem dX6_add_11 : decode cX6_add 11 = .ok (.getfield 22, 3) := by decide +kernel
theorem dX6_add_14 : decode cX6_add 14 = .ok (.iconst 1, 1) := by decide +kernel
theorem dX6_add_15 : decode cX6_add 15 = .ok (.isub, 1) := by decide +kernel
theorem dX6_add_16 : decode cX6_add 16 = .ok (.ireturn, 1) := by decide +kernel
theorem dX6_addOrder_0 : decode cX6_addOrder 0 = .ok (.iload_n 1, 1) := by decide +kernel
theorem dX6_addOrder_1 : decode cX6_addOrder 1 = .ok (.bipush 8, 2) := by decide +kernel
theorem dX6_addOrder_3 : decode cX6_addOrder 3 = .ok (.imul, 1) := by decide +kernel
theorem dX6_addOrder_4 : decode cX6_addOrder 4 = .ok (.aload_n 0, 1) := by decide +kernel
theorem dX6_addOrder_5 : decode cX6_addOrder 5 = .ok (.getfield 9, 3) := by decide +kernel
theorem dX6_addOrder_8 : decode cX6_addOrder 8 = .ok (.iload_n 1, 1) := by decide +kernel
theorem dX6_addOrder_9 : decode cX6_addOrder 9 = .ok (.iaload, 1) := by decide +kernel
theorem dX6_addOrder_10 : decode cX6_addOrder 10 = .ok (.iadd, 1) := by decide +kernel
theorem dX6_addOrder_11 : decode cX6_addOrder 11 = .ok (.istore 5, 2) := by decide +kernel
theorem dX6_addOrder_13 : decode cX6_addOrder 13 = .ok (.aload_n 0, 1) := by decide +kernel
theorem dX6_addOrder_14 : decode cX6_addOrder 14 = .ok (.getfield 13, 3) := by decide +kernel
theorem dX6_addOrder_17 : decode cX6_addOrder 17 = .ok (.iload 5, 2) := by decide +kernel
theorem dX6_addOrder_19 : decode cX6_addOrder 19 = .ok (.iload_n 2, 1) := by decide +kernel
theorem dX6_addOrder_20 : decode cX6_addOrder 20 = .ok (.iastore, 1) := by decide +kernel
theorem dX6_addOrder_21 : decode cX6_addOrder 21 = .ok (.aload_n 0, 1) := by decide +kernel
theorem dX6_addOrder_22 : decode cX6_addOrder 22 = .ok (.getfield 16, 3) := by decide +kernel
theorem dX6_addOrder_25 : decode cX6_addOrder 25 = .ok (.iload 5, 2) := by decide +kernel
theorem dX6_addOrder_27 : decode cX6_addOrder 27 = .ok (.iload_n 3, 1) := by decide +kernel
theorem dX6_addOrder_28 : decode cX6_addOrder 28 = .ok (.iastore, 1) := by decide +kernel
theorem dX6_addOrder_29 : decode cX6_addOrder 29 = .ok (.aload_n 0, 1) := by decide +kernel
theorem dX6_addOrder_30 : decode cX6_addOrder 30 = .ok (.getfield 19, 3) := by decide +kernel
theorem dX6_addOrder_33 : decode cX6_addOrder 33 = .ok (.iload 5, 2) := by decide +kernel
theorem dX6_addOrder_35 : decode cX6_addOrder 35 = .ok (.iload 4, 2) := by decide +kernel
theorem dX6_addOrder_37 : decode cX6_addOrder 37 = .ok (.iastore, 1) := by decide +kernel
theorem dX6_addOrder_38 : decode cX6_addOrder 38 = .ok (.aload_n 0, 1) := by decide +kernel
theorem dX6_addOrder_39 : decode cX6_addOrder 39 = .ok (.getfield 9, 3) := by decide +kernel
theorem dX6_addOrder_42 : decode cX6_addOrder 42 = .ok (.iload_n 1, 1) := by decide +kernel
theorem dX6_addOrder_43 : decode cX6_addOrder 43 = .ok (.dup2, 1) := by decide +kernel
theorem dX6_addOrder_44 : decode cX6_addOrder 44 = .ok (.iaload, 1) := by decide +kernel
theorem dX6_addOrder_45 : decode cX6_addOrder 45 = .ok (.iconst 1, 1) := by decide +kernel
theorem dX6_addOrder_46 : decode cX6_addOrder 46 = .ok (.iadd, 1) := by decide +kernel
theorem dX6_addOrder_47 : decode cX6_addOrder 47 = .ok (.iastore, 1) := by decide +kernel
theorem dX6_addOrder_48 : decode cX6_addOrder 48 = .ok (.aload_n 0, 1) := by decide +kernel
theorem dX6_addOrder_49 : decode cX6_addOrder 49 = .ok (.getfield 9, 3) := by decide +kernel
theorem dX6_addOrder_52 : decode cX6_addOrder 52 = .ok (.iload_n 1, 1) := by decide +kernel
theorem dX6_addOrder_53 : decode cX6_addOrder 53 = .ok (.iaload, 1) := by decide +kernel
theorem dX6_addOrder_54 : decode cX6_addOrder 54 = .ok (.ireturn, 1) := by decide +kernel
theorem dX7_init_0 : decode cX7_init 0 = .ok (.aload_n 0, 1) := by decide +kernel
theorem dX7_init_1 : decode cX7_init 1 = .ok (.invokespecial 3, 3) := by decide +kernel
theorem dX7_init_4 : decode cX7_init 4 = .ok (.aload_n 0, 1) := by decide +kernel
theorem dX7_init_5 : decode cX7_init 5 = .ok (.bipush 24, 2) := by decide +kernel
theorem dX7_init_7 : decode cX7_init 7 = .ok (.newarray .int, 2) := by decide +kernel
theorem dX7_init_9 : decode cX7_init 9 = .ok (.putfield 11, 3) := by decide +kernel
theorem dX7_init_12 : decode cX7_init 12 = .ok (.aload_n 0, 1) := by decide +kernel
theorem dX7_init_13 : decode cX7_init 13 = .ok (.bipush 24, 2) := by decide +kernel
theorem dX7_init_15 : decode cX7_init 15 = .ok (.newarray .int, 2) := by decide +kernel
theorem dX7_init_17 : decode cX7_init 17 = .ok (.putfield 15, 3) := by decide +kernel
theorem dX7_init_20 : decode cX7_init 20 = .ok (.aload_n 0, 1) := by decide +kernel
theorem dX7_init_21 : decode cX7_init 21 = .ok (.bipush 24, 2) := by decide +kernel
theorem dX7_init_23 : decode cX7_init 23 = .ok (.newarray .long, 2) := by decide +kernel
theorem dX7_init_25 : decode cX7_init 25 = .ok (.putfield 18, 3) := by decide +kernel
theorem dX7_init_28 : decode cX7_init 28 = .ok (.return_, 1) := by decide +kernel
theorem dX7_put_0 : decode cX7_put 0 = .ok (.aload_n 0, 1) := by decide +kernel
theorem dX7_put_1 : decode cX7_put 1 = .ok (.getfield 11, 3) := by decide +kernel
theorem dX7_put_4 : decode cX7_put 4 = .ok (.aload_n 0, 1) := by decide +kernel
theorem dX7_put_5 : decode cX7_put 5 = .ok (.getfield 22, 3) := by decide +kernel
theorem dX7_put_8 : decode cX7_put 8 = .ok (.iload_n 1, 1) := by decide +kernel
theorem dX7_put_9 : decode cX7_put 9 = .ok (.iastore, 1) := by decide +kernel
theorem dX7_put_10 : decode cX7_put 10 = .ok (.aload_n 0, 1) := by decide +kernel
theorem dX7_put_11 : decode cX7_put 11 = .ok (.getfield 15, 3) := by decide +kernel
theorem dX7_put_14 : decode cX7_put 14 = .ok (.aload_n 0, 1) := by decide +kernel
theorem dX7_put_15 : decode cX7_put 15 = .ok (.getfield 22, 3) := by decide +kernel
theorem dX7_put_18 : decode cX7_put 18 = .ok (.iload_n 2, 1) := by decide +kernel
theorem dX7_put_19 : decode cX7_put 19 = .ok (.iastore, 1) := by decide +kernel
theorem dX7_put_20 : decode cX7_put 20 = .ok (.aload_n 0, 1) := by decide +kernel
theorem dX7_put_21 : decode cX7_put 21 = .ok (.getfield 18, 3) := by decide +kernel
theorem dX7_put_24 : decode cX7_put 24 = .ok (.aload_n 0, 1) := by decide +kernel
theorem dX7_put_25 : decode cX7_put 25 = .ok (.getfield 22, 3) := by decide +kernel
theorem dX7_put_28 : decode cX7_put 28 = .ok (.lload_n 3, 1) := by decide +kernel
theorem dX7_put_29 : decode cX7_put 29 = .ok (.lastore, 1) := by decide +kernel
theorem dX7_put_30 : decode cX7_put 30 = .ok (.aload_n 0, 1) := by decide +kernel
theorem dX7_put_31 : decode cX7_put 31 = .ok (.dup, 1) := by decide +kernel
theorem dX7_put_32 : decode cX7_put 32 = .ok (.getfield 22, 3) := by decide +kernel
theorem dX7_put_35 : decode cX7_put 35 = .ok (.iconst 1, 1) := by decide +kernel
theorem dX7_put_36 : decode cX7_put 36 = .ok (.iadd, 1) := by decide +kernel
theorem dX7_put_37 : decode cX7_put 37 = .ok (.putfield 22, 3) := by decide +kernel
theorem dX7_put_40 : decode cX7_put 40 = .ok (.return_, 1) := by decide +kernel
theorem dX7_placeOf_0 : decode cX7_placeOf 0 = .ok (.iconst 0, 1) := by decide +kernel
theorem dX7_placeOf_1 : decode cX7_placeOf 1 = .ok (.istore_n 2, 1) := by decide +kernel
theorem dX7_placeOf_2 : decode cX7_placeOf 2 = .ok (.iload_n 2, 1) := by decide +kernel
theorem dX7_placeOf_3 : decode cX7_placeOf 3 = .ok (.aload_n 0, 1) := by decide +kernel
theorem dX7_placeOf_4 : decode cX7_placeOf 4 = .ok (.getfield 22, 3) := by decide +kernel
theorem dX7_placeOf_7 : decode cX7_placeOf 7 = .ok (.if_icmp .ge 21, 3) := by decide +kernel
theorem dX7_placeOf_10 : decode cX7_placeOf 10 = .ok (.aload_n 0, 1) := by decide +kernel
theorem dX7_placeOf_11 : decode cX7_placeOf 11 = .ok (.getfield 11, 3) := by decide +kernel
theorem dX7_placeOf_14 : decode cX7_placeOf 14 = .ok (.iload_n 2, 1) := by decide +kernel
theorem dX7_placeOf_15 : decode cX7_placeOf 15 = .ok (.iaload, 1) := by decide +kernel
theorem dX7_placeOf_16 : decode cX7_placeOf 16 = .ok (.iload_n 1, 1) := by decide +kernel
theorem dX7_placeOf_17 : decode cX7_placeOf 17 = .ok (.if_icmp .ne 5, 3) := by decide +kernel
theorem dX7_placeOf_20 : decode cX7_placeOf 20 = .ok (.iload_n 2, 1) := by decide +kernel
theorem dX7_placeOf_21 : decode cX7_placeOf 21 = .ok (.ireturn, 1) := by decide +kernel
theorem dX7_placeOf_22 : decode cX7_placeOf 22 = .ok (.iinc 2 1, 3) := by decide +kernel
theorem dX7_placeOf_25 : decode cX7_placeOf 25 = .ok (.goto (-23), 3) := by decide +kernel
theorem dX7_placeOf_28 : decode cX7_placeOf 28 = .ok (.iconst (-1), 1) := by decide +kernel
theorem dX7_placeOf_29 : decode cX7_placeOf 29 = .ok (.ireturn, 1) := by decide +kernel
theorem dX7_firstDue_0 : decode cX7_firstDue 0 = .ok (.iconst (-1), 1) := by decide +kernel
theorem dX7_firstDue_1 : decode cX7_firstDue 1 = .ok (.istore_n 3, 1) := by decide +kernel
theorem dX7_firstDue_2 : decode cX7_firstDue 2 = .ok (.iconst 0, 1) := by decide +kernel
theorem dX7_firstDue_3 : decode cX7_firstDue 3 = .ok (.istore 4, 2) := by decide +kernel
theorem dX7_firstDue_5 : decode cX7_firstDue 5 = .ok (.iload 4, 2) := by decide +kernel
theorem dX7_firstDue_7 : decode cX7_firstDue 7 = .ok (.aload_n 0, 1) := by decide +kernel
theorem dX7_firstDue_8 : decode cX7_firstDue 8 = .ok (.getfield 22, 3) := by decide +kernel
theorem dX7_firstDue_11 : decode cX7_firstDue 11 = .ok (.if_icmp .ge 39, 3) := by decide +kernel
theorem dX7_firstDue_14 : decode cX7_firstDue 14 = .ok (.aload_n 0, 1) := by decide +kernel
theorem dX7_firstDue_15 : decode cX7_firstDue 15 = .ok (.getfield 18, 3) := by decide +kernel
theorem dX7_firstDue_18 : decode cX7_firstDue 18 = .ok (.iload 4, 2) := by decide +kernel
theorem dX7_firstDue_20 : decode cX7_firstDue 20 = .ok (.laload, 1) := by decide +kernel
theorem dX7_firstDue_21 : decode cX7_firstDue 21 = .ok (.lload_n 1, 1) := by decide +kernel
theorem dX7_firstDue_22 : decode cX7_firstDue 22 = .ok (.lcmp, 1) := by decide +kernel
theorem dX7_firstDue_23 : decode cX7_firstDue 23 = .ok (.ifCond .gt 21, 3) := by decide +kernel
theorem dX7_firstDue_26 : decode cX7_firstDue 26 = .ok (.iload_n 3, 1) := by decide +kernel
theorem dX7_firstDue_27 : decode cX7_firstDue 27 = .ok (.iconst (-1), 1) := by decide +kernel
theorem dX7_firstDue_28 : decode cX7_firstDue 28 = .ok (.if_icmp .eq 13, 3) := by decide +kernel
theorem dX7_firstDue_31 : decode cX7_firstDue 31 = .ok (.aload_n 0, 1) := by decide +kernel
theorem dX7_firstDue_32 : decode cX7_firstDue 32 = .ok (.iload 4, 2) := by decide +kernel
theorem dX7_firstDue_34 : decode cX7_firstDue 34 = .ok (.iload_n 3, 1) := by decide +kernel
theorem dX7_firstDue_35 : decode cX7_firstDue 35 = .ok (.invokevirtual 26, 3) := by decide +kernel
theorem dX7_firstDue_38 : decode cX7_firstDue 38 = .ok (.ifCond .eq 6, 3) := by decide +kernel
theorem dX7_firstDue_41 : decode cX7_firstDue 41 = .ok (.iload 4, 2) := by decide +kernel
theorem dX7_firstDue_43 : decode cX7_firstDue 43 = .ok (.istore_n 3, 1) := by decide +kernel
theorem dX7_firstDue_44 : decode cX7_firstDue 44 = .ok (.iinc 4 1, 3) := by decide +kernel
theorem dX7_firstDue_47 : decode cX7_firstDue 47 = .ok (.goto (-42), 3) := by decide +kernel
theorem dX7_firstDue_50 : decode cX7_firstDue 50 = .ok (.iload_n 3, 1) := by decide +kernel
theorem dX7_firstDue_51 : decode cX7_firstDue 51 = .ok (.ireturn, 1) := by decide +kernel
theorem dX7_isBefore_0 : decode cX7_isBefore 0 = .ok (.aload_n 0, 1) := by decide +kernel
theorem dX7_isBefore_1 : decode cX7_isBefore 1 = .ok (.getfield 18, 3) := by decide +kernel
theorem dX7_isBefore_4 : decode cX7_isBefore 4 = .ok (.iload_n 1, 1) := by decide +kernel
theorem dX7_isBefore_5 : decode cX7_isBefore 5 = .ok (.laload, 1) := by decide +kernel
theorem dX7_isBefore_6 : decode cX7_isBefore 6 = .ok (.aload_n 0, 1) := by decide +kernel
theorem dX7_isBefore_7 : decode cX7_isBefore 7 = .ok (.getfield 18, 3) := by decide +kernel
theorem dX7_isBefore_10 : decode cX7_isBefore 10 = .ok (.iload_n 2, 1) := by decide +kernel
theorem dX7_isBefore_11 : decode cX7_isBefore 11 = .ok (.laload, 1) := by decide +kernel
theorem dX7_isBefore_12 : decode cX7_isBefore 12 = .ok (.lcmp, 1) := by decide +kernel
theorem dX7_isBefore_13 : decode cX7_isBefore 13 = .ok (.ifCond .eq 27, 3) := by decide +kernel
theorem dX7_isBefore_16 : decode cX7_isBefore 16 = .ok (.aload_n 0, 1) := by decide +kernel
theorem dX7_isBefore_17 : decode cX7_isBefore 17 = .ok (.getfield 18, 3) := by decide +kernel
theorem dX7_isBefore_20 : decode cX7_isBefore 20 = .ok (.iload_n 1, 1) := by decide +kernel
theorem dX7_isBefore_21 : decode cX7_isBefore 21 = .ok (.laload, 1) := by decide +kernel
theorem dX7_isBefore_22 : decode cX7_isBefore 22 = .ok (.aload_n 0, 1) := by decide +kernel
theorem dX7_isBefore_23 : decode cX7_isBefore 23 = .ok (.getfield 18, 3) := by decide +kernel
theorem dX7_isBefore_26 : decode cX7_isBefore 26 = .ok (.iload_n 2, 1) := by decide +kernel
theorem dX7_isBefore_27 : decode cX7_isBefore 27 = .ok (.laload, 1) := by decide +kernel
theorem dX7_isBefore_28 : decode cX7_isBefore 28 = .ok (.lcmp, 1) := by decide +kernel
theorem dX7_isBefore_29 : decode cX7_isBefore 29 = .ok (.ifCond .ge 7, 3) := by decide +kernel
theorem dX7_isBefore_32 : decode cX7_isBefore 32 = .ok (.iconst 1, 1) := by decide +kernel
theorem dX7_isBefore_33 : decode cX7_isBefore 33 = .ok (.goto 27, 3) := by decide +kernel
theorem dX7_isBefore_36 : decode cX7_isBefore 36 = .ok (.iconst 0, 1) := by decide +kernel
theorem dX7_isBefore_37 : decode cX7_isBefore 37 = .ok (.goto 23, 3) := by decide +kernel
theorem dX7_isBefore_40 : decode cX7_isBefore 40 = .ok (.aload_n 0, 1) := by decide +kernel
theorem dX7_isBefore_41 : decode cX7_isBefore 41 = .ok (.getfield 11, 3) := by decide +kernel
theorem dX7_isBefore_44 : decode cX7_isBefore 44 = .ok (.iload_n 1, 1) := by decide +kernel
theorem dX7_isBefore_45 : decode cX7_isBefore 45 = .ok (.iaload, 1) := by decide +kernel
theorem dX7_isBefore_46 : decode cX7_isBefore 46 = .ok (.aload_n 0, 1) := by decide +kernel
theorem dX7_isBefore_47 : decode cX7_isBefore 47 = .ok (.getfield 11, 3) := by decide +kernel
theorem dX7_isBefore_50 : decode cX7_isBefore 50 = .ok (.iload_n 2, 1) := by decide +kernel
theorem dX7_isBefore_51 : decode cX7_isBefore 51 = .ok (.iaload, 1) := by decide +kernel
theorem dX7_isBefore_52 : decode cX7_isBefore 52 = .ok (.if_icmp .ge 7, 3) := by decide +kernel
theorem dX7_isBefore_55 : decode cX7_isBefore 55 = .ok (.iconst 1, 1) := by decide +kernel
theorem dX7_isBefore_56 : decode cX7_isBefore 56 = .ok (.goto 4, 3) := by decide +kernel
theorem dX7_isBefore_59 : decode cX7_isBefore 59 = .ok (.iconst 0, 1) := by decide +kernel
theorem dX7_isBefore_60 : decode cX7_isBefore 60 = .ok (.ireturn, 1) := by decide +kernel
theorem dX7_removeAt_0 : decode cX7_removeAt 0 = .ok (.aload_n 0, 1) := by decide +kernel
theorem dX7_removeAt_1 : decode cX7_removeAt 1 = .ok (.dup, 1) := by decide +kernel
theorem dX7_removeAt_2 : decode cX7_removeAt 2 = .ok (.getfield 22, 3) := by decide +kernel
theorem dX7_removeAt_5 : decode cX7_removeAt 5 = .ok (.iconst 1, 1) := by decide +kernel
theorem dX7_removeAt_6 : decode cX7_removeAt 6 = .ok (.isub, 1) := by decide +kernel
theorem dX7_removeAt_7 : decode cX7_removeAt 7 = .ok (.putfield 22, 3) := by decide +kernel
theorem dX7_removeAt_10 : decode cX7_removeAt 10 = .ok (.aload_n 0, 1) := by decide +kernel
theorem dX7_removeAt_11 : decode cX7_removeAt 11 = .ok (.getfield 11, 3) := by decide +kernel
theorem dX7_removeAt_14 : decode cX7_removeAt 14 = .ok (.iload_n 1, 1) := by decide +kernel
theorem dX7_removeAt_15 : decode cX7_removeAt 15 = .ok (.aload_n 0, 1) := by decide +kernel
theorem dX7_removeAt_16 : decode cX7_removeAt 16 = .ok (.getfield 11, 3) := by decide +kernel
theorem dX7_removeAt_19 : decode cX7_removeAt 19 = .ok (.aload_n 0, 1) := by decide +kernel
theorem dX7_removeAt_20 : decode cX7_removeAt 20 = .ok (.getfield 22, 3) := by decide +kernel
theorem dX7_removeAt_23 : decode cX7_removeAt 23 = .ok (.iaload, 1) := by decide +kernel
theorem dX7_removeAt_24 : decode cX7_removeAt 24 = .ok (.iastore, 1) := by decide +kernel
theorem dX7_removeAt_25 : decode cX7_removeAt 25 = .ok (.aload_n 0, 1) := by decide +kernel
theorem dX7_removeAt_26 : decode cX7_removeAt 26 = .ok (.getfield 15, 3) := by decide +kernel
theorem dX7_removeAt_29 : decode cX7_removeAt 29 = .ok (.iload_n 1, 1) := by decide +kernel
theorem dX7_removeAt_30 : decode cX7_removeAt 30 = .ok (.aload_n 0, 1) := by decide +kernel
theorem dX7_removeAt_31 : decode cX7_removeAt 31 = .ok (.getfield 15, 3) := by decide +kernel
theorem dX7_removeAt_34 : decode cX7_removeAt 34 = .ok (.aload_n 0, 1) := by decide +kernel
theorem dX7_removeAt_35 : decode cX7_removeAt 35 = .ok (.getfield 22, 3) := by decide +kernel
theorem dX7_removeAt_38 : decode cX7_removeAt 38 = .ok (.iaload, 1) := by decide +kernel
theorem dX7_removeAt_39 : decode cX7_removeAt 39 = .ok (.iastore, 1) := by decide +kernel
theorem dX7_removeAt_40 : decode cX7_removeAt 40 = .ok (.aload_n 0, 1) := by decide +kernel
theorem dX7_removeAt_41 : decode cX7_removeAt 41 = .ok (.getfield 18, 3) := by decide +kernel
theorem dX7_removeAt_44 : decode cX7_removeAt 44 = .ok (.iload_n 1, 1) := by decide +kernel
theorem dX7_removeAt_45 : decode cX7_removeAt 45 = .ok (.aload_n 0, 1) := by decide +kernel
theorem dX7_removeAt_46 : decode cX7_removeAt 46 = .ok (.getfield 18, 3) := by decide +kernel
theorem dX7_removeAt_49 : decode cX7_removeAt 49 = .ok (.aload_n 0, 1) := by decide +kernel
theorem dX7_removeAt_50 : decode cX7_removeAt 50 = .ok (.getfield 22, 3) := by decide +kernel
theorem dX7_removeAt_53 : decode cX7_removeAt 53 = .ok (.laload, 1) := by decide +kernel
theorem dX7_removeAt_54 : decode cX7_removeAt 54 = .ok (.lastore, 1) := by decide +kernel
theorem dX7_removeAt_55 : decode cX7_removeAt 55 = .ok (.return_, 1) := by decide +kernel
theorem dX8_init_0 : decode cX8_init 0 = .ok (.aload_n 0, 1) := by decide +kernel
theorem dX8_init_1 : decode cX8_init 1 = .ok (.invokespecial 1, 3) := by decide +kernel
theorem dX8_init_4 : decode cX8_init 4 = .ok (.aload_n 0, 1) := by decide +kernel
theorem dX8_init_5 : decode cX8_init 5 = .ok (.sipush 900, 3) := by decide +kernel
theorem dX8_init_8 : decode cX8_init 8 = .ok (.newarray .int, 2) := by decide +kernel
theorem dX8_init_10 : decode cX8_init 10 = .ok (.putfield 9, 3) := by decide +kernel
theorem dX8_init_13 : decode cX8_init 13 = .ok (.return_, 1) := by decide +kernel
theorem dX8_log_0 : decode cX8_log 0 = .ok (.aload_n 0, 1) := by decide +kernel
theorem dX8_log_1 : decode cX8_log 1 = .ok (.getfield 13, 3) := by decide +kernel
theorem dX8_log_4 : decode cX8_log 4 = .ok (.sipush 300, 3) := by decide +kernel
theorem dX8_log_7 : decode cX8_log 7 = .ok (.irem, 1) := by decide +kernel
theorem dX8_log_8 : decode cX8_log 8 = .ok (.iconst 3, 1) := by decide +kernel
theorem dX8_log_9 : decode cX8_log 9 = .ok (.imul, 1) := by decide +kernel
theorem dX8_log_10 : decode cX8_log 10 = .ok (.istore 4, 2) := by decide +kernel
theorem dX8_log_12 : decode cX8_log 12 = .ok (.aload_n 0, 1) := by decide +kernel
theorem dX8_log_13 : decode cX8_log 13 = .ok (.getfield 9, 3) := by decide +kernel
theorem dX8_log_16 : decode cX8_log 16 = .ok (.iload 4, 2) := by decide +kernel
theorem dX8_log_18 : decode cX8_log 18 = .ok (.iload_n 1, 1) := by decide +kernel
theorem dX8_log_19 : decode cX8_log 19 = .ok (.iastore, 1) := by decide +kernel
theorem dX8_log_20 : decode cX8_log 20 = .ok (.aload_n 0, 1) := by decide +kernel
theorem dX8_log_21 : decode cX8_log 21 = .ok (.getfield 9, 3) := by decide +kernel
theorem dX8_log_24 : decode cX8_log 24 = .ok (.iload 4, 2) := by decide +kernel
theorem dX8_log_26 : decode cX8_log 26 = .ok (.iconst 1, 1) := by decide +kernel
theorem dX8_log_27 : decode cX8_log 27 = .ok (.iadd, 1) := by decide +kernel
theorem dX8_log_28 : decode cX8_log 28 = .ok (.iload_n 2, 1) := by decide +kernel
theorem dX8_log_29 : decode cX8_log 29 = .ok (.iastore, 1) := by decide +kernel
theorem dX8_log_30 : decode cX8_log 30 = .ok (.aload_n 0, 1) := by decide +kernel
theorem dX8_log_31 : decode cX8_log 31 = .ok (.getfield 9, 3) := by decide +kernel
theorem dX8_log_34 : decode cX8_log 34 = .ok (.iload 4, 2) := by decide +kernel
theorem dX8_log_36 : decode cX8_log 36 = .ok (.iconst 2, 1) := by decide +kernel
theorem dX8_log_37 : decode cX8_log 37 = .ok (.iadd, 1) := by decide +kernel
theorem dX8_log_38 : decode cX8_log 38 = .ok (.iload_n 3, 1) := by decide +kernel
theorem dX8_log_39 : decode cX8_log 39 = .ok (.iastore, 1) := by decide +kernel
theorem dX8_log_40 : decode cX8_log 40 = .ok (.aload_n 0, 1) := by decide +kernel
theorem dX8_log_41 : decode cX8_log 41 = .ok (.dup, 1) := by decide +kernel
theorem dX8_log_42 : decode cX8_log 42 = .ok (.getfield 13, 3) := by decide +kernel
theorem dX8_log_45 : decode cX8_log 45 = .ok (.iconst 1, 1) := by decide +kernel
theorem dX8_log_46 : decode cX8_log 46 = .ok (.iadd, 1) := by decide +kernel
theorem dX8_log_47 : decode cX8_log 47 = .ok (.putfield 13, 3) := by decide +kernel
theorem dX8_log_50 : decode cX8_log 50 = .ok (.return_, 1) := by decide +kernel
theorem dX8_keeps_0 : decode cX8_keeps 0 = .ok (.iload_n 1, 1) := by decide +kernel
theorem dX8_keeps_1 : decode cX8_keeps 1 = .ok (.ifCond .lt 27, 3) := by decide +kernel
theorem dX8_keeps_4 : decode cX8_keeps 4 = .ok (.iload_n 1, 1) := by decide +kernel
theorem dX8_keeps_5 : decode cX8_keeps 5 = .ok (.aload_n 0, 1) := by decide +kernel
theorem dX8_keeps_6 : decode cX8_keeps 6 = .ok (.getfield 13, 3) := by decide +kernel
theorem dX8_keeps_9 : decode cX8_keeps 9 = .ok (.if_icmp .ge 19, 3) := by decide +kernel
theorem dX8_keeps_12 : decode cX8_keeps 12 = .ok (.iload_n 1, 1) := by decide +kernel
theorem dX8_keeps_13 : decode cX8_keeps 13 = .ok (.aload_n 0, 1) := by decide +kernel
theorem dX8_keeps_14 : decode cX8_keeps 14 = .ok (.getfield 13, 3) := by decide +kernel
theorem dX8_keeps_17 : decode cX8_keeps 17 = .ok (.sipush 300, 3) := by decide +kernel
theorem dX8_keeps_20 : decode cX8_keeps 20 = .ok (.isub, 1) := by decide +kernel
theorem dX8_keeps_21 : decode cX8_keeps 21 = .ok (.if_icmp .lt 7, 3) := by decide +kernel
theorem dX8_keeps_24 : decode cX8_keeps 24 = .ok (.iconst 1, 1) := by decide +kernel
theorem dX8_keeps_25 : decode cX8_keeps 25 = .ok (.goto 4, 3) := by decide +kernel
theorem dX8_keeps_28 : decode cX8_keeps 28 = .ok (.iconst 0, 1) := by decide +kernel
theorem dX8_keeps_29 : decode cX8_keeps 29 = .ok (.ireturn, 1) := by decide +kernel
theorem dX8_read_0 : decode cX8_read 0 = .ok (.aload_n 0, 1) := by decide +kernel
theorem dX8_read_1 : decode cX8_read 1 = .ok (.getfield 9, 3) := by decide +kernel
theorem dX8_read_4 : decode cX8_read 4 = .ok (.iload_n 1, 1) := by decide +kernel
theorem dX8_read_5 : decode cX8_read 5 = .ok (.sipush 300, 3) := by decide +kernel
theorem dX8_read_8 : decode cX8_read 8 = .ok (.irem, 1) := by decide +kernel
theorem dX8_read_9 : decode cX8_read 9 = .ok (.iconst 3, 1) := by decide +kernel
theorem dX8_read_10 : decode cX8_read 10 = .ok (.imul, 1) := by decide +kernel
theorem dX8_read_11 : decode cX8_read 11 = .ok (.iload_n 2, 1) := by decide +kernel
theorem dX8_read_12 : decode cX8_read 12 = .ok (.iadd, 1) := by decide +kernel
theorem dX8_read_13 : decode cX8_read 13 = .ok (.iaload, 1) := by decide +kernel
theorem dX8_read_14 : decode cX8_read 14 = .ok (.ireturn, 1) := by decide +kernel
theorem dX9_init_0 : decode cX9_init 0 = .ok (.aload_n 0, 1) := by decide +kernel
theorem dX9_init_1 : decode cX9_init 1 = .ok (.invokespecial 1, 3) := by decide +kernel
theorem dX9_init_4 : decode cX9_init 4 = .ok (.aload_n 0, 1) := by decide +kernel
theorem dX9_init_5 : decode cX9_init 5 = .ok (.new 7, 3) := by decide +kernel
theorem dX9_init_8 : decode cX9_init 8 = .ok (.dup, 1) := by decide +kernel
theorem dX9_init_9 : decode cX9_init 9 = .ok (.iload_n 1, 1) := by decide +kernel
theorem dX9_init_10 : decode cX9_init 10 = .ok (.iconst 1, 1) := by decide +kernel
theorem dX9_init_11 : decode cX9_init 11 = .ok (.if_icmp .lt 13, 3) := by decide +kernel
theorem dX9_init_14 : decode cX9_init 14 = .ok (.iload_n 1, 1) := by decide +kernel
theorem dX9_init_15 : decode cX9_init 15 = .ok (.bipush 8, 2) := by decide +kernel
theorem dX9_init_17 : decode cX9_init 17 = .ok (.if_icmp .gt 7, 3) := by decide +kernel
theorem dX9_init_20 : decode cX9_init 20 = .ok (.iload_n 1, 1) := by decide +kernel
theorem dX9_init_21 : decode cX9_init 21 = .ok (.goto 4, 3) := by decide +kernel
theorem dX9_init_24 : decode cX9_init 24 = .ok (.iconst 1, 1) := by decide +kernel
theorem dX9_init_25 : decode cX9_init 25 = .ok (.invokespecial 11, 3) := by decide +kernel
theorem dX9_init_28 : decode cX9_init 28 = .ok (.putfield 14, 3) := by decide +kernel
theorem dX9_init_31 : decode cX9_init 31 = .ok (.aload_n 0, 1) := by decide +kernel
theorem dX9_init_32 : decode cX9_init 32 = .ok (.aload_n 0, 1) := by decide +kernel
theorem dX9_init_33 : decode cX9_init 33 = .ok (.getfield 14, 3) := by decide +kernel
theorem dX9_init_36 : decode cX9_init 36 = .ok (.getfield 18, 3) := by decide +kernel
theorem dX9_init_39 : decode cX9_init 39 = .ok (.putfield 22, 3) := by decide +kernel
theorem dX9_init_42 : decode cX9_init 42 = .ok (.aload_n 0, 1) := by decide +kernel
theorem dX9_init_43 : decode cX9_init 43 = .ok (.aload_n 0, 1) := by decide +kernel
theorem dX9_init_44 : decode cX9_init 44 = .ok (.getfield 22, 3) := by decide +kernel
theorem dX9_init_47 : decode cX9_init 47 = .ok (.getfield 23, 3) := by decide +kernel
theorem dX9_init_50 : decode cX9_init 50 = .ok (.putfield 29, 3) := by decide +kernel
theorem dX9_init_53 : decode cX9_init 53 = .ok (.aload_n 0, 1) := by decide +kernel
theorem dX9_init_54 : decode cX9_init 54 = .ok (.aload_n 0, 1) := by decide +kernel
theorem dX9_init_55 : decode cX9_init 55 = .ok (.getfield 14, 3) := by decide +kernel
theorem dX9_init_58 : decode cX9_init 58 = .ok (.getfield 30, 3) := by decide +kernel
theorem dX9_init_61 : decode cX9_init 61 = .ok (.putfield 34, 3) := by decide +kernel
theorem dX9_init_64 : decode cX9_init 64 = .ok (.aload_n 0, 1) := by decide +kernel
theorem dX9_init_65 : decode cX9_init 65 = .ok (.aload_n 0, 1) := by decide +kernel
theorem dX9_init_66 : decode cX9_init 66 = .ok (.getfield 14, 3) := by decide +kernel
theorem dX9_init_69 : decode cX9_init 69 = .ok (.getfield 35, 3) := by decide +kernel
theorem dX9_init_72 : decode cX9_init 72 = .ok (.putfield 39, 3) := by decide +kernel
theorem dX9_init_75 : decode cX9_init 75 = .ok (.aload_n 0, 1) := by decide +kernel
theorem dX9_init_76 : decode cX9_init 76 = .ok (.aload_n 0, 1) := by decide +kernel
theorem dX9_init_77 : decode cX9_init 77 = .ok (.getfield 14, 3) := by decide +kernel
theorem dX9_init_80 : decode cX9_init 80 = .ok (.getfield 40, 3) := by decide +kernel
theorem dX9_init_83 : decode cX9_init 83 = .ok (.putfield 44, 3) := by decide +kernel
theorem dX9_init_86 : decode cX9_init 86 = .ok (.return_, 1) := by decide +kernel
theorem dX9_task_0 : decode cX9_task 0 = .ok (.aload_n 0, 1) := by decide +kernel
theorem dX9_task_1 : decode cX9_task 1 = .ok (.getfield 34, 3) := by decide +kernel
theorem dX9_task_4 : decode cX9_task 4 = .ok (.getfield 45, 3) := by decide +kernel
theorem dX9_task_7 : decode cX9_task 7 = .ok (.bipush 24, 2) := by decide +kernel
theorem dX9_task_9 : decode cX9_task 9 = .ok (.if_icmp .lt 13, 3) := by decide +kernel
theorem dX9_task_12 : decode cX9_task 12 = .ok (.new 51, 3) := by decide +kernel
theorem dX9_task_15 : decode cX9_task 15 = .ok (.dup, 1) := by decide +kernel
theorem dX9_task_16 : decode cX9_task 16 = .ok (.ldc 53, 2) := by decide +kernel
theorem dX9_task_18 : decode cX9_task 18 = .ok (.invokespecial 55, 3) := by decide +kernel
theorem dX9_task_21 : decode cX9_task 21 = .ok (.athrow, 1) := by decide +kernel
theorem dX9_task_22 : decode cX9_task 22 = .ok (.aload_n 0, 1) := by decide +kernel
theorem dX9_task_23 : decode cX9_task 23 = .ok (.getfield 34, 3) := by decide +kernel
theorem dX9_task_26 : decode cX9_task 26 = .ok (.invokevirtual 58, 3) := by decide +kernel
theorem dX9_task_29 : decode cX9_task 29 = .ok (.ireturn, 1) := by decide +kernel
theorem dX9_order_0 : decode cX9_order 0 = .ok (.aload_n 0, 1) := by decide +kernel
theorem dX9_order_1 : decode cX9_order 1 = .ok (.iload_n 1, 1) := by decide +kernel
theorem dX9_order_2 : decode cX9_order 2 = .ok (.invokevirtual 62, 3) := by decide +kernel
theorem dX9_order_5 : decode cX9_order 5 = .ok (.iload_n 2, 1) := by decide +kernel
theorem dX9_order_6 : decode cX9_order 6 = .ok (.ifCond .lt 9, 3) := by decide +kernel
theorem dX9_order_9 : decode cX9_order 9 = .ok (.iload_n 2, 1) := by decide +kernel
theorem dX9_order_10 : decode cX9_order 10 = .ok (.bipush 13, 2) := by decide +kernel
theorem dX9_order_12 : decode cX9_order 12 = .ok (.if_icmp .le 13, 3) := by decide +kernel
theorem dX9_order_15 : decode cX9_order 15 = .ok (.new 65, 3) := by decide +kernel
theorem dX9_order_18 : decode cX9_order 18 = .ok (.dup, 1) := by decide +kernel
theorem dX9_order_19 : decode cX9_order 19 = .ok (.ldc 67, 2) := by decide +kernel
theorem dX9_order_21 : decode cX9_order 21 = .ok (.invokespecial 69, 3) := by decide +kernel
theorem dX9_order_24 : decode cX9_order 24 = .ok (.athrow, 1) := by decide +kernel
theorem dX9_order_25 : decode cX9_order 25 = .ok (.aload_n 0, 1) := by decide +kernel
theorem dX9_order_26 : decode cX9_order 26 = .ok (.getfield 34, 3) := by decide +kernel
theorem dX9_order_29 : decode cX9_order 29 = .ok (.getfield 70, 3) := by decide +kernel
theorem dX9_order_32 : decode cX9_order 32 = .ok (.iload_n 1, 1) := by decide +kernel
theorem dX9_order_33 : decode cX9_order 33 = .ok (.iaload, 1) := by decide +kernel
theorem dX9_order_34 : decode cX9_order 34 = .ok (.bipush 8, 2) := by decide +kernel
theorem dX9_order_36 : decode cX9_order 36 = .ok (.if_icmp .lt 13, 3) := by decide +kernel
theorem dX9_order_39 : decode cX9_order 39 = .ok (.new 51, 3) := by decide +kernel
theorem dX9_order_42 : decode cX9_order 42 = .ok (.dup, 1) := by decide +kernel
theorem dX9_order_43 : decode cX9_order 43 = .ok (.ldc 74, 2) := by decide +kernel
theorem dX9_order_45 : decode cX9_order 45 = .ok (.invokespecial 55, 3) := by decide +kernel
theorem dX9_order_48 : decode cX9_order 48 = .ok (.athrow, 1) := by decide +kernel
theorem dX9_order_49 : decode cX9_order 49 = .ok (.aload_n 0, 1) := by decide +kernel
theorem dX9_order_50 : decode cX9_order 50 = .ok (.getfield 34, 3) := by decide +kernel
theorem dX9_order_53 : decode cX9_order 53 = .ok (.iload_n 1, 1) := by decide +kernel
theorem dX9_order_54 : decode cX9_order 54 = .ok (.iload_n 2, 1) := by decide +kernel
theorem dX9_order_55 : decode cX9_order 55 = .ok (.iload_n 3, 1) := by decide +kernel
theorem dX9_order_56 : decode cX9_order 56 = .ok (.iload 4, 2) := by decide +kernel
theorem dX9_order_58 : decode cX9_order 58 = .ok (.invokevirtual 76, 3) := by decide +kernel
theorem dX9_order_61 : decode cX9_order 61 = .ok (.ireturn, 1) := by decide +kernel
theorem dX9_promise_0 : decode cX9_promise 0 = .ok (.aload_n 0, 1) := by decide +kernel
theorem dX9_promise_1 : decode cX9_promise 1 = .ok (.iload_n 1, 1) := by decide +kernel
theorem dX9_promise_2 : decode cX9_promise 2 = .ok (.invokevirtual 80, 3) := by decide +kernel
theorem dX9_promise_5 : decode cX9_promise 5 = .ok (.aload_n 0, 1) := by decide +kernel
theorem dX9_promise_6 : decode cX9_promise 6 = .ok (.getfield 39, 3) := by decide +kernel
theorem dX9_promise_9 : decode cX9_promise 9 = .ok (.getfield 83, 3) := by decide +kernel
theorem dX9_promise_12 : decode cX9_promise 12 = .ok (.bipush 32, 2) := by decide +kernel
theorem dX9_promise_14 : decode cX9_promise 14 = .ok (.if_icmp .lt 13, 3) := by decide +kernel
theorem dX9_promise_17 : decode cX9_promise 17 = .ok (.new 51, 3) := by decide +kernel
theorem dX9_promise_20 : decode cX9_promise 20 = .ok (.dup, 1) := by decide +kernel
theorem dX9_promise_21 : decode cX9_promise 21 = .ok (.ldc 86, 2) := by decide +kernel
theorem dX9_promise_23 : decode cX9_promise 23 = .ok (.invokespecial 55, 3) := by decide +kernel
theorem dX9_promise_26 : decode cX9_promise 26 = .ok (.athrow, 1) := by decide +kernel
theorem dX9_promise_27 : decode cX9_promise 27 = .ok (.aload_n 0, 1) := by decide +kernel
theorem dX9_promise_28 : decode cX9_promise 28 = .ok (.getfield 39, 3) := by decide +kernel
theorem dX9_promise_31 : decode cX9_promise 31 = .ok (.iload_n 1, 1) := by decide +kernel
theorem dX9_promise_32 : decode cX9_promise 32 = .ok (.invokevirtual 88, 3) := by decide +kernel
theorem dX9_promise_35 : decode cX9_promise 35 = .ok (.ireturn, 1) := by decide +kernel
theorem dX9_channels_0 : decode cX9_channels 0 = .ok (.aload_n 0, 1) := by decide +kernel
theorem dX9_channels_1 : decode cX9_channels 1 = .ok (.iload_n 1, 1) := by decide +kernel
theorem dX9_channels_2 : decode cX9_channels 2 = .ok (.invokevirtual 80, 3) := by decide +kernel
theorem dX9_channels_5 : decode cX9_channels 5 = .ok (.aload_n 0, 1) := by decide +kernel
theorem dX9_channels_6 : decode cX9_channels 6 = .ok (.iload_n 2, 1) := by decide +kernel
theorem dX9_channels_7 : decode cX9_channels 7 = .ok (.invokevirtual 80, 3) := by decide +kernel
theorem dX9_channels_10 : decode cX9_channels 10 = .ok (.aload_n 0, 1) := by decide +kernel
theorem dX9_channels_11 : decode cX9_channels 11 = .ok (.getfield 44, 3) := by decide +kernel
theorem dX9_channels_14 : decode cX9_channels 14 = .ok (.getfield 91, 3) := by decide +kernel
theorem dX9_channels_17 : decode cX9_channels 17 = .ok (.bipush 16, 2) := by decide +kernel
theorem dX9_channels_19 : decode cX9_channels 19 = .ok (.if_icmp .lt 13, 3) := by decide +kernel
theorem dX9_channels_22 : decode cX9_channels 22 = .ok (.new 51, 3) := by decide +kernel
theorem dX9_channels_25 : decode cX9_channels 25 = .ok (.dup, 1) := by decide +kernel
theorem dX9_channels_26 : decode cX9_channels 26 = .ok (.ldc 94, 2) := by decide +kernel
theorem dX9_channels_28 : decode cX9_channels 28 = .ok (.invokespecial 55, 3) := by decide +kernel
theorem dX9_channels_31 : decode cX9_channels 31 = .ok (.athrow, 1) := by decide +kernel
theorem dX9_channels_32 : decode cX9_channels 32 = .ok (.aload_n 0, 1) := by decide +kernel
theorem dX9_channels_33 : decode cX9_channels 33 = .ok (.getfield 44, 3) := by decide +kernel
theorem dX9_channels_36 : decode cX9_channels 36 = .ok (.iload_n 1, 1) := by decide +kernel
theorem dX9_channels_37 : decode cX9_channels 37 = .ok (.iload_n 2, 1) := by decide +kernel
theorem dX9_channels_38 : decode cX9_channels 38 = .ok (.invokevirtual 96, 3) := by decide +kernel
theorem dX9_channels_41 : decode cX9_channels 41 = .ok (.ireturn, 1) := by decide +kernel
theorem dX9_handler_0 : decode cX9_handler 0 = .ok (.aload_n 0, 1) := by decide +kernel
theorem dX9_handler_1 : decode cX9_handler 1 = .ok (.iload_n 1, 1) := by decide +kernel
theorem dX9_handler_2 : decode cX9_handler 2 = .ok (.invokevirtual 100, 3) := by decide +kernel
theorem dX9_handler_5 : decode cX9_handler 5 = .ok (.iload 4, 2) := by decide +kernel
theorem dX9_handler_7 : decode cX9_handler 7 = .ok (.iconst (-1), 1) := by decide +kernel
theorem dX9_handler_8 : decode cX9_handler 8 = .ok (.if_icmp .eq 43, 3) := by decide +kernel
theorem dX9_handler_11 : decode cX9_handler 11 = .ok (.iload 4, 2) := by decide +kernel
theorem dX9_handler_13 : decode cX9_handler 13 = .ok (.ifCond .lt 17, 3) := by decide +kernel
theorem dX9_handler_16 : decode cX9_handler 16 = .ok (.iload 4, 2) := by decide +kernel
theorem dX9_handler_18 : decode cX9_handler 18 = .ok (.aload_n 0, 1) := by decide +kernel
theorem dX9_handler_19 : decode cX9_handler 19 = .ok (.getfield 44, 3) := by decide +kernel
theorem dX9_handler_22 : decode cX9_handler 22 = .ok (.getfield 103, 3) := by decide +kernel
theorem dX9_handler_25 : decode cX9_handler 25 = .ok (.iload_n 1, 1) := by decide +kernel
theorem dX9_handler_26 : decode cX9_handler 26 = .ok (.iaload, 1) := by decide +kernel
theorem dX9_handler_27 : decode cX9_handler 27 = .ok (.if_icmp .lt 13, 3) := by decide +kernel
theorem dX9_handler_30 : decode cX9_handler 30 = .ok (.new 65, 3) := by decide +kernel
theorem dX9_handler_33 : decode cX9_handler 33 = .ok (.dup, 1) := by decide +kernel
theorem dX9_handler_34 : decode cX9_handler 34 = .ok (.ldc 104, 2) := by decide +kernel
theorem dX9_handler_36 : decode cX9_handler 36 = .ok (.invokespecial 69, 3) := by decide +kernel
theorem dX9_handler_39 : decode cX9_handler 39 = .ok (.athrow, 1) := by decide +kernel
theorem dX9_handler_40 : decode cX9_handler 40 = .ok (.aload_n 0, 1) := by decide +kernel
theorem dX9_handler_41 : decode cX9_handler 41 = .ok (.getfield 44, 3) := by decide +kernel
theorem dX9_handler_44 : decode cX9_handler 44 = .ok (.iload_n 1, 1) := by decide +kernel
theorem dX9_handler_45 : decode cX9_handler 45 = .ok (.iload 4, 2) := by decide +kernel
theorem dX9_handler_47 : decode cX9_handler 47 = .ok (.invokevirtual 106, 3) := by decide +kernel
theorem dX9_handler_50 : decode cX9_handler 50 = .ok (.ireturn, 1) := by decide +kernel
theorem dX9_handler_51 : decode cX9_handler 51 = .ok (.iload_n 2, 1) := by decide +kernel
theorem dX9_handler_52 : decode cX9_handler 52 = .ok (.ifCond .lt 9, 3) := by decide +kernel
theorem dX9_handler_55 : decode cX9_handler 55 = .ok (.iload_n 2, 1) := by decide +kernel
theorem dX9_handler_56 : decode cX9_handler 56 = .ok (.bipush 6, 2) := by decide +kernel
theorem dX9_handler_58 : decode cX9_handler 58 = .ok (.if_icmp .le 13, 3) := by decide +kernel
theorem dX9_handler_61 : decode cX9_handler 61 = .ok (.new 65, 3) := by decide +kernel
theorem dX9_handler_64 : decode cX9_handler 64 = .ok (.dup, 1) := by decide +kernel
theorem dX9_handler_65 : decode cX9_handler 65 = .ok (.ldc 109, 2) := by decide +kernel
theorem dX9_handler_67 : decode cX9_handler 67 = .ok (.invokespecial 69, 3) := by decide +kernel
theorem dX9_handler_70 : decode cX9_handler 70 = .ok (.athrow, 1) := by decide +kernel
theorem dX9_handler_71 : decode cX9_handler 71 = .ok (.iload_n 2, 1) := by decide +kernel
theorem dX9_handler_72 : decode cX9_handler 72 = .ok (.iconst 4, 1) := by decide +kernel
theorem dX9_handler_73 : decode cX9_handler 73 = .ok (.if_icmp .ne 8, 3) := by decide +kernel
theorem dX9_handler_76 : decode cX9_handler 76 = .ok (.aload_n 0, 1) := by decide +kernel
theorem dX9_handler_77 : decode cX9_handler 77 = .ok (.iload_n 3, 1) := by decide +kernel
theorem dX9_handler_78 : decode cX9_handler 78 = .ok (.invokevirtual 62, 3) := by decide +kernel
theorem dX9_handler_81 : decode cX9_handler 81 = .ok (.aload_n 0, 1) := by decide +kernel
theorem dX9_handler_82 : decode cX9_handler 82 = .ok (.getfield 44, 3) := by decide +kernel
theorem dX9_handler_85 : decode cX9_handler 85 = .ok (.getfield 103, 3) := by decide +kernel
theorem dX9_handler_88 : decode cX9_handler 88 = .ok (.iload_n 1, 1) := by decide +kernel
theorem dX9_handler_89 : decode cX9_handler 89 = .ok (.iaload, 1) := by decide +kernel
theorem dX9_handler_90 : decode cX9_handler 90 = .ok (.bipush 6, 2) := by decide +kernel
theorem dX9_handler_92 : decode cX9_handler 92 = .ok (.if_icmp .lt 13, 3) := by decide +kernel
theorem dX9_handler_95 : decode cX9_handler 95 = .ok (.new 51, 3) := by decide +kernel
theorem dX9_handler_98 : decode cX9_handler 98 = .ok (.dup, 1) := by decide +kernel
theorem dX9_handler_99 : decode cX9_handler 99 = .ok (.ldc 111, 2) := by decide +kernel
theorem dX9_handler_101 : decode cX9_handler 101 = .ok (.invokespecial 55, 3) := by decide +kernel
theorem dX9_handler_104 : decode cX9_handler 104 = .ok (.athrow, 1) := by decide +kernel
theorem dX9_handler_105 : decode cX9_handler 105 = .ok (.aload_n 0, 1) := by decide +kernel
theorem dX9_handler_106 : decode cX9_handler 106 = .ok (.getfield 44, 3) := by decide +kernel
theorem dX9_handler_109 : decode cX9_handler 109 = .ok (.iload_n 1, 1) := by decide +kernel
theorem dX9_handler_110 : decode cX9_handler 110 = .ok (.iload_n 2, 1) := by decide +kernel
theorem dX9_handler_111 : decode cX9_handler 111 = .ok (.iload_n 3, 1) := by decide +kernel
theorem dX9_handler_112 : decode cX9_handler 112 = .ok (.invokevirtual 113, 3) := by decide +kernel
theorem dX9_handler_115 : decode cX9_handler 115 = .ok (.ireturn, 1) := by decide +kernel
theorem dX9_advance_0 : decode cX9_advance 0 = .ok (.iload_n 1, 1) := by decide +kernel
theorem dX9_advance_1 : decode cX9_advance 1 = .ok (.ifCond .lt 9, 3) := by decide +kernel
theorem dX9_advance_4 : decode cX9_advance 4 = .ok (.iload_n 1, 1) := by decide +kernel
theorem dX9_advance_5 : decode cX9_advance 5 = .ok (.ldc 117, 2) := by decide +kernel
theorem dX9_advance_7 : decode cX9_advance 7 = .ok (.if_icmp .le 13, 3) := by decide +kernel
theorem dX9_advance_10 : decode cX9_advance 10 = .ok (.new 65, 3) := by decide +kernel
theorem dX9_advance_13 : decode cX9_advance 13 = .ok (.dup, 1) := by decide +kernel
theorem dX9_advance_14 : decode cX9_advance 14 = .ok (.ldc 118, 2) := by decide +kernel
theorem dX9_advance_16 : decode cX9_advance 16 = .ok (.invokespecial 69, 3) := by decide +kernel
theorem dX9_advance_19 : decode cX9_advance 19 = .ok (.athrow, 1) := by decide +kernel
theorem dX9_advance_20 : decode cX9_advance 20 = .ok (.aload_n 0, 1) := by decide +kernel
theorem dX9_advance_21 : decode cX9_advance 21 = .ok (.getfield 22, 3) := by decide +kernel
theorem dX9_advance_24 : decode cX9_advance 24 = .ok (.dup, 1) := by decide +kernel
theorem dX9_advance_25 : decode cX9_advance 25 = .ok (.getfield 120, 3) := by decide +kernel
theorem dX9_advance_28 : decode cX9_advance 28 = .ok (.iload_n 1, 1) := by decide +kernel
theorem dX9_advance_29 : decode cX9_advance 29 = .ok (.i2l, 1) := by decide +kernel
theorem dX9_advance_30 : decode cX9_advance 30 = .ok (.ladd, 1) := by decide +kernel
theorem dX9_advance_31 : decode cX9_advance 31 = .ok (.putfield 120, 3) := by decide +kernel
theorem dX9_advance_34 : decode cX9_advance 34 = .ok (.aload_n 0, 1) := by decide +kernel
theorem dX9_advance_35 : decode cX9_advance 35 = .ok (.getfield 22, 3) := by decide +kernel
theorem dX9_advance_38 : decode cX9_advance 38 = .ok (.getfield 120, 3) := by decide +kernel
theorem dX9_advance_41 : decode cX9_advance 41 = .ok (.lreturn, 1) := by decide +kernel
theorem dX9_execute_0 : decode cX9_execute 0 = .ok (.aload_n 0, 1) := by decide +kernel
theorem dX9_execute_1 : decode cX9_execute 1 = .ok (.iload_n 1, 1) := by decide +kernel
theorem dX9_execute_2 : decode cX9_execute 2 = .ok (.invokevirtual 62, 3) := by decide +kernel
theorem dX9_execute_5 : decode cX9_execute 5 = .ok (.iload_n 2, 1) := by decide +kernel
theorem dX9_execute_6 : decode cX9_execute 6 = .ok (.bipush (-2), 2) := by decide +kernel
theorem dX9_execute_8 : decode cX9_execute 8 = .ok (.if_icmp .eq 8, 3) := by decide +kernel
theorem dX9_execute_11 : decode cX9_execute 11 = .ok (.aload_n 0, 1) := by decide +kernel
theorem dX9_execute_12 : decode cX9_execute 12 = .ok (.iload_n 2, 1) := by decide +kernel
theorem dX9_execute_13 : decode cX9_execute 13 = .ok (.invokevirtual 80, 3) := by decide +kernel
theorem dX9_execute_16 : decode cX9_execute 16 = .ok (.iload_n 2, 1) := by decide +kernel
theorem dX9_execute_17 : decode cX9_execute 17 = .ok (.bipush (-2), 2) := by decide +kernel
theorem dX9_execute_19 : decode cX9_execute 19 = .ok (.if_icmp .ne 13, 3) := by decide +kernel
theorem dX9_execute_22 : decode cX9_execute 22 = .ok (.aload_n 0, 1) := by decide +kernel
theorem dX9_execute_23 : decode cX9_execute 23 = .ok (.getfield 22, 3) := by decide +kernel
theorem dX9_execute_26 : decode cX9_execute 26 = .ok (.invokevirtual 124, 3) := by decide +kernel
theorem dX9_execute_29 : decode cX9_execute 29 = .ok (.goto 4, 3) := by decide +kernel
theorem dX9_execute_32 : decode cX9_execute 32 = .ok (.iload_n 2, 1) := by decide +kernel
theorem dX9_execute_33 : decode cX9_execute 33 = .ok (.istore_n 3, 1) := by decide +kernel
theorem dX9_execute_34 : decode cX9_execute 34 = .ok (.aload_n 0, 1) := by decide +kernel
theorem dX9_execute_35 : decode cX9_execute 35 = .ok (.getfield 22, 3) := by decide +kernel
theorem dX9_execute_38 : decode cX9_execute 38 = .ok (.iconst (-1), 1) := by decide +kernel
theorem dX9_execute_39 : decode cX9_execute 39 = .ok (.iload_n 3, 1) := by decide +kernel
theorem dX9_execute_40 : decode cX9_execute 40 = .ok (.iconst 0, 1) := by decide +kernel
theorem dX9_execute_41 : decode cX9_execute 41 = .ok (.iload_n 1, 1) := by decide +kernel
theorem dX9_execute_42 : decode cX9_execute 42 = .ok (.iconst 0, 1) := by decide +kernel
theorem dX9_execute_43 : decode cX9_execute 43 = .ok (.invokevirtual 129, 3) := by decide +kernel
theorem dX9_execute_46 : decode cX9_execute 46 = .ok (.ifCond .ne 13, 3) := by decide +kernel
theorem dX9_execute_49 : decode cX9_execute 49 = .ok (.new 51, 3) := by decide +kernel
theorem dX9_execute_52 : decode cX9_execute 52 = .ok (.dup, 1) := by decide +kernel
theorem dX9_execute_53 : decode cX9_execute 53 = .ok (.ldc 133, 2) := by decide +kernel
theorem dX9_execute_55 : decode cX9_execute 55 = .ok (.invokespecial 55, 3) := by decide +kernel
theorem dX9_execute_58 : decode cX9_execute 58 = .ok (.athrow, 1) := by decide +kernel
theorem dX9_execute_59 : decode cX9_execute 59 = .ok (.iload_n 3, 1) := by decide +kernel
theorem dX9_execute_60 : decode cX9_execute 60 = .ok (.ireturn, 1) := by decide +kernel
theorem dX9_timer_0 : decode cX9_timer 0 = .ok (.aload_n 0, 1) := by decide +kernel
theorem dX9_timer_1 : decode cX9_timer 1 = .ok (.iload_n 1, 1) := by decide +kernel
theorem dX9_timer_2 : decode cX9_timer 2 = .ok (.invokevirtual 62, 3) := by decide +kernel
theorem dX9_timer_5 : decode cX9_timer 5 = .ok (.aload_n 0, 1) := by decide +kernel
theorem dX9_timer_6 : decode cX9_timer 6 = .ok (.iload_n 3, 1) := by decide +kernel
theorem dX9_timer_7 : decode cX9_timer 7 = .ok (.invokevirtual 80, 3) := by decide +kernel
theorem dX9_timer_10 : decode cX9_timer 10 = .ok (.iload_n 2, 1) := by decide +kernel
theorem dX9_timer_11 : decode cX9_timer 11 = .ok (.ifCond .ge 13, 3) := by decide +kernel
theorem dX9_timer_14 : decode cX9_timer 14 = .ok (.new 65, 3) := by decide +kernel
theorem dX9_timer_17 : decode cX9_timer 17 = .ok (.dup, 1) := by decide +kernel
theorem dX9_timer_18 : decode cX9_timer 18 = .ok (.ldc 135, 2) := by decide +kernel
theorem dX9_timer_20 : decode cX9_timer 20 = .ok (.invokespecial 69, 3) := by decide +kernel
theorem dX9_timer_23 : decode cX9_timer 23 = .ok (.athrow, 1) := by decide +kernel
theorem dX9_timer_24 : decode cX9_timer 24 = .ok (.aload_n 0, 1) := by decide +kernel
theorem dX9_timer_25 : decode cX9_timer 25 = .ok (.getfield 22, 3) := by decide +kernel
theorem dX9_timer_28 : decode cX9_timer 28 = .ok (.iconst (-1), 1) := by decide +kernel
theorem dX9_timer_29 : decode cX9_timer 29 = .ok (.iload_n 3, 1) := by decide +kernel
theorem dX9_timer_30 : decode cX9_timer 30 = .ok (.iload_n 1, 1) := by decide +kernel
theorem dX9_timer_31 : decode cX9_timer 31 = .ok (.iload_n 2, 1) := by decide +kernel
theorem dX9_timer_32 : decode cX9_timer 32 = .ok (.invokevirtual 137, 3) := by decide +kernel
theorem dX9_timer_35 : decode cX9_timer 35 = .ok (.istore 4, 2) := by decide +kernel
theorem dX9_timer_37 : decode cX9_timer 37 = .ok (.iload 4, 2) := by decide +kernel
theorem dX9_timer_39 : decode cX9_timer 39 = .ok (.iconst (-1), 1) := by decide +kernel
theorem dX9_timer_40 : decode cX9_timer 40 = .ok (.if_icmp .ne 13, 3) := by decide +kernel
theorem dX9_timer_43 : decode cX9_timer 43 = .ok (.new 51, 3) := by decide +kernel
theorem dX9_timer_46 : decode cX9_timer 46 = .ok (.dup, 1) := by decide +kernel
theorem dX9_timer_47 : decode cX9_timer 47 = .ok (.ldc 133, 2) := by decide +kernel
theorem dX9_timer_49 : decode cX9_timer 49 = .ok (.invokespecial 55, 3) := by decide +kernel
theorem dX9_timer_52 : decode cX9_timer 52 = .ok (.athrow, 1) := by decide +kernel
theorem dX9_timer_53 : decode cX9_timer 53 = .ok (.iload 4, 2) := by decide +kernel
theorem dX9_timer_55 : decode cX9_timer 55 = .ok (.ireturn, 1) := by decide +kernel
theorem dX9_cancel_0 : decode cX9_cancel 0 = .ok (.aload_n 0, 1) := by decide +kernel
theorem dX9_cancel_1 : decode cX9_cancel 1 = .ok (.getfield 22, 3) := by decide +kernel
theorem dX9_cancel_4 : decode cX9_cancel 4 = .ok (.iload_n 1, 1) := by decide +kernel
theorem dX9_cancel_5 : decode cX9_cancel 5 = .ok (.invokevirtual 140, 3) := by decide +kernel
theorem dX9_cancel_8 : decode cX9_cancel 8 = .ok (.ireturn, 1) := by decide +kernel
theorem dX9_complete_0 : decode cX9_complete 0 = .ok (.aload_n 0, 1) := by decide +kernel
theorem dX9_complete_1 : decode cX9_complete 1 = .ok (.iload_n 1, 1) := by decide +kernel
theorem dX9_complete_2 : decode cX9_complete 2 = .ok (.invokevirtual 144, 3) := by decide +kernel
theorem dX9_complete_5 : decode cX9_complete 5 = .ok (.iload_n 2, 1) := by decide +kernel
theorem dX9_complete_6 : decode cX9_complete 6 = .ok (.iconst 4, 1) := by decide +kernel
theorem dX9_complete_7 : decode cX9_complete 7 = .ok (.if_icmp .ne 12, 3) := by decide +kernel
theorem dX9_complete_10 : decode cX9_complete 10 = .ok (.aload_n 0, 1) := by decide +kernel
theorem dX9_complete_11 : decode cX9_complete 11 = .ok (.getfield 39, 3) := by decide +kernel
theorem dX9_complete_14 : decode cX9_complete 14 = .ok (.iload_n 1, 1) := by decide +kernel
theorem dX9_complete_15 : decode cX9_complete 15 = .ok (.invokevirtual 147, 3) := by decide +kernel
theorem dX9_complete_18 : decode cX9_complete 18 = .ok (.ireturn, 1) := by decide +kernel
theorem dX9_complete_19 : decode cX9_complete 19 = .ok (.iload_n 2, 1) := by decide +kernel
theorem dX9_complete_20 : decode cX9_complete 20 = .ok (.iconst 1, 1) := by decide +kernel
theorem dX9_complete_21 : decode cX9_complete 21 = .ok (.if_icmp .lt 8, 3) := by decide +kernel
theorem dX9_complete_24 : decode cX9_complete 24 = .ok (.iload_n 2, 1) := by decide +kernel
theorem dX9_complete_25 : decode cX9_complete 25 = .ok (.iconst 3, 1) := by decide +kernel
theorem dX9_complete_26 : decode cX9_complete 26 = .ok (.if_icmp .le 13, 3) := by decide +kernel
theorem dX9_complete_29 : decode cX9_complete 29 = .ok (.new 65, 3) := by decide +kernel
theorem dX9_complete_32 : decode cX9_complete 32 = .ok (.dup, 1) := by decide +kernel
theorem dX9_complete_33 : decode cX9_complete 33 = .ok (.ldc 150, 2) := by decide +kernel
theorem dX9_complete_35 : decode cX9_complete 35 = .ok (.invokespecial 69, 3) := by decide +kernel
theorem dX9_complete_38 : decode cX9_complete 38 = .ok (.athrow, 1) := by decide +kernel
theorem dX9_complete_39 : decode cX9_complete 39 = .ok (.aload_n 0, 1) := by decide +kernel
theorem dX9_complete_40 : decode cX9_complete 40 = .ok (.getfield 14, 3) := by decide +kernel
theorem dX9_complete_43 : decode cX9_complete 43 = .ok (.iconst (-1), 1) := by decide +kernel
theorem dX9_complete_44 : decode cX9_complete 44 = .ok (.iload_n 1, 1) := by decide +kernel
theorem dX9_complete_45 : decode cX9_complete 45 = .ok (.iload_n 2, 1) := by decide +kernel
theorem dX9_complete_46 : decode cX9_complete 46 = .ok (.iload_n 3, 1) := by decide +kernel
theorem dX9_complete_47 : decode cX9_complete 47 = .ok (.invokevirtual 152, 3) := by decide +kernel
theorem dX9_complete_50 : decode cX9_complete 50 = .ok (.ireturn, 1) := by decide +kernel
theorem dX9_listen_0 : decode cX9_listen 0 = .ok (.aload_n 0, 1) := by decide +kernel
theorem dX9_listen_1 : decode cX9_listen 1 = .ok (.iload_n 1, 1) := by decide +kernel
theorem dX9_listen_2 : decode cX9_listen 2 = .ok (.invokevirtual 144, 3) := by decide +kernel
theorem dX9_listen_5 : decode cX9_listen 5 = .ok (.aload_n 0, 1) := by decide +kernel
theorem dX9_listen_6 : decode cX9_listen 6 = .ok (.iload_n 2, 1) := by decide +kernel
theorem dX9_listen_7 : decode cX9_listen 7 = .ok (.invokevirtual 62, 3) := by decide +kernel
theorem dX9_listen_10 : decode cX9_listen 10 = .ok (.aload_n 0, 1) := by decide +kernel
theorem dX9_listen_11 : decode cX9_listen 11 = .ok (.getfield 39, 3) := by decide +kernel
theorem dX9_listen_14 : decode cX9_listen 14 = .ok (.iload_n 1, 1) := by decide +kernel
theorem dX9_listen_15 : decode cX9_listen 15 = .ok (.invokevirtual 156, 3) := by decide +kernel
theorem dX9_listen_18 : decode cX9_listen 18 = .ok (.ifCond .ne 13, 3) := by decide +kernel
theorem dX9_listen_21 : decode cX9_listen 21 = .ok (.new 65, 3) := by decide +kernel
theorem dX9_listen_24 : decode cX9_listen 24 = .ok (.dup, 1) := by decide +kernel
theorem dX9_listen_25 : decode cX9_listen 25 = .ok (.ldc 159, 2) := by decide +kernel
theorem dX9_listen_27 : decode cX9_listen 27 = .ok (.invokespecial 69, 3) := by decide +kernel
theorem dX9_listen_30 : decode cX9_listen 30 = .ok (.athrow, 1) := by decide +kernel
theorem dX9_listen_31 : decode cX9_listen 31 = .ok (.aload_n 0, 1) := by decide +kernel
theorem dX9_listen_32 : decode cX9_listen 32 = .ok (.getfield 14, 3) := by decide +kernel
theorem dX9_listen_35 : decode cX9_listen 35 = .ok (.iconst (-1), 1) := by decide +kernel
theorem dX9_listen_36 : decode cX9_listen 36 = .ok (.iload_n 1, 1) := by decide +kernel
theorem dX9_listen_37 : decode cX9_listen 37 = .ok (.iload_n 2, 1) := by decide +kernel
theorem dX9_listen_38 : decode cX9_listen 38 = .ok (.invokevirtual 161, 3) := by decide +kernel
theorem dX9_listen_41 : decode cX9_listen 41 = .ok (.return_, 1) := by decide +kernel
theorem dX9_fire_0 : decode cX9_fire 0 = .ok (.aload_n 0, 1) := by decide +kernel
theorem dX9_fire_1 : decode cX9_fire 1 = .ok (.iload_n 1, 1) := by decide +kernel
theorem dX9_fire_2 : decode cX9_fire 2 = .ok (.invokevirtual 100, 3) := by decide +kernel
theorem dX9_fire_5 : decode cX9_fire 5 = .ok (.aload_n 0, 1) := by decide +kernel
theorem dX9_fire_6 : decode cX9_fire 6 = .ok (.getfield 14, 3) := by decide +kernel
theorem dX9_fire_9 : decode cX9_fire 9 = .ok (.iconst (-1), 1) := by decide +kernel
theorem dX9_fire_10 : decode cX9_fire 10 = .ok (.iload_n 1, 1) := by decide +kernel
theorem dX9_fire_11 : decode cX9_fire 11 = .ok (.iload_n 2, 1) := by decide +kernel
theorem dX9_fire_12 : decode cX9_fire 12 = .ok (.invokevirtual 165, 3) := by decide +kernel
theorem dX9_fire_15 : decode cX9_fire 15 = .ok (.ifCond .ne 13, 3) := by decide +kernel
theorem dX9_fire_18 : decode cX9_fire 18 = .ok (.new 51, 3) := by decide +kernel
theorem dX9_fire_21 : decode cX9_fire 21 = .ok (.dup, 1) := by decide +kernel
theorem dX9_fire_22 : decode cX9_fire 22 = .ok (.ldc 133, 2) := by decide +kernel
theorem dX9_fire_24 : decode cX9_fire 24 = .ok (.invokespecial 55, 3) := by decide +kernel
theorem dX9_fire_27 : decode cX9_fire 27 = .ok (.athrow, 1) := by decide +kernel
theorem dX9_fire_28 : decode cX9_fire 28 = .ok (.return_, 1) := by decide +kernel
theorem dX9_shutdown_0 : decode cX9_shutdown 0 = .ok (.aload_n 0, 1) := by decide +kernel
theorem dX9_shutdown_1 : decode cX9_shutdown 1 = .ok (.getfield 22, 3) := by decide +kernel
theorem dX9_shutdown_4 : decode cX9_shutdown 4 = .ok (.iload_n 1, 1) := by decide +kernel
theorem dX9_shutdown_5 : decode cX9_shutdown 5 = .ok (.iload_n 2, 1) := by decide +kernel
theorem dX9_shutdown_6 : decode cX9_shutdown 6 = .ok (.invokevirtual 169, 3) := by decide +kernel
theorem dX9_shutdown_9 : decode cX9_shutdown 9 = .ok (.ifCond .ne 13, 3) := by decide +kernel
theorem dX9_shutdown_12 : decode cX9_shutdown 12 = .ok (.new 65, 3) := by decide +kernel
theorem dX9_shutdown_15 : decode cX9_shutdown 15 = .ok (.dup, 1) := by decide +kernel
theorem dX9_shutdown_16 : decode cX9_shutdown 16 = .ok (.ldc 173, 2) := by decide +kernel
theorem dX9_shutdown_18 : decode cX9_shutdown 18 = .ok (.invokespecial 69, 3) := by decide +kernel
theorem dX9_shutdown_21 : decode cX9_shutdown 21 = .ok (.athrow, 1) := by decide +kernel
theorem dX9_shutdown_22 : decode cX9_shutdown 22 = .ok (.aload_n 0, 1) := by decide +kernel
theorem dX9_shutdown_23 : decode cX9_shutdown 23 = .ok (.getfield 22, 3) := by decide +kernel
theorem dX9_shutdown_26 : decode cX9_shutdown 26 = .ok (.iload_n 1, 1) := by decide +kernel
theorem dX9_shutdown_27 : decode cX9_shutdown 27 = .ok (.iload_n 2, 1) := by decide +kernel
theorem dX9_shutdown_28 : decode cX9_shutdown 28 = .ok (.invokevirtual 175, 3) := by decide +kernel
theorem dX9_shutdown_31 : decode cX9_shutdown 31 = .ok (.return_, 1) := by decide +kernel
theorem dX9_step_0 : decode cX9_step 0 = .ok (.aload_n 0, 1) := by decide +kernel
theorem dX9_step_1 : decode cX9_step 1 = .ok (.iload_n 1, 1) := by decide +kernel
theorem dX9_step_2 : decode cX9_step 2 = .ok (.invokevirtual 80, 3) := by decide +kernel
theorem dX9_step_5 : decode cX9_step 5 = .ok (.aload_n 0, 1) := by decide +kernel
theorem dX9_step_6 : decode cX9_step 6 = .ok (.getfield 14, 3) := by decide +kernel
theorem dX9_step_9 : decode cX9_step 9 = .ok (.iload_n 1, 1) := by decide +kernel
theorem dX9_step_10 : decode cX9_step 10 = .ok (.invokevirtual 179, 3) := by decide +kernel
theorem dX9_step_13 : decode cX9_step 13 = .ok (.ireturn, 1) := by decide +kernel
theorem dX9_loop_0 : decode cX9_loop 0 = .ok (.aload_n 0, 1) := by decide +kernel
theorem dX9_loop_1 : decode cX9_loop 1 = .ok (.iload_n 1, 1) := by decide +kernel
theorem dX9_loop_2 : decode cX9_loop 2 = .ok (.invokevirtual 80, 3) := by decide +kernel
theorem dX9_loop_5 : decode cX9_loop 5 = .ok (.aload_n 0, 1) := by decide +kernel
theorem dX9_loop_6 : decode cX9_loop 6 = .ok (.getfield 22, 3) := by decide +kernel
theorem dX9_loop_9 : decode cX9_loop 9 = .ok (.getfield 182, 3) := by decide +kernel
theorem dX9_loop_12 : decode cX9_loop 12 = .ok (.iload_n 1, 1) := by decide +kernel
theorem dX9_loop_13 : decode cX9_loop 13 = .ok (.aaload, 1) := by decide +kernel
theorem dX9_loop_14 : decode cX9_loop 14 = .ok (.astore_n 3, 1) := by decide +kernel
theorem dX9_loop_15 : decode cX9_loop 15 = .ok (.iload_n 2, 1) := by decide +kernel
theorem dX9_loop_16 : decode cX9_loop 16 = .ok (.tableswitch 76 0 4 #[36, 41, 49, 57, 71], 36) := by decide +kernel
theorem dX9_loop_52 : decode cX9_loop 52 = .ok (.aload_n 3, 1) := by decide +kernel
theorem dX9_loop_53 : decode cX9_loop 53 = .ok (.getfield 186, 3) := by decide +kernel
theorem dX9_loop_56 : decode cX9_loop 56 = .ok (.ireturn, 1) := by decide +kernel
theorem dX9_loop_57 : decode cX9_loop 57 = .ok (.aload_n 3, 1) := by decide +kernel
theorem dX9_loop_58 : decode cX9_loop 58 = .ok (.getfield 191, 3) := by decide +kernel
theorem dX9_loop_61 : decode cX9_loop 61 = .ok (.getfield 195, 3) := by decide +kernel
theorem dX9_loop_64 : decode cX9_loop 64 = .ok (.ireturn, 1) := by decide +kernel
theorem dX9_loop_65 : decode cX9_loop 65 = .ok (.aload_n 3, 1) := by decide +kernel
theorem dX9_loop_66 : decode cX9_loop 66 = .ok (.getfield 198, 3) := by decide +kernel
theorem dX9_loop_69 : decode cX9_loop 69 = .ok (.getfield 202, 3) := by decide +kernel
theorem dX9_loop_72 : decode cX9_loop 72 = .ok (.ireturn, 1) := by decide +kernel
theorem dX9_loop_73 : decode cX9_loop 73 = .ok (.aload_n 3, 1) := by decide +kernel
theorem dX9_loop_74 : decode cX9_loop 74 = .ok (.getfield 205, 3) := by decide +kernel
theorem dX9_loop_77 : decode cX9_loop 77 = .ok (.iconst (-1), 1) := by decide +kernel
theorem dX9_loop_78 : decode cX9_loop 78 = .ok (.if_icmp .eq 7, 3) := by decide +kernel
theorem dX9_loop_81 : decode cX9_loop 81 = .ok (.iconst 1, 1) := by decide +kernel
theorem dX9_loop_82 : decode cX9_loop 82 = .ok (.goto 4, 3) := by decide +kernel
theorem dX9_loop_85 : decode cX9_loop 85 = .ok (.iconst 0, 1) := by decide +kernel
theorem dX9_loop_86 : decode cX9_loop 86 = .ok (.ireturn, 1) := by decide +kernel
theorem dX9_loop_87 : decode cX9_loop 87 = .ok (.aload_n 3, 1) := by decide +kernel
theorem dX9_loop_88 : decode cX9_loop 88 = .ok (.getfield 208, 3) := by decide +kernel
theorem dX9_loop_91 : decode cX9_loop 91 = .ok (.ireturn, 1) := by decide +kernel
theorem dX9_loop_92 : decode cX9_loop 92 = .ok (.new 65, 3) := by decide +kernel
theorem dX9_loop_95 : decode cX9_loop 95 = .ok (.dup, 1) := by decide +kernel
theorem dX9_loop_96 : decode cX9_loop 96 = .ok (.ldc 211, 2) := by decide +kernel
theorem dX9_loop_98 : decode cX9_loop 98 = .ok (.invokespecial 69, 3) := by decide +kernel
theorem dX9_loop_101 : decode cX9_loop 101 = .ok (.athrow, 1) := by decide +kernel
theorem dX9_look_0 : decode cX9_look 0 = .ok (.aload_n 0, 1) := by decide +kernel
theorem dX9_look_1 : decode cX9_look 1 = .ok (.iload_n 1, 1) := by decide +kernel
theorem dX9_look_2 : decode cX9_look 2 = .ok (.invokevirtual 144, 3) := by decide +kernel
theorem dX9_look_5 : decode cX9_look 5 = .ok (.iload_n 2, 1) := by decide +kernel
theorem dX9_look_6 : decode cX9_look 6 = .ok (.tableswitch 56 0 2 #[26, 36, 46], 26) := by decide +kernel
theorem dX9_look_32 : decode cX9_look 32 = .ok (.aload_n 0, 1) := by decide +kernel
theorem dX9_look_33 : decode cX9_look 33 = .ok (.getfield 39, 3) := by decide +kernel
theorem dX9_look_36 : decode cX9_look 36 = .ok (.getfield 213, 3) := by decide +kernel
theorem dX9_look_39 : decode cX9_look 39 = .ok (.iload_n 1, 1) := by decide +kernel
theorem dX9_look_40 : decode cX9_look 40 = .ok (.iaload, 1) := by decide +kernel
theorem dX9_look_41 : decode cX9_look 41 = .ok (.ireturn, 1) := by decide +kernel
theorem dX9_look_42 : decode cX9_look 42 = .ok (.aload_n 0, 1) := by decide +kernel
theorem dX9_look_43 : decode cX9_look 43 = .ok (.getfield 39, 3) := by decide +kernel
theorem dX9_look_46 : decode cX9_look 46 = .ok (.getfield 216, 3) := by decide +kernel
theorem dX9_look_49 : decode cX9_look 49 = .ok (.iload_n 1, 1) := by decide +kernel
theorem dX9_look_50 : decode cX9_look 50 = .ok (.iaload, 1) := by decide +kernel
theorem dX9_look_51 : decode cX9_look 51 = .ok (.ireturn, 1) := by decide +kernel
theorem dX9_look_52 : decode cX9_look 52 = .ok (.aload_n 0, 1) := by decide +kernel
theorem dX9_look_53 : decode cX9_look 53 = .ok (.getfield 39, 3) := by decide +kernel
theorem dX9_look_56 : decode cX9_look 56 = .ok (.getfield 219, 3) := by decide +kernel
theorem dX9_look_59 : decode cX9_look 59 = .ok (.iload_n 1, 1) := by decide +kernel
theorem dX9_look_60 : decode cX9_look 60 = .ok (.iaload, 1) := by decide +kernel
theorem dX9_look_61 : decode cX9_look 61 = .ok (.ireturn, 1) := by decide +kernel
theorem dX9_look_62 : decode cX9_look 62 = .ok (.new 65, 3) := by decide +kernel
theorem dX9_look_65 : decode cX9_look 65 = .ok (.dup, 1) := by decide +kernel
theorem dX9_look_66 : decode cX9_look 66 = .ok (.ldc 211, 2) := by decide +kernel
theorem dX9_look_68 : decode cX9_look 68 = .ok (.invokespecial 69, 3) := by decide +kernel
theorem dX9_look_71 : decode cX9_look 71 = .ok (.athrow, 1) := by decide +kernel
theorem dX9_traced_0 : decode cX9_traced 0 = .ok (.aload_n 0, 1) := by decide +kernel
theorem dX9_traced_1 : decode cX9_traced 1 = .ok (.getfield 29, 3) := by decide +kernel
theorem dX9_traced_4 : decode cX9_traced 4 = .ok (.getfield 222, 3) := by decide +kernel
theorem dX9_traced_7 : decode cX9_traced 7 = .ok (.ireturn, 1) := by decide +kernel
theorem dX9_trace_0 : decode cX9_trace 0 = .ok (.iload_n 2, 1) := by decide +kernel
theorem dX9_trace_1 : decode cX9_trace 1 = .ok (.ifCond .lt 8, 3) := by decide +kernel
theorem dX9_trace_4 : decode cX9_trace 4 = .ok (.iload_n 2, 1) := by decide +kernel
theorem dX9_trace_5 : decode cX9_trace 5 = .ok (.iconst 3, 1) := by decide +kernel
theorem dX9_trace_6 : decode cX9_trace 6 = .ok (.if_icmp .lt 13, 3) := by decide +kernel
theorem dX9_trace_9 : decode cX9_trace 9 = .ok (.new 65, 3) := by decide +kernel
theorem dX9_trace_12 : decode cX9_trace 12 = .ok (.dup, 1) := by decide +kernel
theorem dX9_trace_13 : decode cX9_trace 13 = .ok (.ldc 211, 2) := by decide +kernel
theorem dX9_trace_15 : decode cX9_trace 15 = .ok (.invokespecial 69, 3) := by decide +kernel
theorem dX9_trace_18 : decode cX9_trace 18 = .ok (.athrow, 1) := by decide +kernel
theorem dX9_trace_19 : decode cX9_trace 19 = .ok (.aload_n 0, 1) := by decide +kernel
theorem dX9_trace_20 : decode cX9_trace 20 = .ok (.getfield 29, 3) := by decide +kernel
theorem dX9_trace_23 : decode cX9_trace 23 = .ok (.iload_n 1, 1) := by decide +kernel
theorem dX9_trace_24 : decode cX9_trace 24 = .ok (.invokevirtual 225, 3) := by decide +kernel
theorem dX9_trace_27 : decode cX9_trace 27 = .ok (.ifCond .ne 13, 3) := by decide +kernel
theorem dX9_trace_30 : decode cX9_trace 30 = .ok (.new 228, 3) := by decide +kernel
theorem dX9_trace_33 : decode cX9_trace 33 = .ok (.dup, 1) := by decide +kernel
theorem dX9_trace_34 : decode cX9_trace 34 = .ok (.ldc 230, 2) := by decide +kernel
theorem dX9_trace_36 : decode cX9_trace 36 = .ok (.invokespecial 232, 3) := by decide +kernel
theorem dX9_trace_39 : decode cX9_trace 39 = .ok (.athrow, 1) := by decide +kernel
theorem dX9_trace_40 : decode cX9_trace 40 = .ok (.aload_n 0, 1) := by decide +kernel
theorem dX9_trace_41 : decode cX9_trace 41 = .ok (.getfield 29, 3) := by decide +kernel
theorem dX9_trace_44 : decode cX9_trace 44 = .ok (.iload_n 1, 1) := by decide +kernel
theorem dX9_trace_45 : decode cX9_trace 45 = .ok (.iload_n 2, 1) := by decide +kernel
theorem dX9_trace_46 : decode cX9_trace 46 = .ok (.invokevirtual 233, 3) := by decide +kernel
theorem dX9_trace_49 : decode cX9_trace 49 = .ok (.ireturn, 1) := by decide +kernel
theorem dX9_needTask_0 : decode cX9_needTask 0 = .ok (.aload_n 0, 1) := by decide +kernel
theorem dX9_needTask_1 : decode cX9_needTask 1 = .ok (.getfield 34, 3) := by decide +kernel
theorem dX9_needTask_4 : decode cX9_needTask 4 = .ok (.iload_n 1, 1) := by decide +kernel
theorem dX9_needTask_5 : decode cX9_needTask 5 = .ok (.invokevirtual 236, 3) := by decide +kernel
theorem dX9_needTask_8 : decode cX9_needTask 8 = .ok (.ifCond .ne 13, 3) := by decide +kernel
theorem dX9_needTask_11 : decode cX9_needTask 11 = .ok (.new 65, 3) := by decide +kernel
theorem dX9_needTask_14 : decode cX9_needTask 14 = .ok (.dup, 1) := by decide +kernel
theorem dX9_needTask_15 : decode cX9_needTask 15 = .ok (.ldc 239, 2) := by decide +kernel
theorem dX9_needTask_17 : decode cX9_needTask 17 = .ok (.invokespecial 69, 3) := by decide +kernel
theorem dX9_needTask_20 : decode cX9_needTask 20 = .ok (.athrow, 1) := by decide +kernel
theorem dX9_needTask_21 : decode cX9_needTask 21 = .ok (.return_, 1) := by decide +kernel
theorem dX9_needLoop_0 : decode cX9_needLoop 0 = .ok (.aload_n 0, 1) := by decide +kernel
theorem dX9_needLoop_1 : decode cX9_needLoop 1 = .ok (.getfield 22, 3) := by decide +kernel
theorem dX9_needLoop_4 : decode cX9_needLoop 4 = .ok (.iload_n 1, 1) := by decide +kernel
theorem dX9_needLoop_5 : decode cX9_needLoop 5 = .ok (.invokevirtual 241, 3) := by decide +kernel
theorem dX9_needLoop_8 : decode cX9_needLoop 8 = .ok (.ifCond .ne 13, 3) := by decide +kernel
theorem dX9_needLoop_11 : decode cX9_needLoop 11 = .ok (.new 65, 3) := by decide +kernel
theorem dX9_needLoop_14 : decode cX9_needLoop 14 = .ok (.dup, 1) := by decide +kernel
theorem dX9_needLoop_15 : decode cX9_needLoop 15 = .ok (.ldc 242, 2) := by decide +kernel
theorem dX9_needLoop_17 : decode cX9_needLoop 17 = .ok (.invokespecial 69, 3) := by decide +kernel
theorem dX9_needLoop_20 : decode cX9_needLoop 20 = .ok (.athrow, 1) := by decide +kernel
theorem dX9_needLoop_21 : decode cX9_needLoop 21 = .ok (.return_, 1) := by decide +kernel
theorem dX9_needPromise_0 : decode cX9_needPromise 0 = .ok (.aload_n 0, 1) := by decide +kernel
theorem dX9_needPromise_1 : decode cX9_needPromise 1 = .ok (.getfield 39, 3) := by decide +kernel
theorem dX9_needPromise_4 : decode cX9_needPromise 4 = .ok (.iload_n 1, 1) := by decide +kernel
theorem dX9_needPromise_5 : decode cX9_needPromise 5 = .ok (.invokevirtual 244, 3) := by decide +kernel
theorem dX9_needPromise_8 : decode cX9_needPromise 8 = .ok (.ifCond .ne 13, 3) := by decide +kernel
theorem dX9_needPromise_11 : decode cX9_needPromise 11 = .ok (.new 65, 3) := by decide +kernel
theorem dX9_needPromise_14 : decode cX9_needPromise 14 = .ok (.dup, 1) := by decide +kernel
theorem dX9_needPromise_15 : decode cX9_needPromise 15 = .ok (.ldc 245, 2) := by decide +kernel
theorem dX9_needPromise_17 : decode cX9_needPromise 17 = .ok (.invokespecial 69, 3) := by decide +kernel
theorem dX9_needPromise_20 : decode cX9_needPromise 20 = .ok (.athrow, 1) := by decide +kernel
theorem dX9_needPromise_21 : decode cX9_needPromise 21 = .ok (.return_, 1) := by decide +kernel
theorem dX9_needChannel_0 : decode cX9_needChannel 0 = .ok (.aload_n 0, 1) := by decide +kernel
theorem dX9_needChannel_1 : decode cX9_needChannel 1 = .ok (.getfield 44, 3) := by decide +kernel
theorem dX9_needChannel_4 : decode cX9_needChannel 4 = .ok (.iload_n 1, 1) := by decide +kernel
theorem dX9_needChannel_5 : decode cX9_needChannel 5 = .ok (.invokevirtual 247, 3) := by decide +kernel
theorem dX9_needChannel_8 : decode cX9_needChannel 8 = .ok (.ifCond .ne 13, 3) := by decide +kernel
theorem dX9_needChannel_11 : decode cX9_needChannel 11 = .ok (.new 65, 3) := by decide +kernel
theorem dX9_needChannel_14 : decode cX9_needChannel 14 = .ok (.dup, 1) := by decide +kernel
theorem dX9_needChannel_15 : decode cX9_needChannel 15 = .ok (.ldc 248, 2) := by decide +kernel
theorem dX9_needChannel_17 : decode cX9_needChannel 17 = .ok (.invokespecial 69, 3) := by decide +kernel
theorem dX9_needChannel_20 : decode cX9_needChannel 20 = .ok (.athrow, 1) := by decide +kernel
theorem dX9_needChannel_21 : decode cX9_needChannel 21 = .ok (.return_, 1) := by decide +kernel
