theorem dX0_init_0 : decode cX0_init 0 = .ok (.aload_n 0, 1) := by decide +kernel
theorem dX0_init_1 : decode cX0_init 1 = .ok (.invokespecial 3, 3) := by decide +kernel
theorem dX0_init_4 : decode cX0_init 4 = .ok (.aload_n 0, 1) := by decide +kernel
theorem dX0_init_5 : decode cX0_init 5 = .ok (.ldc 9, 2) := by decide +kernel
theorem dX0_init_7 : decode cX0_init 7 = .ok (.newarray .byte, 2) := by decide +kernel
theorem dX0_init_9 : decode cX0_init 9 = .ok (.putfield 10, 3) := by decide +kernel
theorem dX0_init_12 : decode cX0_init 12 = .ok (.aload_n 0, 1) := by decide +kernel
theorem dX0_init_13 : decode cX0_init 13 = .ok (.iconst 0, 1) := by decide +kernel
theorem dX0_init_14 : decode cX0_init 14 = .ok (.putfield 16, 3) := by decide +kernel
theorem dX0_init_17 : decode cX0_init 17 = .ok (.return_, 1) := by decide +kernel
theorem dX0_size_0 : decode cX0_size 0 = .ok (.aload_n 0, 1) := by decide +kernel
theorem dX0_size_1 : decode cX0_size 1 = .ok (.getfield 16, 3) := by decide +kernel
theorem dX0_size_4 : decode cX0_size 4 = .ok (.ireturn, 1) := by decide +kernel
theorem dX0_clear_0 : decode cX0_clear 0 = .ok (.aload_n 0, 1) := by decide +kernel
theorem dX0_clear_1 : decode cX0_clear 1 = .ok (.iconst 0, 1) := by decide +kernel
theorem dX0_clear_2 : decode cX0_clear 2 = .ok (.putfield 16, 3) := by decide +kernel
theorem dX0_clear_5 : decode cX0_clear 5 = .ok (.return_, 1) := by decide +kernel
theorem dX0_codeAt_0 : decode cX0_codeAt 0 = .ok (.iload_n 1, 1) := by decide +kernel
theorem dX0_codeAt_1 : decode cX0_codeAt 1 = .ok (.ifCond .lt 20, 3) := by decide +kernel
theorem dX0_codeAt_4 : decode cX0_codeAt 4 = .ok (.iload_n 1, 1) := by decide +kernel
theorem dX0_codeAt_5 : decode cX0_codeAt 5 = .ok (.aload_n 0, 1) := by decide +kernel
theorem dX0_codeAt_6 : decode cX0_codeAt 6 = .ok (.getfield 16, 3) := by decide +kernel
theorem dX0_codeAt_9 : decode cX0_codeAt 9 = .ok (.if_icmp .ge 12, 3) := by decide +kernel
theorem dX0_codeAt_12 : decode cX0_codeAt 12 = .ok (.aload_n 0, 1) := by decide +kernel
theorem dX0_codeAt_13 : decode cX0_codeAt 13 = .ok (.getfield 10, 3) := by decide +kernel
theorem dX0_codeAt_16 : decode cX0_codeAt 16 = .ok (.iload_n 1, 1) := by decide +kernel
theorem dX0_codeAt_17 : decode cX0_codeAt 17 = .ok (.baload, 1) := by decide +kernel
theorem dX0_codeAt_18 : decode cX0_codeAt 18 = .ok (.goto 4, 3) := by decide +kernel
theorem dX0_codeAt_21 : decode cX0_codeAt 21 = .ok (.iconst (-1), 1) := by decide +kernel
theorem dX0_codeAt_22 : decode cX0_codeAt 22 = .ok (.ireturn, 1) := by decide +kernel
theorem dX0_appendBytes_0 : decode cX0_appendBytes 0 = .ok (.iconst 0, 1) := by decide +kernel
theorem dX0_appendBytes_1 : decode cX0_appendBytes 1 = .ok (.istore_n 3, 1) := by decide +kernel
theorem dX0_appendBytes_2 : decode cX0_appendBytes 2 = .ok (.bipush 56, 2) := by decide +kernel
theorem dX0_appendBytes_4 : decode cX0_appendBytes 4 = .ok (.istore 4, 2) := by decide +kernel
theorem dX0_appendBytes_6 : decode cX0_appendBytes 6 = .ok (.iload 4, 2) := by decide +kernel
theorem dX0_appendBytes_8 : decode cX0_appendBytes 8 = .ok (.ifCond .lt 42, 3) := by decide +kernel
theorem dX0_appendBytes_11 : decode cX0_appendBytes 11 = .ok (.lload_n 1, 1) := by decide +kernel
theorem dX0_appendBytes_12 : decode cX0_appendBytes 12 = .ok (.iload 4, 2) := by decide +kernel
theorem dX0_appendBytes_14 : decode cX0_appendBytes 14 = .ok (.lushr, 1) := by decide +kernel
theorem dX0_appendBytes_15 : decode cX0_appendBytes 15 = .ok (.l2i, 1) := by decide +kernel
theorem dX0_appendBytes_16 : decode cX0_appendBytes 16 = .ok (.sipush 255, 3) := by decide +kernel
theorem dX0_appendBytes_19 : decode cX0_appendBytes 19 = .ok (.iand, 1) := by decide +kernel
theorem dX0_appendBytes_20 : decode cX0_appendBytes 20 = .ok (.istore 5, 2) := by decide +kernel
theorem dX0_appendBytes_22 : decode cX0_appendBytes 22 = .ok (.iload 5, 2) := by decide +kernel
theorem dX0_appendBytes_24 : decode cX0_appendBytes 24 = .ok (.bipush 126, 2) := by decide +kernel
theorem dX0_appendBytes_26 : decode cX0_appendBytes 26 = .ok (.if_icmp .le 5, 3) := by decide +kernel
theorem dX0_appendBytes_29 : decode cX0_appendBytes 29 = .ok (.iconst 0, 1) := by decide +kernel
theorem dX0_appendBytes_30 : decode cX0_appendBytes 30 = .ok (.ireturn, 1) := by decide +kernel
theorem dX0_appendBytes_31 : decode cX0_appendBytes 31 = .ok (.iload_n 3, 1) := by decide +kernel
theorem dX0_appendBytes_32 : decode cX0_appendBytes 32 = .ok (.iload 5, 2) := by decide +kernel
theorem dX0_appendBytes_34 : decode cX0_appendBytes 34 = .ok (.ifCond .ne 7, 3) := by decide +kernel
theorem dX0_appendBytes_37 : decode cX0_appendBytes 37 = .ok (.iconst 0, 1) := by decide +kernel
theorem dX0_appendBytes_38 : decode cX0_appendBytes 38 = .ok (.goto 4, 3) := by decide +kernel
theorem dX0_appendBytes_41 : decode cX0_appendBytes 41 = .ok (.iconst 1, 1) := by decide +kernel
theorem dX0_appendBytes_42 : decode cX0_appendBytes 42 = .ok (.iadd, 1) := by decide +kernel
theorem dX0_appendBytes_43 : decode cX0_appendBytes 43 = .ok (.istore_n 3, 1) := by decide +kernel
theorem dX0_appendBytes_44 : decode cX0_appendBytes 44 = .ok (.iinc 4 (-8), 3) := by decide +kernel
theorem dX0_appendBytes_47 : decode cX0_appendBytes 47 = .ok (.goto (-41), 3) := by decide +kernel
theorem dX0_appendBytes_50 : decode cX0_appendBytes 50 = .ok (.iload_n 3, 1) := by decide +kernel
theorem dX0_appendBytes_51 : decode cX0_appendBytes 51 = .ok (.aload_n 0, 1) := by decide +kernel
theorem dX0_appendBytes_52 : decode cX0_appendBytes 52 = .ok (.getfield 10, 3) := by decide +kernel
theorem dX0_appendBytes_55 : decode cX0_appendBytes 55 = .ok (.arraylength, 1) := by decide +kernel
theorem dX0_appendBytes_56 : decode cX0_appendBytes 56 = .ok (.aload_n 0, 1) := by decide +kernel
theorem dX0_appendBytes_57 : decode cX0_appendBytes 57 = .ok (.getfield 16, 3) := by decide +kernel
theorem dX0_appendBytes_60 : decode cX0_appendBytes 60 = .ok (.isub, 1) := by decide +kernel
theorem dX0_appendBytes_61 : decode cX0_appendBytes 61 = .ok (.if_icmp .le 5, 3) := by decide +kernel
theorem dX0_appendBytes_64 : decode cX0_appendBytes 64 = .ok (.iconst 0, 1) := by decide +kernel
theorem dX0_appendBytes_65 : decode cX0_appendBytes 65 = .ok (.ireturn, 1) := by decide +kernel
theorem dX0_appendBytes_66 : decode cX0_appendBytes 66 = .ok (.bipush 56, 2) := by decide +kernel
theorem dX0_appendBytes_68 : decode cX0_appendBytes 68 = .ok (.istore 4, 2) := by decide +kernel
theorem dX0_appendBytes_70 : decode cX0_appendBytes 70 = .ok (.iload 4, 2) := by decide +kernel
theorem dX0_appendBytes_72 : decode cX0_appendBytes 72 = .ok (.ifCond .lt 47, 3) := by decide +kernel
theorem dX0_appendBytes_75 : decode cX0_appendBytes 75 = .ok (.lload_n 1, 1) := by decide +kernel
theorem dX0_appendBytes_76 : decode cX0_appendBytes 76 = .ok (.iload 4, 2) := by decide +kernel
theorem dX0_appendBytes_78 : decode cX0_appendBytes 78 = .ok (.lushr, 1) := by decide +kernel
theorem dX0_appendBytes_79 : decode cX0_appendBytes 79 = .ok (.l2i, 1) := by decide +kernel
theorem dX0_appendBytes_80 : decode cX0_appendBytes 80 = .ok (.sipush 255, 3) := by decide +kernel
theorem dX0_appendBytes_83 : decode cX0_appendBytes 83 = .ok (.iand, 1) := by decide +kernel
theorem dX0_appendBytes_84 : decode cX0_appendBytes 84 = .ok (.istore 5, 2) := by decide +kernel
theorem dX0_appendBytes_86 : decode cX0_appendBytes 86 = .ok (.iload 5, 2) := by decide +kernel
theorem dX0_appendBytes_88 : decode cX0_appendBytes 88 = .ok (.ifCond .eq 25, 3) := by decide +kernel
theorem dX0_appendBytes_91 : decode cX0_appendBytes 91 = .ok (.aload_n 0, 1) := by decide +kernel
theorem dX0_appendBytes_92 : decode cX0_appendBytes 92 = .ok (.getfield 10, 3) := by decide +kernel
theorem dX0_appendBytes_95 : decode cX0_appendBytes 95 = .ok (.aload_n 0, 1) := by decide +kernel
theorem dX0_appendBytes_96 : decode cX0_appendBytes 96 = .ok (.getfield 16, 3) := by decide +kernel
theorem dX0_appendBytes_99 : decode cX0_appendBytes 99 = .ok (.iload 5, 2) := by decide +kernel
theorem dX0_appendBytes_101 : decode cX0_appendBytes 101 = .ok (.i2b, 1) := by decide +kernel
theorem dX0_appendBytes_102 : decode cX0_appendBytes 102 = .ok (.bastore, 1) := by decide +kernel
theorem dX0_appendBytes_103 : decode cX0_appendBytes 103 = .ok (.aload_n 0, 1) := by decide +kernel
theorem dX0_appendBytes_104 : decode cX0_appendBytes 104 = .ok (.dup, 1) := by decide +kernel
theorem dX0_appendBytes_105 : decode cX0_appendBytes 105 = .ok (.getfield 16, 3) := by decide +kernel
theorem dX0_appendBytes_108 : decode cX0_appendBytes 108 = .ok (.iconst 1, 1) := by decide +kernel
theorem dX0_appendBytes_109 : decode cX0_appendBytes 109 = .ok (.iadd, 1) := by decide +kernel
theorem dX0_appendBytes_110 : decode cX0_appendBytes 110 = .ok (.putfield 16, 3) := by decide +kernel
theorem dX0_appendBytes_113 : decode cX0_appendBytes 113 = .ok (.iinc 4 (-8), 3) := by decide +kernel
theorem dX0_appendBytes_116 : decode cX0_appendBytes 116 = .ok (.goto (-46), 3) := by decide +kernel
theorem dX0_appendBytes_119 : decode cX0_appendBytes 119 = .ok (.iconst 1, 1) := by decide +kernel
theorem dX0_appendBytes_120 : decode cX0_appendBytes 120 = .ok (.ireturn, 1) := by decide +kernel
theorem dX0_appendEnd_0 : decode cX0_appendEnd 0 = .ok (.iload_n 1, 1) := by decide +kernel
theorem dX0_appendEnd_1 : decode cX0_appendEnd 1 = .ok (.iconst 1, 1) := by decide +kernel
theorem dX0_appendEnd_2 : decode cX0_appendEnd 2 = .ok (.if_icmp .lt 15, 3) := by decide +kernel
theorem dX0_appendEnd_5 : decode cX0_appendEnd 5 = .ok (.iload_n 1, 1) := by decide +kernel
theorem dX0_appendEnd_6 : decode cX0_appendEnd 6 = .ok (.aload_n 0, 1) := by decide +kernel
theorem dX0_appendEnd_7 : decode cX0_appendEnd 7 = .ok (.getfield 16, 3) := by decide +kernel
theorem dX0_appendEnd_10 : decode cX0_appendEnd 10 = .ok (.if_icmp .gt 7, 3) := by decide +kernel
theorem dX0_appendEnd_13 : decode cX0_appendEnd 13 = .ok (.iload_n 2, 1) := by decide +kernel
theorem dX0_appendEnd_14 : decode cX0_appendEnd 14 = .ok (.ifCond .ge 5, 3) := by decide +kernel
theorem dX0_appendEnd_17 : decode cX0_appendEnd 17 = .ok (.iconst 0, 1) := by decide +kernel
theorem dX0_appendEnd_18 : decode cX0_appendEnd 18 = .ok (.ireturn, 1) := by decide +kernel
theorem dX0_appendEnd_19 : decode cX0_appendEnd 19 = .ok (.iload_n 1, 1) := by decide +kernel
theorem dX0_appendEnd_20 : decode cX0_appendEnd 20 = .ok (.i2l, 1) := by decide +kernel
theorem dX0_appendEnd_21 : decode cX0_appendEnd 21 = .ok (.iload_n 2, 1) := by decide +kernel
theorem dX0_appendEnd_22 : decode cX0_appendEnd 22 = .ok (.i2l, 1) := by decide +kernel
theorem dX0_appendEnd_23 : decode cX0_appendEnd 23 = .ok (.lmul, 1) := by decide +kernel
theorem dX0_appendEnd_24 : decode cX0_appendEnd 24 = .ok (.lstore_n 3, 1) := by decide +kernel
theorem dX0_appendEnd_25 : decode cX0_appendEnd 25 = .ok (.lload_n 3, 1) := by decide +kernel
theorem dX0_appendEnd_26 : decode cX0_appendEnd 26 = .ok (.aload_n 0, 1) := by decide +kernel
theorem dX0_appendEnd_27 : decode cX0_appendEnd 27 = .ok (.getfield 10, 3) := by decide +kernel
theorem dX0_appendEnd_30 : decode cX0_appendEnd 30 = .ok (.arraylength, 1) := by decide +kernel
theorem dX0_appendEnd_31 : decode cX0_appendEnd 31 = .ok (.aload_n 0, 1) := by decide +kernel
theorem dX0_appendEnd_32 : decode cX0_appendEnd 32 = .ok (.getfield 16, 3) := by decide +kernel
theorem dX0_appendEnd_35 : decode cX0_appendEnd 35 = .ok (.isub, 1) := by decide +kernel
theorem dX0_appendEnd_36 : decode cX0_appendEnd 36 = .ok (.i2l, 1) := by decide +kernel
theorem dX0_appendEnd_37 : decode cX0_appendEnd 37 = .ok (.lcmp, 1) := by decide +kernel
theorem dX0_appendEnd_38 : decode cX0_appendEnd 38 = .ok (.ifCond .le 5, 3) := by decide +kernel
theorem dX0_appendEnd_41 : decode cX0_appendEnd 41 = .ok (.iconst 0, 1) := by decide +kernel
theorem dX0_appendEnd_42 : decode cX0_appendEnd 42 = .ok (.ireturn, 1) := by decide +kernel
theorem dX0_appendEnd_43 : decode cX0_appendEnd 43 = .ok (.aload_n 0, 1) := by decide +kernel
theorem dX0_appendEnd_44 : decode cX0_appendEnd 44 = .ok (.getfield 16, 3) := by decide +kernel
theorem dX0_appendEnd_47 : decode cX0_appendEnd 47 = .ok (.lload_n 3, 1) := by decide +kernel
theorem dX0_appendEnd_48 : decode cX0_appendEnd 48 = .ok (.l2i, 1) := by decide +kernel
theorem dX0_appendEnd_49 : decode cX0_appendEnd 49 = .ok (.iadd, 1) := by decide +kernel
theorem dX0_appendEnd_50 : decode cX0_appendEnd 50 = .ok (.istore 5, 2) := by decide +kernel
theorem dX0_appendEnd_52 : decode cX0_appendEnd 52 = .ok (.aload_n 0, 1) := by decide +kernel
theorem dX0_appendEnd_53 : decode cX0_appendEnd 53 = .ok (.getfield 16, 3) := by decide +kernel
theorem dX0_appendEnd_56 : decode cX0_appendEnd 56 = .ok (.istore 6, 2) := by decide +kernel
theorem dX0_appendEnd_58 : decode cX0_appendEnd 58 = .ok (.iload 6, 2) := by decide +kernel
theorem dX0_appendEnd_60 : decode cX0_appendEnd 60 = .ok (.iload 5, 2) := by decide +kernel
theorem dX0_appendEnd_62 : decode cX0_appendEnd 62 = .ok (.if_icmp .ge 25, 3) := by decide +kernel
theorem dX0_appendEnd_65 : decode cX0_appendEnd 65 = .ok (.aload_n 0, 1) := by decide +kernel
theorem dX0_appendEnd_66 : decode cX0_appendEnd 66 = .ok (.getfield 10, 3) := by decide +kernel
theorem dX0_appendEnd_69 : decode cX0_appendEnd 69 = .ok (.iload 6, 2) := by decide +kernel
theorem dX0_appendEnd_71 : decode cX0_appendEnd 71 = .ok (.aload_n 0, 1) := by decide +kernel
theorem dX0_appendEnd_72 : decode cX0_appendEnd 72 = .ok (.getfield 10, 3) := by decide +kernel
theorem dX0_appendEnd_75 : decode cX0_appendEnd 75 = .ok (.iload 6, 2) := by decide +kernel
theorem dX0_appendEnd_77 : decode cX0_appendEnd 77 = .ok (.iload_n 1, 1) := by decide +kernel
theorem dX0_appendEnd_78 : decode cX0_appendEnd 78 = .ok (.isub, 1) := by decide +kernel
theorem dX0_appendEnd_79 : decode cX0_appendEnd 79 = .ok (.baload, 1) := by decide +kernel
theorem dX0_appendEnd_80 : decode cX0_appendEnd 80 = .ok (.bastore, 1) := by decide +kernel
theorem dX0_appendEnd_81 : decode cX0_appendEnd 81 = .ok (.iinc 6 1, 3) := by decide +kernel
theorem dX0_appendEnd_84 : decode cX0_appendEnd 84 = .ok (.goto (-26), 3) := by decide +kernel
theorem dX0_appendEnd_87 : decode cX0_appendEnd 87 = .ok (.aload_n 0, 1) := by decide +kernel
theorem dX0_appendEnd_88 : decode cX0_appendEnd 88 = .ok (.iload 5, 2) := by decide +kernel
theorem dX0_appendEnd_90 : decode cX0_appendEnd 90 = .ok (.putfield 16, 3) := by decide +kernel
theorem dX0_appendEnd_93 : decode cX0_appendEnd 93 = .ok (.iconst 1, 1) := by decide +kernel
theorem dX0_appendEnd_94 : decode cX0_appendEnd 94 = .ok (.ireturn, 1) := by decide +kernel
theorem dX0_firstOther_0 : decode cX0_firstOther 0 = .ok (.iload_n 1, 1) := by decide +kernel
theorem dX0_firstOther_1 : decode cX0_firstOther 1 = .ok (.istore_n 3, 1) := by decide +kernel
theorem dX0_firstOther_2 : decode cX0_firstOther 2 = .ok (.iload_n 3, 1) := by decide +kernel
theorem dX0_firstOther_3 : decode cX0_firstOther 3 = .ok (.aload_n 0, 1) := by decide +kernel
theorem dX0_firstOther_4 : decode cX0_firstOther 4 = .ok (.getfield 16, 3) := by decide +kernel
theorem dX0_firstOther_7 : decode cX0_firstOther 7 = .ok (.if_icmp .ge 23, 3) := by decide +kernel
theorem dX0_firstOther_10 : decode cX0_firstOther 10 = .ok (.aload_n 0, 1) := by decide +kernel
theorem dX0_firstOther_11 : decode cX0_firstOther 11 = .ok (.iload_n 3, 1) := by decide +kernel
theorem dX0_firstOther_12 : decode cX0_firstOther 12 = .ok (.invokevirtual 20, 3) := by decide +kernel
theorem dX0_firstOther_15 : decode cX0_firstOther 15 = .ok (.invokestatic 24, 3) := by decide +kernel
theorem dX0_firstOther_18 : decode cX0_firstOther 18 = .ok (.iload_n 2, 1) := by decide +kernel
theorem dX0_firstOther_19 : decode cX0_firstOther 19 = .ok (.if_icmp .lt 5, 3) := by decide +kernel
theorem dX0_firstOther_22 : decode cX0_firstOther 22 = .ok (.iload_n 3, 1) := by decide +kernel
theorem dX0_firstOther_23 : decode cX0_firstOther 23 = .ok (.ireturn, 1) := by decide +kernel
theorem dX0_firstOther_24 : decode cX0_firstOther 24 = .ok (.iinc 3 1, 3) := by decide +kernel
theorem dX0_firstOther_27 : decode cX0_firstOther 27 = .ok (.goto (-25), 3) := by decide +kernel
theorem dX0_firstOther_30 : decode cX0_firstOther 30 = .ok (.aload_n 0, 1) := by decide +kernel
theorem dX0_firstOther_31 : decode cX0_firstOther 31 = .ok (.getfield 16, 3) := by decide +kernel
theorem dX0_firstOther_34 : decode cX0_firstOther 34 = .ok (.ireturn, 1) := by decide +kernel
theorem dX1_init_0 : decode cX1_init 0 = .ok (.aload_n 0, 1) := by decide +kernel
theorem dX1_init_1 : decode cX1_init 1 = .ok (.invokespecial 3, 3) := by decide +kernel
theorem dX1_init_4 : decode cX1_init 4 = .ok (.aload_n 0, 1) := by decide +kernel
theorem dX1_init_5 : decode cX1_init 5 = .ok (.ldc 9, 2) := by decide +kernel
theorem dX1_init_7 : decode cX1_init 7 = .ok (.newarray .byte, 2) := by decide +kernel
theorem dX1_init_9 : decode cX1_init 9 = .ok (.putfield 10, 3) := by decide +kernel
theorem dX1_init_12 : decode cX1_init 12 = .ok (.aload_n 0, 1) := by decide +kernel
theorem dX1_init_13 : decode cX1_init 13 = .ok (.aload_n 0, 1) := by decide +kernel
theorem dX1_init_14 : decode cX1_init 14 = .ok (.getfield 10, 3) := by decide +kernel
theorem dX1_init_17 : decode cX1_init 17 = .ok (.arraylength, 1) := by decide +kernel
theorem dX1_init_18 : decode cX1_init 18 = .ok (.putfield 16, 3) := by decide +kernel
theorem dX1_init_21 : decode cX1_init 21 = .ok (.return_, 1) := by decide +kernel
theorem dX1_size_0 : decode cX1_size 0 = .ok (.aload_n 0, 1) := by decide +kernel
theorem dX1_size_1 : decode cX1_size 1 = .ok (.getfield 10, 3) := by decide +kernel
theorem dX1_size_4 : decode cX1_size 4 = .ok (.arraylength, 1) := by decide +kernel
theorem dX1_size_5 : decode cX1_size 5 = .ok (.aload_n 0, 1) := by decide +kernel
theorem dX1_size_6 : decode cX1_size 6 = .ok (.getfield 16, 3) := by decide +kernel
theorem dX1_size_9 : decode cX1_size 9 = .ok (.isub, 1) := by decide +kernel
theorem dX1_size_10 : decode cX1_size 10 = .ok (.ireturn, 1) := by decide +kernel
theorem dX1_codeAt_0 : decode cX1_codeAt 0 = .ok (.iload_n 1, 1) := by decide +kernel
theorem dX1_codeAt_1 : decode cX1_codeAt 1 = .ok (.ifCond .lt 25, 3) := by decide +kernel
theorem dX1_codeAt_4 : decode cX1_codeAt 4 = .ok (.iload_n 1, 1) := by decide +kernel
theorem dX1_codeAt_5 : decode cX1_codeAt 5 = .ok (.aload_n 0, 1) := by decide +kernel
theorem dX1_codeAt_6 : decode cX1_codeAt 6 = .ok (.invokevirtual 20, 3) := by decide +kernel
theorem dX1_codeAt_9 : decode cX1_codeAt 9 = .ok (.if_icmp .ge 17, 3) := by decide +kernel
theorem dX1_codeAt_12 : decode cX1_codeAt 12 = .ok (.aload_n 0, 1) := by decide +kernel
theorem dX1_codeAt_13 : decode cX1_codeAt 13 = .ok (.getfield 10, 3) := by decide +kernel
theorem dX1_codeAt_16 : decode cX1_codeAt 16 = .ok (.aload_n 0, 1) := by decide +kernel
theorem dX1_codeAt_17 : decode cX1_codeAt 17 = .ok (.getfield 16, 3) := by decide +kernel
theorem dX1_codeAt_20 : decode cX1_codeAt 20 = .ok (.iload_n 1, 1) := by decide +kernel
theorem dX1_codeAt_21 : decode cX1_codeAt 21 = .ok (.iadd, 1) := by decide +kernel
theorem dX1_codeAt_22 : decode cX1_codeAt 22 = .ok (.baload, 1) := by decide +kernel
theorem dX1_codeAt_23 : decode cX1_codeAt 23 = .ok (.goto 4, 3) := by decide +kernel
theorem dX1_codeAt_26 : decode cX1_codeAt 26 = .ok (.iconst (-1), 1) := by decide +kernel
theorem dX1_codeAt_27 : decode cX1_codeAt 27 = .ok (.ireturn, 1) := by decide +kernel
theorem dX1_prepend_0 : decode cX1_prepend 0 = .ok (.aload_n 0, 1) := by decide +kernel
theorem dX1_prepend_1 : decode cX1_prepend 1 = .ok (.getfield 16, 3) := by decide +kernel
theorem dX1_prepend_4 : decode cX1_prepend 4 = .ok (.ifCond .le 24, 3) := by decide +kernel
theorem dX1_prepend_7 : decode cX1_prepend 7 = .ok (.aload_n 0, 1) := by decide +kernel
theorem dX1_prepend_8 : decode cX1_prepend 8 = .ok (.dup, 1) := by decide +kernel
theorem dX1_prepend_9 : decode cX1_prepend 9 = .ok (.getfield 16, 3) := by decide +kernel
theorem dX1_prepend_12 : decode cX1_prepend 12 = .ok (.iconst 1, 1) := by decide +kernel
theorem dX1_prepend_13 : decode cX1_prepend 13 = .ok (.isub, 1) := by decide +kernel
theorem dX1_prepend_14 : decode cX1_prepend 14 = .ok (.putfield 16, 3) := by decide +kernel
theorem dX1_prepend_17 : decode cX1_prepend 17 = .ok (.aload_n 0, 1) := by decide +kernel
theorem dX1_prepend_18 : decode cX1_prepend 18 = .ok (.getfield 10, 3) := by decide +kernel
theorem dX1_prepend_21 : decode cX1_prepend 21 = .ok (.aload_n 0, 1) := by decide +kernel
theorem dX1_prepend_22 : decode cX1_prepend 22 = .ok (.getfield 16, 3) := by decide +kernel
theorem dX1_prepend_25 : decode cX1_prepend 25 = .ok (.iload_n 1, 1) := by decide +kernel
theorem dX1_prepend_26 : decode cX1_prepend 26 = .ok (.i2b, 1) := by decide +kernel
theorem dX1_prepend_27 : decode cX1_prepend 27 = .ok (.bastore, 1) := by decide +kernel
theorem dX1_prepend_28 : decode cX1_prepend 28 = .ok (.return_, 1) := by decide +kernel
theorem dX1_becomeDigitsOf_0 : decode cX1_becomeDigitsOf 0 = .ok (.iload_n 2, 1) := by decide +kernel
theorem dX1_becomeDigitsOf_1 : decode cX1_becomeDigitsOf 1 = .ok (.i2l, 1) := by decide +kernel
theorem dX1_becomeDigitsOf_2 : decode cX1_becomeDigitsOf 2 = .ok (.lstore_n 3, 1) := by decide +kernel
theorem dX1_becomeDigitsOf_3 : decode cX1_becomeDigitsOf 3 = .ok (.iconst 1, 1) := by decide +kernel
theorem dX1_becomeDigitsOf_4 : decode cX1_becomeDigitsOf 4 = .ok (.istore 5, 2) := by decide +kernel
theorem dX1_becomeDigitsOf_6 : decode cX1_becomeDigitsOf 6 = .ok (.ldc2_w 24, 3) := by decide +kernel
theorem dX1_becomeDigitsOf_9 : decode cX1_becomeDigitsOf 9 = .ok (.iload_n 2, 1) := by decide +kernel
theorem dX1_becomeDigitsOf_10 : decode cX1_becomeDigitsOf 10 = .ok (.i2l, 1) := by decide +kernel
theorem dX1_becomeDigitsOf_11 : decode cX1_becomeDigitsOf 11 = .ok (.ldiv, 1) := by decide +kernel
theorem dX1_becomeDigitsOf_12 : decode cX1_becomeDigitsOf 12 = .ok (.lstore 6, 2) := by decide +kernel
theorem dX1_becomeDigitsOf_14 : decode cX1_becomeDigitsOf 14 = .ok (.iconst 0, 1) := by decide +kernel
theorem dX1_becomeDigitsOf_15 : decode cX1_becomeDigitsOf 15 = .ok (.istore 8, 2) := by decide +kernel
theorem dX1_becomeDigitsOf_17 : decode cX1_becomeDigitsOf 17 = .ok (.iload 8, 2) := by decide +kernel
theorem dX1_becomeDigitsOf_19 : decode cX1_becomeDigitsOf 19 = .ok (.bipush 32, 2) := by decide +kernel
theorem dX1_becomeDigitsOf_21 : decode cX1_becomeDigitsOf 21 = .ok (.if_icmp .ge 24, 3) := by decide +kernel
theorem dX1_becomeDigitsOf_24 : decode cX1_becomeDigitsOf 24 = .ok (.lload_n 3, 1) := by decide +kernel
theorem dX1_becomeDigitsOf_25 : decode cX1_becomeDigitsOf 25 = .ok (.lload 6, 2) := by decide +kernel
theorem dX1_becomeDigitsOf_27 : decode cX1_becomeDigitsOf 27 = .ok (.lcmp, 1) := by decide +kernel
theorem dX1_becomeDigitsOf_28 : decode cX1_becomeDigitsOf 28 = .ok (.ifCond .gt 17, 3) := by decide +kernel
theorem dX1_becomeDigitsOf_31 : decode cX1_becomeDigitsOf 31 = .ok (.lload_n 3, 1) := by decide +kernel
theorem dX1_becomeDigitsOf_32 : decode cX1_becomeDigitsOf 32 = .ok (.iload_n 2, 1) := by decide +kernel
theorem dX1_becomeDigitsOf_33 : decode cX1_becomeDigitsOf 33 = .ok (.i2l, 1) := by decide +kernel
theorem dX1_becomeDigitsOf_34 : decode cX1_becomeDigitsOf 34 = .ok (.lmul, 1) := by decide +kernel
theorem dX1_becomeDigitsOf_35 : decode cX1_becomeDigitsOf 35 = .ok (.lstore_n 3, 1) := by decide +kernel
theorem dX1_becomeDigitsOf_36 : decode cX1_becomeDigitsOf 36 = .ok (.iinc 5 1, 3) := by decide +kernel
theorem dX1_becomeDigitsOf_39 : decode cX1_becomeDigitsOf 39 = .ok (.iinc 8 1, 3) := by decide +kernel
theorem dX1_becomeDigitsOf_42 : decode cX1_becomeDigitsOf 42 = .ok (.goto (-25), 3) := by decide +kernel
theorem dX1_becomeDigitsOf_45 : decode cX1_becomeDigitsOf 45 = .ok (.aload_n 0, 1) := by decide +kernel
theorem dX1_becomeDigitsOf_46 : decode cX1_becomeDigitsOf 46 = .ok (.aload_n 0, 1) := by decide +kernel
theorem dX1_becomeDigitsOf_47 : decode cX1_becomeDigitsOf 47 = .ok (.getfield 10, 3) := by decide +kernel
theorem dX1_becomeDigitsOf_50 : decode cX1_becomeDigitsOf 50 = .ok (.arraylength, 1) := by decide +kernel
theorem dX1_becomeDigitsOf_51 : decode cX1_becomeDigitsOf 51 = .ok (.putfield 16, 3) := by decide +kernel
theorem dX1_becomeDigitsOf_54 : decode cX1_becomeDigitsOf 54 = .ok (.iconst 0, 1) := by decide +kernel
theorem dX1_becomeDigitsOf_55 : decode cX1_becomeDigitsOf 55 = .ok (.istore 8, 2) := by decide +kernel
theorem dX1_becomeDigitsOf_57 : decode cX1_becomeDigitsOf 57 = .ok (.iload 8, 2) := by decide +kernel
theorem dX1_becomeDigitsOf_59 : decode cX1_becomeDigitsOf 59 = .ok (.ldc 9, 2) := by decide +kernel
theorem dX1_becomeDigitsOf_61 : decode cX1_becomeDigitsOf 61 = .ok (.if_icmp .ge 46, 3) := by decide +kernel
theorem dX1_becomeDigitsOf_64 : decode cX1_becomeDigitsOf 64 = .ok (.aload_n 1, 1) := by decide +kernel
theorem dX1_becomeDigitsOf_65 : decode cX1_becomeDigitsOf 65 = .ok (.invokevirtual 26, 3) := by decide +kernel
theorem dX1_becomeDigitsOf_68 : decode cX1_becomeDigitsOf 68 = .ok (.ifCond .ne 39, 3) := by decide +kernel
theorem dX1_becomeDigitsOf_71 : decode cX1_becomeDigitsOf 71 = .ok (.aload_n 1, 1) := by decide +kernel
theorem dX1_becomeDigitsOf_72 : decode cX1_becomeDigitsOf 72 = .ok (.lload_n 3, 1) := by decide +kernel
theorem dX1_becomeDigitsOf_73 : decode cX1_becomeDigitsOf 73 = .ok (.invokevirtual 32, 3) := by decide +kernel
theorem dX1_becomeDigitsOf_76 : decode cX1_becomeDigitsOf 76 = .ok (.lstore 9, 2) := by decide +kernel
theorem dX1_becomeDigitsOf_78 : decode cX1_becomeDigitsOf 78 = .ok (.aload_n 0, 1) := by decide +kernel
theorem dX1_becomeDigitsOf_79 : decode cX1_becomeDigitsOf 79 = .ok (.lload 9, 2) := by decide +kernel
theorem dX1_becomeDigitsOf_81 : decode cX1_becomeDigitsOf 81 = .ok (.iconst 2, 1) := by decide +kernel
theorem dX1_becomeDigitsOf_82 : decode cX1_becomeDigitsOf 82 = .ok (.iload 5, 2) := by decide +kernel
theorem dX1_becomeDigitsOf_84 : decode cX1_becomeDigitsOf 84 = .ok (.imul, 1) := by decide +kernel
theorem dX1_becomeDigitsOf_85 : decode cX1_becomeDigitsOf 85 = .ok (.iload_n 2, 1) := by decide +kernel
theorem dX1_becomeDigitsOf_86 : decode cX1_becomeDigitsOf 86 = .ok (.aload_n 1, 1) := by decide +kernel
theorem dX1_becomeDigitsOf_87 : decode cX1_becomeDigitsOf 87 = .ok (.invokevirtual 26, 3) := by decide +kernel
theorem dX1_becomeDigitsOf_90 : decode cX1_becomeDigitsOf 90 = .ok (.ifCond .ne 7, 3) := by decide +kernel
theorem dX1_becomeDigitsOf_93 : decode cX1_becomeDigitsOf 93 = .ok (.iconst 1, 1) := by decide +kernel
theorem dX1_becomeDigitsOf_94 : decode cX1_becomeDigitsOf 94 = .ok (.goto 4, 3) := by decide +kernel
theorem dX1_becomeDigitsOf_97 : decode cX1_becomeDigitsOf 97 = .ok (.iconst 0, 1) := by decide +kernel
theorem dX1_becomeDigitsOf_98 : decode cX1_becomeDigitsOf 98 = .ok (.invokevirtual 36, 3) := by decide +kernel
theorem dX1_becomeDigitsOf_101 : decode cX1_becomeDigitsOf 101 = .ok (.iinc 8 1, 3) := by decide +kernel
theorem dX1_becomeDigitsOf_104 : decode cX1_becomeDigitsOf 104 = .ok (.goto (-47), 3) := by decide +kernel
theorem dX1_becomeDigitsOf_107 : decode cX1_becomeDigitsOf 107 = .ok (.aload_n 0, 1) := by decide +kernel
theorem dX1_becomeDigitsOf_108 : decode cX1_becomeDigitsOf 108 = .ok (.invokevirtual 20, 3) := by decide +kernel
theorem dX1_becomeDigitsOf_111 : decode cX1_becomeDigitsOf 111 = .ok (.ifCond .ne 9, 3) := by decide +kernel
theorem dX1_becomeDigitsOf_114 : decode cX1_becomeDigitsOf 114 = .ok (.aload_n 0, 1) := by decide +kernel
theorem dX1_becomeDigitsOf_115 : decode cX1_becomeDigitsOf 115 = .ok (.bipush 48, 2) := by decide +kernel
theorem dX1_becomeDigitsOf_117 : decode cX1_becomeDigitsOf 117 = .ok (.invokevirtual 40, 3) := by decide +kernel
theorem dX1_becomeDigitsOf_120 : decode cX1_becomeDigitsOf 120 = .ok (.return_, 1) := by decide +kernel
theorem dX1_prependDigits_0 : decode cX1_prependDigits 0 = .ok (.lload_n 1, 1) := by decide +kernel
theorem dX1_prependDigits_1 : decode cX1_prependDigits 1 = .ok (.lstore 6, 2) := by decide +kernel
theorem dX1_prependDigits_3 : decode cX1_prependDigits 3 = .ok (.iconst 0, 1) := by decide +kernel
theorem dX1_prependDigits_4 : decode cX1_prependDigits 4 = .ok (.istore 8, 2) := by decide +kernel
theorem dX1_prependDigits_6 : decode cX1_prependDigits 6 = .ok (.iload 8, 2) := by decide +kernel
theorem dX1_prependDigits_8 : decode cX1_prependDigits 8 = .ok (.iload_n 3, 1) := by decide +kernel
theorem dX1_prependDigits_9 : decode cX1_prependDigits 9 = .ok (.if_icmp .ge 43, 3) := by decide +kernel
theorem dX1_prependDigits_12 : decode cX1_prependDigits 12 = .ok (.iload 5, 2) := by decide +kernel
theorem dX1_prependDigits_14 : decode cX1_prependDigits 14 = .ok (.ifCond .ne 10, 3) := by decide +kernel
theorem dX1_prependDigits_17 : decode cX1_prependDigits 17 = .ok (.lload 6, 2) := by decide +kernel
theorem dX1_prependDigits_19 : decode cX1_prependDigits 19 = .ok (.lconst 0, 1) := by decide +kernel
theorem dX1_prependDigits_20 : decode cX1_prependDigits 20 = .ok (.lcmp, 1) := by decide +kernel
theorem dX1_prependDigits_21 : decode cX1_prependDigits 21 = .ok (.ifCond .le 31, 3) := by decide +kernel
theorem dX1_prependDigits_24 : decode cX1_prependDigits 24 = .ok (.aload_n 0, 1) := by decide +kernel
theorem dX1_prependDigits_25 : decode cX1_prependDigits 25 = .ok (.lload 6, 2) := by decide +kernel
theorem dX1_prependDigits_27 : decode cX1_prependDigits 27 = .ok (.iload 4, 2) := by decide +kernel
theorem dX1_prependDigits_29 : decode cX1_prependDigits 29 = .ok (.i2l, 1) := by decide +kernel
theorem dX1_prependDigits_30 : decode cX1_prependDigits 30 = .ok (.lrem, 1) := by decide +kernel
theorem dX1_prependDigits_31 : decode cX1_prependDigits 31 = .ok (.l2i, 1) := by decide +kernel
theorem dX1_prependDigits_32 : decode cX1_prependDigits 32 = .ok (.invokestatic 44, 3) := by decide +kernel
theorem dX1_prependDigits_35 : decode cX1_prependDigits 35 = .ok (.invokevirtual 40, 3) := by decide +kernel
theorem dX1_prependDigits_38 : decode cX1_prependDigits 38 = .ok (.lload 6, 2) := by decide +kernel
theorem dX1_prependDigits_40 : decode cX1_prependDigits 40 = .ok (.iload 4, 2) := by decide +kernel
theorem dX1_prependDigits_42 : decode cX1_prependDigits 42 = .ok (.i2l, 1) := by decide +kernel
theorem dX1_prependDigits_43 : decode cX1_prependDigits 43 = .ok (.ldiv, 1) := by decide +kernel
theorem dX1_prependDigits_44 : decode cX1_prependDigits 44 = .ok (.lstore 6, 2) := by decide +kernel
theorem dX1_prependDigits_46 : decode cX1_prependDigits 46 = .ok (.iinc 8 1, 3) := by decide +kernel
theorem dX1_prependDigits_49 : decode cX1_prependDigits 49 = .ok (.goto (-43), 3) := by decide +kernel
theorem dX1_prependDigits_52 : decode cX1_prependDigits 52 = .ok (.return_, 1) := by decide +kernel
theorem dX2_init_0 : decode cX2_init 0 = .ok (.aload_n 0, 1) := by decide +kernel
theorem dX2_init_1 : decode cX2_init 1 = .ok (.invokespecial 3, 3) := by decide +kernel
theorem dX2_init_4 : decode cX2_init 4 = .ok (.aload_n 0, 1) := by decide +kernel
theorem dX2_init_5 : decode cX2_init 5 = .ok (.iload_n 1, 1) := by decide +kernel
theorem dX2_init_6 : decode cX2_init 6 = .ok (.iconst 2, 1) := by decide +kernel
theorem dX2_init_7 : decode cX2_init 7 = .ok (.invokestatic 9, 3) := by decide +kernel
theorem dX2_init_10 : decode cX2_init 10 = .ok (.newarray .int, 2) := by decide +kernel
theorem dX2_init_12 : decode cX2_init 12 = .ok (.putfield 15, 3) := by decide +kernel
theorem dX2_init_15 : decode cX2_init 15 = .ok (.aload_n 0, 1) := by decide +kernel
theorem dX2_init_16 : decode cX2_init 16 = .ok (.iconst 0, 1) := by decide +kernel
theorem dX2_init_17 : decode cX2_init 17 = .ok (.putfield 21, 3) := by decide +kernel
theorem dX2_init_20 : decode cX2_init 20 = .ok (.return_, 1) := by decide +kernel
theorem dX2_isZero_0 : decode cX2_isZero 0 = .ok (.aload_n 0, 1) := by decide +kernel
theorem dX2_isZero_1 : decode cX2_isZero 1 = .ok (.getfield 21, 3) := by decide +kernel
theorem dX2_isZero_4 : decode cX2_isZero 4 = .ok (.ifCond .ne 7, 3) := by decide +kernel
theorem dX2_isZero_7 : decode cX2_isZero 7 = .ok (.iconst 1, 1) := by decide +kernel
theorem dX2_isZero_8 : decode cX2_isZero 8 = .ok (.goto 4, 3) := by decide +kernel
theorem dX2_isZero_11 : decode cX2_isZero 11 = .ok (.iconst 0, 1) := by decide +kernel
theorem dX2_isZero_12 : decode cX2_isZero 12 = .ok (.ireturn, 1) := by decide +kernel
theorem dX2_wordAt_0 : decode cX2_wordAt 0 = .ok (.iload_n 1, 1) := by decide +kernel
theorem dX2_wordAt_1 : decode cX2_wordAt 1 = .ok (.ifCond .lt 20, 3) := by decide +kernel
theorem dX2_wordAt_4 : decode cX2_wordAt 4 = .ok (.iload_n 1, 1) := by decide +kernel
theorem dX2_wordAt_5 : decode cX2_wordAt 5 = .ok (.aload_n 0, 1) := by decide +kernel
theorem dX2_wordAt_6 : decode cX2_wordAt 6 = .ok (.getfield 21, 3) := by decide +kernel
theorem dX2_wordAt_9 : decode cX2_wordAt 9 = .ok (.if_icmp .ge 12, 3) := by decide +kernel
theorem dX2_wordAt_12 : decode cX2_wordAt 12 = .ok (.aload_n 0, 1) := by decide +kernel
theorem dX2_wordAt_13 : decode cX2_wordAt 13 = .ok (.getfield 15, 3) := by decide +kernel
theorem dX2_wordAt_16 : decode cX2_wordAt 16 = .ok (.iload_n 1, 1) := by decide +kernel
theorem dX2_wordAt_17 : decode cX2_wordAt 17 = .ok (.iaload, 1) := by decide +kernel
theorem dX2_wordAt_18 : decode cX2_wordAt 18 = .ok (.goto 4, 3) := by decide +kernel
theorem dX2_wordAt_21 : decode cX2_wordAt 21 = .ok (.iconst 0, 1) := by decide +kernel
theorem dX2_wordAt_22 : decode cX2_wordAt 22 = .ok (.ireturn, 1) := by decide +kernel
theorem dX2_countBits_0 : decode cX2_countBits 0 = .ok (.bipush 32, 2) := by decide +kernel
theorem dX2_countBits_2 : decode cX2_countBits 2 = .ok (.aload_n 0, 1) := by decide +kernel
theorem dX2_countBits_3 : decode cX2_countBits 3 = .ok (.getfield 21, 3) := by decide +kernel
theorem dX2_countBits_6 : decode cX2_countBits 6 = .ok (.imul, 1) := by decide +kernel
theorem dX2_countBits_7 : decode cX2_countBits 7 = .ok (.aload_n 0, 1) := by decide +kernel
theorem dX2_countBits_8 : decode cX2_countBits 8 = .ok (.getfield 21, 3) := by decide +kernel
theorem dX2_countBits_11 : decode cX2_countBits 11 = .ok (.ifCond .ne 7, 3) := by decide +kernel
theorem dX2_countBits_14 : decode cX2_countBits 14 = .ok (.iconst 0, 1) := by decide +kernel
theorem dX2_countBits_15 : decode cX2_countBits 15 = .ok (.goto 17, 3) := by decide +kernel
theorem dX2_countBits_18 : decode cX2_countBits 18 = .ok (.aload_n 0, 1) := by decide +kernel
theorem dX2_countBits_19 : decode cX2_countBits 19 = .ok (.getfield 15, 3) := by decide +kernel
theorem dX2_countBits_22 : decode cX2_countBits 22 = .ok (.aload_n 0, 1) := by decide +kernel
theorem dX2_countBits_23 : decode cX2_countBits 23 = .ok (.getfield 21, 3) := by decide +kernel
theorem dX2_countBits_26 : decode cX2_countBits 26 = .ok (.iconst 1, 1) := by decide +kernel
theorem dX2_countBits_27 : decode cX2_countBits 27 = .ok (.isub, 1) := by decide +kernel
theorem dX2_countBits_28 : decode cX2_countBits 28 = .ok (.iaload, 1) := by decide +kernel
theorem dX2_countBits_29 : decode cX2_countBits 29 = .ok (.invokestatic 25, 3) := by decide +kernel
theorem dX2_countBits_32 : decode cX2_countBits 32 = .ok (.isub, 1) := by decide +kernel
theorem dX2_countBits_33 : decode cX2_countBits 33 = .ok (.ireturn, 1) := by decide +kernel
theorem dX2_lowLong_0 : decode cX2_lowLong 0 = .ok (.aload_n 0, 1) := by decide +kernel
theorem dX2_lowLong_1 : decode cX2_lowLong 1 = .ok (.iconst 1, 1) := by decide +kernel
theorem dX2_lowLong_2 : decode cX2_lowLong 2 = .ok (.invokevirtual 31, 3) := by decide +kernel
theorem dX2_lowLong_5 : decode cX2_lowLong 5 = .ok (.i2l, 1) := by decide +kernel
theorem dX2_lowLong_6 : decode cX2_lowLong 6 = .ok (.bipush 32, 2) := by decide +kernel
theorem dX2_lowLong_8 : decode cX2_lowLong 8 = .ok (.lshl, 1) := by decide +kernel
theorem dX2_lowLong_9 : decode cX2_lowLong 9 = .ok (.aload_n 0, 1) := by decide +kernel
theorem dX2_lowLong_10 : decode cX2_lowLong 10 = .ok (.iconst 0, 1) := by decide +kernel
theorem dX2_lowLong_11 : decode cX2_lowLong 11 = .ok (.invokevirtual 31, 3) := by decide +kernel
theorem dX2_lowLong_14 : decode cX2_lowLong 14 = .ok (.i2l, 1) := by decide +kernel
theorem dX2_lowLong_15 : decode cX2_lowLong 15 = .ok (.ldc2_w 34, 3) := by decide +kernel
theorem dX2_lowLong_18 : decode cX2_lowLong 18 = .ok (.land, 1) := by decide +kernel
theorem dX2_lowLong_19 : decode cX2_lowLong 19 = .ok (.lor, 1) := by decide +kernel
theorem dX2_lowLong_20 : decode cX2_lowLong 20 = .ok (.lreturn, 1) := by decide +kernel
theorem dX2_becomeLong_0 : decode cX2_becomeLong 0 = .ok (.aload_n 0, 1) := by decide +kernel
theorem dX2_becomeLong_1 : decode cX2_becomeLong 1 = .ok (.iconst 0, 1) := by decide +kernel
theorem dX2_becomeLong_2 : decode cX2_becomeLong 2 = .ok (.putfield 21, 3) := by decide +kernel
theorem dX2_becomeLong_5 : decode cX2_becomeLong 5 = .ok (.aload_n 0, 1) := by decide +kernel
theorem dX2_becomeLong_6 : decode cX2_becomeLong 6 = .ok (.lload_n 1, 1) := by decide +kernel
theorem dX2_becomeLong_7 : decode cX2_becomeLong 7 = .ok (.invokevirtual 36, 3) := by decide +kernel
theorem dX2_becomeLong_10 : decode cX2_becomeLong 10 = .ok (.pop, 1) := by decide +kernel
theorem dX2_becomeLong_11 : decode cX2_becomeLong 11 = .ok (.return_, 1) := by decide +kernel
theorem dX2_becomeCopyOf_0 : decode cX2_becomeCopyOf 0 = .ok (.aload_n 0, 1) := by decide +kernel
theorem dX2_becomeCopyOf_1 : decode cX2_becomeCopyOf 1 = .ok (.aload_n 1, 1) := by decide +kernel
theorem dX2_becomeCopyOf_2 : decode cX2_becomeCopyOf 2 = .ok (.getfield 21, 3) := by decide +kernel
theorem dX2_becomeCopyOf_5 : decode cX2_becomeCopyOf 5 = .ok (.aload_n 0, 1) := by decide +kernel
theorem dX2_becomeCopyOf_6 : decode cX2_becomeCopyOf 6 = .ok (.getfield 15, 3) := by decide +kernel
theorem dX2_becomeCopyOf_9 : decode cX2_becomeCopyOf 9 = .ok (.arraylength, 1) := by decide +kernel
theorem dX2_becomeCopyOf_10 : decode cX2_becomeCopyOf 10 = .ok (.invokestatic 40, 3) := by decide +kernel
theorem dX2_becomeCopyOf_13 : decode cX2_becomeCopyOf 13 = .ok (.putfield 21, 3) := by decide +kernel
theorem dX2_becomeCopyOf_16 : decode cX2_becomeCopyOf 16 = .ok (.aload_n 1, 1) := by decide +kernel
theorem dX2_becomeCopyOf_17 : decode cX2_becomeCopyOf 17 = .ok (.getfield 15, 3) := by decide +kernel
theorem dX2_becomeCopyOf_20 : decode cX2_becomeCopyOf 20 = .ok (.iconst 0, 1) := by decide +kernel
theorem dX2_becomeCopyOf_21 : decode cX2_becomeCopyOf 21 = .ok (.aload_n 0, 1) := by decide +kernel
theorem dX2_becomeCopyOf_22 : decode cX2_becomeCopyOf 22 = .ok (.getfield 15, 3) := by decide +kernel
theorem dX2_becomeCopyOf_25 : decode cX2_becomeCopyOf 25 = .ok (.iconst 0, 1) := by decide +kernel
theorem dX2_becomeCopyOf_26 : decode cX2_becomeCopyOf 26 = .ok (.aload_n 0, 1) := by decide +kernel
theorem dX2_becomeCopyOf_27 : decode cX2_becomeCopyOf 27 = .ok (.getfield 21, 3) := by decide +kernel
theorem dX2_becomeCopyOf_30 : decode cX2_becomeCopyOf 30 = .ok (.invokestatic 43, 3) := by decide +kernel
theorem dX2_becomeCopyOf_33 : decode cX2_becomeCopyOf 33 = .ok (.return_, 1) := by decide +kernel
theorem dX2_becomeDigitsOf_0 : decode cX2_becomeDigitsOf 0 = .ok (.aload_n 0, 1) := by decide +kernel
theorem dX2_becomeDigitsOf_1 : decode cX2_becomeDigitsOf 1 = .ok (.iconst 0, 1) := by decide +kernel
theorem dX2_becomeDigitsOf_2 : decode cX2_becomeDigitsOf 2 = .ok (.putfield 21, 3) := by decide +kernel
theorem dX2_becomeDigitsOf_5 : decode cX2_becomeDigitsOf 5 = .ok (.ldc2_w 34, 3) := by decide +kernel
theorem dX2_becomeDigitsOf_8 : decode cX2_becomeDigitsOf 8 = .ok (.iload_n 3, 1) := by decide +kernel
theorem dX2_becomeDigitsOf_9 : decode cX2_becomeDigitsOf 9 = .ok (.i2l, 1) := by decide +kernel
theorem dX2_becomeDigitsOf_10 : decode cX2_becomeDigitsOf 10 = .ok (.ldiv, 1) := by decide +kernel
theorem dX2_becomeDigitsOf_11 : decode cX2_becomeDigitsOf 11 = .ok (.lstore 4, 2) := by decide +kernel
theorem dX2_becomeDigitsOf_13 : decode cX2_becomeDigitsOf 13 = .ok (.lconst 1, 1) := by decide +kernel
theorem dX2_becomeDigitsOf_14 : decode cX2_becomeDigitsOf 14 = .ok (.lstore 6, 2) := by decide +kernel
theorem dX2_becomeDigitsOf_16 : decode cX2_becomeDigitsOf 16 = .ok (.lconst 0, 1) := by decide +kernel
theorem dX2_becomeDigitsOf_17 : decode cX2_becomeDigitsOf 17 = .ok (.lstore 8, 2) := by decide +kernel
theorem dX2_becomeDigitsOf_19 : decode cX2_becomeDigitsOf 19 = .ok (.iload_n 2, 1) := by decide +kernel
theorem dX2_becomeDigitsOf_20 : decode cX2_becomeDigitsOf 20 = .ok (.istore 10, 2) := by decide +kernel
theorem dX2_becomeDigitsOf_22 : decode cX2_becomeDigitsOf 22 = .ok (.iload 10, 2) := by decide +kernel
theorem dX2_becomeDigitsOf_24 : decode cX2_becomeDigitsOf 24 = .ok (.aload_n 1, 1) := by decide +kernel
theorem dX2_becomeDigitsOf_25 : decode cX2_becomeDigitsOf 25 = .ok (.invokevirtual 49, 3) := by decide +kernel
theorem dX2_becomeDigitsOf_28 : decode cX2_becomeDigitsOf 28 = .ok (.if_icmp .ge 72, 3) := by decide +kernel
theorem dX2_becomeDigitsOf_31 : decode cX2_becomeDigitsOf 31 = .ok (.lload 6, 2) := by decide +kernel
theorem dX2_becomeDigitsOf_33 : decode cX2_becomeDigitsOf 33 = .ok (.iload_n 3, 1) := by decide +kernel
theorem dX2_becomeDigitsOf_34 : decode cX2_becomeDigitsOf 34 = .ok (.i2l, 1) := by decide +kernel
theorem dX2_becomeDigitsOf_35 : decode cX2_becomeDigitsOf 35 = .ok (.lmul, 1) := by decide +kernel
theorem dX2_becomeDigitsOf_36 : decode cX2_becomeDigitsOf 36 = .ok (.lstore 6, 2) := by decide +kernel
theorem dX2_becomeDigitsOf_38 : decode cX2_becomeDigitsOf 38 = .ok (.lload 8, 2) := by decide +kernel
theorem dX2_becomeDigitsOf_40 : decode cX2_becomeDigitsOf 40 = .ok (.iload_n 3, 1) := by decide +kernel
theorem dX2_becomeDigitsOf_41 : decode cX2_becomeDigitsOf 41 = .ok (.i2l, 1) := by decide +kernel
theorem dX2_becomeDigitsOf_42 : decode cX2_becomeDigitsOf 42 = .ok (.lmul, 1) := by decide +kernel
theorem dX2_becomeDigitsOf_43 : decode cX2_becomeDigitsOf 43 = .ok (.aload_n 1, 1) := by decide +kernel
theorem dX2_becomeDigitsOf_44 : decode cX2_becomeDigitsOf 44 = .ok (.iload 10, 2) := by decide +kernel
theorem dX2_becomeDigitsOf_46 : decode cX2_becomeDigitsOf 46 = .ok (.invokevirtual 55, 3) := by decide +kernel
theorem dX2_becomeDigitsOf_49 : decode cX2_becomeDigitsOf 49 = .ok (.invokestatic 58, 3) := by decide +kernel
theorem dX2_becomeDigitsOf_52 : decode cX2_becomeDigitsOf 52 = .ok (.i2l, 1) := by decide +kernel
theorem dX2_becomeDigitsOf_53 : decode cX2_becomeDigitsOf 53 = .ok (.ladd, 1) := by decide +kernel
theorem dX2_becomeDigitsOf_54 : decode cX2_becomeDigitsOf 54 = .ok (.lstore 8, 2) := by decide +kernel
theorem dX2_becomeDigitsOf_56 : decode cX2_becomeDigitsOf 56 = .ok (.lload 6, 2) := by decide +kernel
theorem dX2_becomeDigitsOf_58 : decode cX2_becomeDigitsOf 58 = .ok (.lload 4, 2) := by decide +kernel
theorem dX2_becomeDigitsOf_60 : decode cX2_becomeDigitsOf 60 = .ok (.lcmp, 1) := by decide +kernel
theorem dX2_becomeDigitsOf_61 : decode cX2_becomeDigitsOf 61 = .ok (.ifCond .gt 14, 3) := by decide +kernel
theorem dX2_becomeDigitsOf_64 : decode cX2_becomeDigitsOf 64 = .ok (.iload 10, 2) := by decide +kernel
theorem dX2_becomeDigitsOf_66 : decode cX2_becomeDigitsOf 66 = .ok (.aload_n 1, 1) := by decide +kernel
theorem dX2_becomeDigitsOf_67 : decode cX2_becomeDigitsOf 67 = .ok (.invokevirtual 49, 3) := by decide +kernel
theorem dX2_becomeDigitsOf_70 : decode cX2_becomeDigitsOf 70 = .ok (.iconst 1, 1) := by decide +kernel
theorem dX2_becomeDigitsOf_71 : decode cX2_becomeDigitsOf 71 = .ok (.isub, 1) := by decide +kernel
theorem dX2_becomeDigitsOf_72 : decode cX2_becomeDigitsOf 72 = .ok (.if_icmp .ne 22, 3) := by decide +kernel
theorem dX2_becomeDigitsOf_75 : decode cX2_becomeDigitsOf 75 = .ok (.aload_n 0, 1) := by decide +kernel
theorem dX2_becomeDigitsOf_76 : decode cX2_becomeDigitsOf 76 = .ok (.lload 6, 2) := by decide +kernel
theorem dX2_becomeDigitsOf_78 : decode cX2_becomeDigitsOf 78 = .ok (.lload 8, 2) := by decide +kernel
theorem dX2_becomeDigitsOf_80 : decode cX2_becomeDigitsOf 80 = .ok (.invokevirtual 61, 3) := by decide +kernel
theorem dX2_becomeDigitsOf_83 : decode cX2_becomeDigitsOf 83 = .ok (.ifCond .ne 5, 3) := by decide +kernel
theorem dX2_becomeDigitsOf_86 : decode cX2_becomeDigitsOf 86 = .ok (.iconst 0, 1) := by decide +kernel
theorem dX2_becomeDigitsOf_87 : decode cX2_becomeDigitsOf 87 = .ok (.ireturn, 1) := by decide +kernel
theorem dX2_becomeDigitsOf_88 : decode cX2_becomeDigitsOf 88 = .ok (.lconst 1, 1) := by decide +kernel
theorem dX2_becomeDigitsOf_89 : decode cX2_becomeDigitsOf 89 = .ok (.lstore 6, 2) := by decide +kernel
theorem dX2_becomeDigitsOf_91 : decode cX2_becomeDigitsOf 91 = .ok (.lconst 0, 1) := by decide +kernel
theorem dX2_becomeDigitsOf_92 : decode cX2_becomeDigitsOf 92 = .ok (.lstore 8, 2) := by decide +kernel
theorem dX2_becomeDigitsOf_94 : decode cX2_becomeDigitsOf 94 = .ok (.iinc 10 1, 3) := by decide +kernel
theorem dX2_becomeDigitsOf_97 : decode cX2_becomeDigitsOf 97 = .ok (.goto (-75), 3) := by decide +kernel
theorem dX2_becomeDigitsOf_100 : decode cX2_becomeDigitsOf 100 = .ok (.iconst 1, 1) := by decide +kernel
theorem dX2_becomeDigitsOf_101 : decode cX2_becomeDigitsOf 101 = .ok (.ireturn, 1) := by decide +kernel
theorem dX2_multiplyAndAdd_0 : decode cX2_multiplyAndAdd 0 = .ok (.lload_n 3, 1) := by decide +kernel
theorem dX2_multiplyAndAdd_1 : decode cX2_multiplyAndAdd 1 = .ok (.lstore 5, 2) := by decide +kernel
theorem dX2_multiplyAndAdd_3 : decode cX2_multiplyAndAdd 3 = .ok (.iconst 0, 1) := by decide +kernel
theorem dX2_multiplyAndAdd_4 : decode cX2_multiplyAndAdd 4 = .ok (.istore 7, 2) := by decide +kernel
theorem dX2_multiplyAndAdd_6 : decode cX2_multiplyAndAdd 6 = .ok (.iload 7, 2) := by decide +kernel
theorem dX2_multiplyAndAdd_8 : decode cX2_multiplyAndAdd 8 = .ok (.aload_n 0, 1) := by decide +kernel
theorem dX2_multiplyAndAdd_9 : decode cX2_multiplyAndAdd 9 = .ok (.getfield 21, 3) := by decide +kernel
theorem dX2_multiplyAndAdd_12 : decode cX2_multiplyAndAdd 12 = .ok (.if_icmp .ge 45, 3) := by decide +kernel
theorem dX2_multiplyAndAdd_15 : decode cX2_multiplyAndAdd 15 = .ok (.aload_n 0, 1) := by decide +kernel
theorem dX2_multiplyAndAdd_16 : decode cX2_multiplyAndAdd 16 = .ok (.getfield 15, 3) := by decide +kernel
theorem dX2_multiplyAndAdd_19 : decode cX2_multiplyAndAdd 19 = .ok (.iload 7, 2) := by decide +kernel
theorem dX2_multiplyAndAdd_21 : decode cX2_multiplyAndAdd 21 = .ok (.iaload, 1) := by decide +kernel
theorem dX2_multiplyAndAdd_22 : decode cX2_multiplyAndAdd 22 = .ok (.i2l, 1) := by decide +kernel
theorem dX2_multiplyAndAdd_23 : decode cX2_multiplyAndAdd 23 = .ok (.ldc2_w 34, 3) := by decide +kernel
theorem dX2_multiplyAndAdd_26 : decode cX2_multiplyAndAdd 26 = .ok (.land, 1) := by decide +kernel
theorem dX2_multiplyAndAdd_27 : decode cX2_multiplyAndAdd 27 = .ok (.lload_n 1, 1) := by decide +kernel
theorem dX2_multiplyAndAdd_28 : decode cX2_multiplyAndAdd 28 = .ok (.lmul, 1) := by decide +kernel
theorem dX2_multiplyAndAdd_29 : decode cX2_multiplyAndAdd 29 = .ok (.lload 5, 2) := by decide +kernel
theorem dX2_multiplyAndAdd_31 : decode cX2_multiplyAndAdd 31 = .ok (.ladd, 1) := by decide +kernel
theorem dX2_multiplyAndAdd_32 : decode cX2_multiplyAndAdd 32 = .ok (.lstore 8, 2) := by decide +kernel
theorem dX2_multiplyAndAdd_34 : decode cX2_multiplyAndAdd 34 = .ok (.aload_n 0, 1) := by decide +kernel
theorem dX2_multiplyAndAdd_35 : decode cX2_multiplyAndAdd 35 = .ok (.getfield 15, 3) := by decide +kernel
theorem dX2_multiplyAndAdd_38 : decode cX2_multiplyAndAdd 38 = .ok (.iload 7, 2) := by decide +kernel
theorem dX2_multiplyAndAdd_40 : decode cX2_multiplyAndAdd 40 = .ok (.lload 8, 2) := by decide +kernel
theorem dX2_multiplyAndAdd_42 : decode cX2_multiplyAndAdd 42 = .ok (.l2i, 1) := by decide +kernel
theorem dX2_multiplyAndAdd_43 : decode cX2_multiplyAndAdd 43 = .ok (.iastore, 1) := by decide +kernel
theorem dX2_multiplyAndAdd_44 : decode cX2_multiplyAndAdd 44 = .ok (.lload 8, 2) := by decide +kernel
theorem dX2_multiplyAndAdd_46 : decode cX2_multiplyAndAdd 46 = .ok (.bipush 32, 2) := by decide +kernel
theorem dX2_multiplyAndAdd_48 : decode cX2_multiplyAndAdd 48 = .ok (.lushr, 1) := by decide +kernel
theorem dX2_multiplyAndAdd_49 : decode cX2_multiplyAndAdd 49 = .ok (.lstore 5, 2) := by decide +kernel
theorem dX2_multiplyAndAdd_51 : decode cX2_multiplyAndAdd 51 = .ok (.iinc 7 1, 3) := by decide +kernel
theorem dX2_multiplyAndAdd_54 : decode cX2_multiplyAndAdd 54 = .ok (.goto (-48), 3) := by decide +kernel
theorem dX2_multiplyAndAdd_57 : decode cX2_multiplyAndAdd 57 = .ok (.aload_n 0, 1) := by decide +kernel
theorem dX2_multiplyAndAdd_58 : decode cX2_multiplyAndAdd 58 = .ok (.lload 5, 2) := by decide +kernel
theorem dX2_multiplyAndAdd_60 : decode cX2_multiplyAndAdd 60 = .ok (.invokevirtual 65, 3) := by decide +kernel
theorem dX2_multiplyAndAdd_63 : decode cX2_multiplyAndAdd 63 = .ok (.ireturn, 1) := by decide +kernel
theorem dX2_appendCarry_0 : decode cX2_appendCarry 0 = .ok (.lload_n 1, 1) := by decide +kernel
theorem dX2_appendCarry_1 : decode cX2_appendCarry 1 = .ok (.lconst 0, 1) := by decide +kernel
theorem dX2_appendCarry_2 : decode cX2_appendCarry 2 = .ok (.lcmp, 1) := by decide +kernel
theorem dX2_appendCarry_3 : decode cX2_appendCarry 3 = .ok (.ifCond .ne 5, 3) := by decide +kernel
theorem dX2_appendCarry_6 : decode cX2_appendCarry 6 = .ok (.iconst 1, 1) := by decide +kernel
theorem dX2_appendCarry_7 : decode cX2_appendCarry 7 = .ok (.ireturn, 1) := by decide +kernel
theorem dX2_appendCarry_8 : decode cX2_appendCarry 8 = .ok (.aload_n 0, 1) := by decide +kernel
theorem dX2_appendCarry_9 : decode cX2_appendCarry 9 = .ok (.getfield 21, 3) := by decide +kernel
theorem dX2_appendCarry_12 : decode cX2_appendCarry 12 = .ok (.aload_n 0, 1) := by decide +kernel
theorem dX2_appendCarry_13 : decode cX2_appendCarry 13 = .ok (.getfield 15, 3) := by decide +kernel
theorem dX2_appendCarry_16 : decode cX2_appendCarry 16 = .ok (.arraylength, 1) := by decide +kernel
theorem dX2_appendCarry_17 : decode cX2_appendCarry 17 = .ok (.if_icmp .lt 5, 3) := by decide +kernel
theorem dX2_appendCarry_20 : decode cX2_appendCarry 20 = .ok (.iconst 0, 1) := by decide +kernel
theorem dX2_appendCarry_21 : decode cX2_appendCarry 21 = .ok (.ireturn, 1) := by decide +kernel
theorem dX2_appendCarry_22 : decode cX2_appendCarry 22 = .ok (.aload_n 0, 1) := by decide +kernel
theorem dX2_appendCarry_23 : decode cX2_appendCarry 23 = .ok (.getfield 15, 3) := by decide +kernel
theorem dX2_appendCarry_26 : decode cX2_appendCarry 26 = .ok (.aload_n 0, 1) := by decide +kernel
theorem dX2_appendCarry_27 : decode cX2_appendCarry 27 = .ok (.getfield 21, 3) := by decide +kernel
theorem dX2_appendCarry_30 : decode cX2_appendCarry 30 = .ok (.lload_n 1, 1) := by decide +kernel
theorem dX2_appendCarry_31 : decode cX2_appendCarry 31 = .ok (.l2i, 1) := by decide +kernel
theorem dX2_appendCarry_32 : decode cX2_appendCarry 32 = .ok (.iastore, 1) := by decide +kernel
theorem dX2_appendCarry_33 : decode cX2_appendCarry 33 = .ok (.aload_n 0, 1) := by decide +kernel
theorem dX2_appendCarry_34 : decode cX2_appendCarry 34 = .ok (.dup, 1) := by decide +kernel
theorem dX2_appendCarry_35 : decode cX2_appendCarry 35 = .ok (.getfield 21, 3) := by decide +kernel
theorem dX2_appendCarry_38 : decode cX2_appendCarry 38 = .ok (.iconst 1, 1) := by decide +kernel
theorem dX2_appendCarry_39 : decode cX2_appendCarry 39 = .ok (.iadd, 1) := by decide +kernel
theorem dX2_appendCarry_40 : decode cX2_appendCarry 40 = .ok (.putfield 21, 3) := by decide +kernel
theorem dX2_appendCarry_43 : decode cX2_appendCarry 43 = .ok (.iconst 1, 1) := by decide +kernel
theorem dX2_appendCarry_44 : decode cX2_appendCarry 44 = .ok (.ireturn, 1) := by decide +kernel
theorem dX2_divideTwiceBy_0 : decode cX2_divideTwiceBy 0 = .ok (.lconst 0, 1) := by decide +kernel
theorem dX2_divideTwiceBy_1 : decode cX2_divideTwiceBy 1 = .ok (.lstore_n 3, 1) := by decide +kernel
theorem dX2_divideTwiceBy_2 : decode cX2_divideTwiceBy 2 = .ok (.lconst 0, 1) := by decide +kernel
theorem dX2_divideTwiceBy_3 : decode cX2_divideTwiceBy 3 = .ok (.lstore 5, 2) := by decide +kernel
theorem dX2_divideTwiceBy_5 : decode cX2_divideTwiceBy 5 = .ok (.aload_n 0, 1) := by decide +kernel
theorem dX2_divideTwiceBy_6 : decode cX2_divideTwiceBy 6 = .ok (.getfield 21, 3) := by decide +kernel
theorem dX2_divideTwiceBy_9 : decode cX2_divideTwiceBy 9 = .ok (.iconst 1, 1) := by decide +kernel
theorem dX2_divideTwiceBy_10 : decode cX2_divideTwiceBy 10 = .ok (.isub, 1) := by decide +kernel
theorem dX2_divideTwiceBy_11 : decode cX2_divideTwiceBy 11 = .ok (.istore 7, 2) := by decide +kernel
theorem dX2_divideTwiceBy_13 : decode cX2_divideTwiceBy 13 = .ok (.iload 7, 2) := by decide +kernel
theorem dX2_divideTwiceBy_15 : decode cX2_divideTwiceBy 15 = .ok (.ifCond .lt 77, 3) := by decide +kernel
theorem dX2_divideTwiceBy_18 : decode cX2_divideTwiceBy 18 = .ok (.lload_n 3, 1) := by decide +kernel
theorem dX2_divideTwiceBy_19 : decode cX2_divideTwiceBy 19 = .ok (.bipush 32, 2) := by decide +kernel
theorem dX2_divideTwiceBy_21 : decode cX2_divideTwiceBy 21 = .ok (.lshl, 1) := by decide +kernel
theorem dX2_divideTwiceBy_22 : decode cX2_divideTwiceBy 22 = .ok (.aload_n 0, 1) := by decide +kernel
theorem dX2_divideTwiceBy_23 : decode cX2_divideTwiceBy 23 = .ok (.getfield 15, 3) := by decide +kernel
theorem dX2_divideTwiceBy_26 : decode cX2_divideTwiceBy 26 = .ok (.iload 7, 2) := by decide +kernel
theorem dX2_divideTwiceBy_28 : decode cX2_divideTwiceBy 28 = .ok (.iaload, 1) := by decide +kernel
theorem dX2_divideTwiceBy_29 : decode cX2_divideTwiceBy 29 = .ok (.i2l, 1) := by decide +kernel
theorem dX2_divideTwiceBy_30 : decode cX2_divideTwiceBy 30 = .ok (.ldc2_w 34, 3) := by decide +kernel
theorem dX2_divideTwiceBy_33 : decode cX2_divideTwiceBy 33 = .ok (.land, 1) := by decide +kernel
theorem dX2_divideTwiceBy_34 : decode cX2_divideTwiceBy 34 = .ok (.lor, 1) := by decide +kernel
theorem dX2_divideTwiceBy_35 : decode cX2_divideTwiceBy 35 = .ok (.lstore 8, 2) := by decide +kernel
theorem dX2_divideTwiceBy_37 : decode cX2_divideTwiceBy 37 = .ok (.lload 8, 2) := by decide +kernel
theorem dX2_divideTwiceBy_39 : decode cX2_divideTwiceBy 39 = .ok (.lload_n 1, 1) := by decide +kernel
theorem dX2_divideTwiceBy_40 : decode cX2_divideTwiceBy 40 = .ok (.ldiv, 1) := by decide +kernel
theorem dX2_divideTwiceBy_41 : decode cX2_divideTwiceBy 41 = .ok (.lstore 10, 2) := by decide +kernel
theorem dX2_divideTwiceBy_43 : decode cX2_divideTwiceBy 43 = .ok (.lload 8, 2) := by decide +kernel
theorem dX2_divideTwiceBy_45 : decode cX2_divideTwiceBy 45 = .ok (.lload 10, 2) := by decide +kernel
theorem dX2_divideTwiceBy_47 : decode cX2_divideTwiceBy 47 = .ok (.lload_n 1, 1) := by decide +kernel
theorem dX2_divideTwiceBy_48 : decode cX2_divideTwiceBy 48 = .ok (.lmul, 1) := by decide +kernel
theorem dX2_divideTwiceBy_49 : decode cX2_divideTwiceBy 49 = .ok (.lsub, 1) := by decide +kernel
theorem dX2_divideTwiceBy_50 : decode cX2_divideTwiceBy 50 = .ok (.lstore_n 3, 1) := by decide +kernel
theorem dX2_divideTwiceBy_51 : decode cX2_divideTwiceBy 51 = .ok (.lload 5, 2) := by decide +kernel
theorem dX2_divideTwiceBy_53 : decode cX2_divideTwiceBy 53 = .ok (.bipush 32, 2) := by decide +kernel
theorem dX2_divideTwiceBy_55 : decode cX2_divideTwiceBy 55 = .ok (.lshl, 1) := by decide +kernel
theorem dX2_divideTwiceBy_56 : decode cX2_divideTwiceBy 56 = .ok (.lload 10, 2) := by decide +kernel
theorem dX2_divideTwiceBy_58 : decode cX2_divideTwiceBy 58 = .ok (.lor, 1) := by decide +kernel
theorem dX2_divideTwiceBy_59 : decode cX2_divideTwiceBy 59 = .ok (.lstore 8, 2) := by decide +kernel
theorem dX2_divideTwiceBy_61 : decode cX2_divideTwiceBy 61 = .ok (.lload 8, 2) := by decide +kernel
theorem dX2_divideTwiceBy_63 : decode cX2_divideTwiceBy 63 = .ok (.lload_n 1, 1) := by decide +kernel
theorem dX2_divideTwiceBy_64 : decode cX2_divideTwiceBy 64 = .ok (.ldiv, 1) := by decide +kernel
theorem dX2_divideTwiceBy_65 : decode cX2_divideTwiceBy 65 = .ok (.lstore 10, 2) := by decide +kernel
theorem dX2_divideTwiceBy_67 : decode cX2_divideTwiceBy 67 = .ok (.lload 8, 2) := by decide +kernel
theorem dX2_divideTwiceBy_69 : decode cX2_divideTwiceBy 69 = .ok (.lload 10, 2) := by decide +kernel
theorem dX2_divideTwiceBy_71 : decode cX2_divideTwiceBy 71 = .ok (.lload_n 1, 1) := by decide +kernel
theorem dX2_divideTwiceBy_72 : decode cX2_divideTwiceBy 72 = .ok (.lmul, 1) := by decide +kernel
theorem dX2_divideTwiceBy_73 : decode cX2_divideTwiceBy 73 = .ok (.lsub, 1) := by decide +kernel
theorem dX2_divideTwiceBy_74 : decode cX2_divideTwiceBy 74 = .ok (.lstore 5, 2) := by decide +kernel
theorem dX2_divideTwiceBy_76 : decode cX2_divideTwiceBy 76 = .ok (.aload_n 0, 1) := by decide +kernel
theorem dX2_divideTwiceBy_77 : decode cX2_divideTwiceBy 77 = .ok (.getfield 15, 3) := by decide +kernel
theorem dX2_divideTwiceBy_80 : decode cX2_divideTwiceBy 80 = .ok (.iload 7, 2) := by decide +kernel
theorem dX2_divideTwiceBy_82 : decode cX2_divideTwiceBy 82 = .ok (.lload 10, 2) := by decide +kernel
theorem dX2_divideTwiceBy_84 : decode cX2_divideTwiceBy 84 = .ok (.l2i, 1) := by decide +kernel
theorem dX2_divideTwiceBy_85 : decode cX2_divideTwiceBy 85 = .ok (.iastore, 1) := by decide +kernel
theorem dX2_divideTwiceBy_86 : decode cX2_divideTwiceBy 86 = .ok (.iinc 7 (-1), 3) := by decide +kernel
theorem dX2_divideTwiceBy_89 : decode cX2_divideTwiceBy 89 = .ok (.goto (-76), 3) := by decide +kernel
theorem dX2_divideTwiceBy_92 : decode cX2_divideTwiceBy 92 = .ok (.aload_n 0, 1) := by decide +kernel
theorem dX2_divideTwiceBy_93 : decode cX2_divideTwiceBy 93 = .ok (.invokevirtual 68, 3) := by decide +kernel
theorem dX2_divideTwiceBy_96 : decode cX2_divideTwiceBy 96 = .ok (.lload 5, 2) := by decide +kernel
theorem dX2_divideTwiceBy_98 : decode cX2_divideTwiceBy 98 = .ok (.lload_n 1, 1) := by decide +kernel
theorem dX2_divideTwiceBy_99 : decode cX2_divideTwiceBy 99 = .ok (.lmul, 1) := by decide +kernel
theorem dX2_divideTwiceBy_100 : decode cX2_divideTwiceBy 100 = .ok (.lload_n 3, 1) := by decide +kernel
theorem dX2_divideTwiceBy_101 : decode cX2_divideTwiceBy 101 = .ok (.ladd, 1) := by decide +kernel
theorem dX2_divideTwiceBy_102 : decode cX2_divideTwiceBy 102 = .ok (.lreturn, 1) := by decide +kernel
theorem dX2_dropZeros_0 : decode cX2_dropZeros 0 = .ok (.aload_n 0, 1) := by decide +kernel
theorem dX2_dropZeros_1 : decode cX2_dropZeros 1 = .ok (.getfield 21, 3) := by decide +kernel
theorem dX2_dropZeros_4 : decode cX2_dropZeros 4 = .ok (.ifCond .le 30, 3) := by decide +kernel
theorem dX2_dropZeros_7 : decode cX2_dropZeros 7 = .ok (.aload_n 0, 1) := by decide +kernel
theorem dX2_dropZeros_8 : decode cX2_dropZeros 8 = .ok (.getfield 15, 3) := by decide +kernel
theorem dX2_dropZeros_11 : decode cX2_dropZeros 11 = .ok (.aload_n 0, 1) := by decide +kernel
theorem dX2_dropZeros_12 : decode cX2_dropZeros 12 = .ok (.getfield 21, 3) := by decide +kernel
theorem dX2_dropZeros_15 : decode cX2_dropZeros 15 = .ok (.iconst 1, 1) := by decide +kernel
theorem dX2_dropZeros_16 : decode cX2_dropZeros 16 = .ok (.isub, 1) := by decide +kernel
theorem dX2_dropZeros_17 : decode cX2_dropZeros 17 = .ok (.iaload, 1) := by decide +kernel
theorem dX2_dropZeros_18 : decode cX2_dropZeros 18 = .ok (.ifCond .ne 16, 3) := by decide +kernel
theorem dX2_dropZeros_21 : decode cX2_dropZeros 21 = .ok (.aload_n 0, 1) := by decide +kernel
theorem dX2_dropZeros_22 : decode cX2_dropZeros 22 = .ok (.dup, 1) := by decide +kernel
theorem dX2_dropZeros_23 : decode cX2_dropZeros 23 = .ok (.getfield 21, 3) := by decide +kernel
theorem dX2_dropZeros_26 : decode cX2_dropZeros 26 = .ok (.iconst 1, 1) := by decide +kernel
theorem dX2_dropZeros_27 : decode cX2_dropZeros 27 = .ok (.isub, 1) := by decide +kernel
theorem dX2_dropZeros_28 : decode cX2_dropZeros 28 = .ok (.putfield 21, 3) := by decide +kernel
theorem dX2_dropZeros_31 : decode cX2_dropZeros 31 = .ok (.goto (-31), 3) := by decide +kernel
theorem dX2_dropZeros_34 : decode cX2_dropZeros 34 = .ok (.return_, 1) := by decide +kernel
theorem dX2_appendLong_0 : decode cX2_appendLong 0 = .ok (.aload_n 0, 1) := by decide +kernel
theorem dX2_appendLong_1 : decode cX2_appendLong 1 = .ok (.getfield 21, 3) := by decide +kernel
theorem dX2_appendLong_4 : decode cX2_appendLong 4 = .ok (.aload_n 0, 1) := by decide +kernel
theorem dX2_appendLong_5 : decode cX2_appendLong 5 = .ok (.getfield 15, 3) := by decide +kernel
theorem dX2_appendLong_8 : decode cX2_appendLong 8 = .ok (.arraylength, 1) := by decide +kernel
theorem dX2_appendLong_9 : decode cX2_appendLong 9 = .ok (.iconst 2, 1) := by decide +kernel
theorem dX2_appendLong_10 : decode cX2_appendLong 10 = .ok (.isub, 1) := by decide +kernel
theorem dX2_appendLong_11 : decode cX2_appendLong 11 = .ok (.if_icmp .le 5, 3) := by decide +kernel
theorem dX2_appendLong_14 : decode cX2_appendLong 14 = .ok (.iconst 0, 1) := by decide +kernel
theorem dX2_appendLong_15 : decode cX2_appendLong 15 = .ok (.ireturn, 1) := by decide +kernel
theorem dX2_appendLong_16 : decode cX2_appendLong 16 = .ok (.aload_n 0, 1) := by decide +kernel
theorem dX2_appendLong_17 : decode cX2_appendLong 17 = .ok (.getfield 15, 3) := by decide +kernel
theorem dX2_appendLong_20 : decode cX2_appendLong 20 = .ok (.iconst 0, 1) := by decide +kernel
theorem dX2_appendLong_21 : decode cX2_appendLong 21 = .ok (.aload_n 0, 1) := by decide +kernel
theorem dX2_appendLong_22 : decode cX2_appendLong 22 = .ok (.getfield 15, 3) := by decide +kernel
theorem dX2_appendLong_25 : decode cX2_appendLong 25 = .ok (.iconst 2, 1) := by decide +kernel
theorem dX2_appendLong_26 : decode cX2_appendLong 26 = .ok (.aload_n 0, 1) := by decide +kernel
theorem dX2_appendLong_27 : decode cX2_appendLong 27 = .ok (.getfield 21, 3) := by decide +kernel
theorem dX2_appendLong_30 : decode cX2_appendLong 30 = .ok (.invokestatic 43, 3) := by decide +kernel
theorem dX2_appendLong_33 : decode cX2_appendLong 33 = .ok (.aload_n 0, 1) := by decide +kernel
theorem dX2_appendLong_34 : decode cX2_appendLong 34 = .ok (.getfield 15, 3) := by decide +kernel
theorem dX2_appendLong_37 : decode cX2_appendLong 37 = .ok (.iconst 0, 1) := by decide +kernel
theorem dX2_appendLong_38 : decode cX2_appendLong 38 = .ok (.lload_n 1, 1) := by decide +kernel
theorem dX2_appendLong_39 : decode cX2_appendLong 39 = .ok (.l2i, 1) := by decide +kernel
theorem dX2_appendLong_40 : decode cX2_appendLong 40 = .ok (.iastore, 1) := by decide +kernel
theorem dX2_appendLong_41 : decode cX2_appendLong 41 = .ok (.aload_n 0, 1) := by decide +kernel
theorem dX2_appendLong_42 : decode cX2_appendLong 42 = .ok (.getfield 15, 3) := by decide +kernel
theorem dX2_appendLong_45 : decode cX2_appendLong 45 = .ok (.iconst 1, 1) := by decide +kernel
theorem dX2_appendLong_46 : decode cX2_appendLong 46 = .ok (.lload_n 1, 1) := by decide +kernel
theorem dX2_appendLong_47 : decode cX2_appendLong 47 = .ok (.bipush 32, 2) := by decide +kernel
theorem dX2_appendLong_49 : decode cX2_appendLong 49 = .ok (.lushr, 1) := by decide +kernel
theorem dX2_appendLong_50 : decode cX2_appendLong 50 = .ok (.l2i, 1) := by decide +kernel
theorem dX2_appendLong_51 : decode cX2_appendLong 51 = .ok (.iastore, 1) := by decide +kernel
theorem dX2_appendLong_52 : decode cX2_appendLong 52 = .ok (.aload_n 0, 1) := by decide +kernel
theorem dX2_appendLong_53 : decode cX2_appendLong 53 = .ok (.dup, 1) := by decide +kernel
theorem dX2_appendLong_54 : decode cX2_appendLong 54 = .ok (.getfield 21, 3) := by decide +kernel
theorem dX2_appendLong_57 : decode cX2_appendLong 57 = .ok (.iconst 2, 1) := by decide +kernel
theorem dX2_appendLong_58 : decode cX2_appendLong 58 = .ok (.iadd, 1) := by decide +kernel
theorem dX2_appendLong_59 : decode cX2_appendLong 59 = .ok (.putfield 21, 3) := by decide +kernel
theorem dX2_appendLong_62 : decode cX2_appendLong 62 = .ok (.aload_n 0, 1) := by decide +kernel
theorem dX2_appendLong_63 : decode cX2_appendLong 63 = .ok (.invokevirtual 68, 3) := by decide +kernel
theorem dX2_appendLong_66 : decode cX2_appendLong 66 = .ok (.iconst 1, 1) := by decide +kernel
theorem dX2_appendLong_67 : decode cX2_appendLong 67 = .ok (.ireturn, 1) := by decide +kernel
theorem dX2_increase_0 : decode cX2_increase 0 = .ok (.aload_n 0, 1) := by decide +kernel
theorem dX2_increase_1 : decode cX2_increase 1 = .ok (.lload_n 1, 1) := by decide +kernel
theorem dX2_increase_2 : decode cX2_increase 2 = .ok (.invokevirtual 71, 3) := by decide +kernel
theorem dX2_increase_5 : decode cX2_increase 5 = .ok (.ifCond .ne 5, 3) := by decide +kernel
theorem dX2_increase_8 : decode cX2_increase 8 = .ok (.iconst 0, 1) := by decide +kernel
theorem dX2_increase_9 : decode cX2_increase 9 = .ok (.ireturn, 1) := by decide +kernel
theorem dX2_increase_10 : decode cX2_increase 10 = .ok (.lload_n 1, 1) := by decide +kernel
theorem dX2_increase_11 : decode cX2_increase 11 = .ok (.lstore_n 3, 1) := by decide +kernel
theorem dX2_increase_12 : decode cX2_increase 12 = .ok (.iconst 0, 1) := by decide +kernel
theorem dX2_increase_13 : decode cX2_increase 13 = .ok (.istore 5, 2) := by decide +kernel
theorem dX2_increase_15 : decode cX2_increase 15 = .ok (.iload 5, 2) := by decide +kernel
theorem dX2_increase_17 : decode cX2_increase 17 = .ok (.aload_n 0, 1) := by decide +kernel
theorem dX2_increase_18 : decode cX2_increase 18 = .ok (.getfield 21, 3) := by decide +kernel
theorem dX2_increase_21 : decode cX2_increase 21 = .ok (.if_icmp .ge 47, 3) := by decide +kernel
theorem dX2_increase_24 : decode cX2_increase 24 = .ok (.lload_n 3, 1) := by decide +kernel
theorem dX2_increase_25 : decode cX2_increase 25 = .ok (.lconst 0, 1) := by decide +kernel
theorem dX2_increase_26 : decode cX2_increase 26 = .ok (.lcmp, 1) := by decide +kernel
theorem dX2_increase_27 : decode cX2_increase 27 = .ok (.ifCond .eq 41, 3) := by decide +kernel
theorem dX2_increase_30 : decode cX2_increase 30 = .ok (.aload_n 0, 1) := by decide +kernel
theorem dX2_increase_31 : decode cX2_increase 31 = .ok (.getfield 15, 3) := by decide +kernel
theorem dX2_increase_34 : decode cX2_increase 34 = .ok (.iload 5, 2) := by decide +kernel
theorem dX2_increase_36 : decode cX2_increase 36 = .ok (.iaload, 1) := by decide +kernel
theorem dX2_increase_37 : decode cX2_increase 37 = .ok (.i2l, 1) := by decide +kernel
theorem dX2_increase_38 : decode cX2_increase 38 = .ok (.ldc2_w 34, 3) := by decide +kernel
theorem dX2_increase_41 : decode cX2_increase 41 = .ok (.land, 1) := by decide +kernel
theorem dX2_increase_42 : decode cX2_increase 42 = .ok (.lload_n 3, 1) := by decide +kernel
theorem dX2_increase_43 : decode cX2_increase 43 = .ok (.ladd, 1) := by decide +kernel
theorem dX2_increase_44 : decode cX2_increase 44 = .ok (.lstore 6, 2) := by decide +kernel
theorem dX2_increase_46 : decode cX2_increase 46 = .ok (.aload_n 0, 1) := by decide +kernel
theorem dX2_increase_47 : decode cX2_increase 47 = .ok (.getfield 15, 3) := by decide +kernel
theorem dX2_increase_50 : decode cX2_increase 50 = .ok (.iload 5, 2) := by decide +kernel
theorem dX2_increase_52 : decode cX2_increase 52 = .ok (.lload 6, 2) := by decide +kernel
theorem dX2_increase_54 : decode cX2_increase 54 = .ok (.l2i, 1) := by decide +kernel
theorem dX2_increase_55 : decode cX2_increase 55 = .ok (.iastore, 1) := by decide +kernel
theorem dX2_increase_56 : decode cX2_increase 56 = .ok (.lload 6, 2) := by decide +kernel
theorem dX2_increase_58 : decode cX2_increase 58 = .ok (.bipush 32, 2) := by decide +kernel
theorem dX2_increase_60 : decode cX2_increase 60 = .ok (.lushr, 1) := by decide +kernel
theorem dX2_increase_61 : decode cX2_increase 61 = .ok (.lstore_n 3, 1) := by decide +kernel
theorem dX2_increase_62 : decode cX2_increase 62 = .ok (.iinc 5 1, 3) := by decide +kernel
theorem dX2_increase_65 : decode cX2_increase 65 = .ok (.goto (-50), 3) := by decide +kernel
theorem dX2_increase_68 : decode cX2_increase 68 = .ok (.aload_n 0, 1) := by decide +kernel
theorem dX2_increase_69 : decode cX2_increase 69 = .ok (.lload_n 3, 1) := by decide +kernel
theorem dX2_increase_70 : decode cX2_increase 70 = .ok (.invokevirtual 65, 3) := by decide +kernel
theorem dX2_increase_73 : decode cX2_increase 73 = .ok (.ireturn, 1) := by decide +kernel
theorem dX2_hasRoomFor_0 : decode cX2_hasRoomFor 0 = .ok (.aload_n 0, 1) := by decide +kernel
theorem dX2_hasRoomFor_1 : decode cX2_hasRoomFor 1 = .ok (.getfield 21, 3) := by decide +kernel
theorem dX2_hasRoomFor_4 : decode cX2_hasRoomFor 4 = .ok (.aload_n 0, 1) := by decide +kernel
theorem dX2_hasRoomFor_5 : decode cX2_hasRoomFor 5 = .ok (.getfield 15, 3) := by decide +kernel
theorem dX2_hasRoomFor_8 : decode cX2_hasRoomFor 8 = .ok (.arraylength, 1) := by decide +kernel
theorem dX2_hasRoomFor_9 : decode cX2_hasRoomFor 9 = .ok (.if_icmp .lt 23, 3) := by decide +kernel
theorem dX2_hasRoomFor_12 : decode cX2_hasRoomFor 12 = .ok (.aload_n 0, 1) := by decide +kernel
theorem dX2_hasRoomFor_13 : decode cX2_hasRoomFor 13 = .ok (.getfield 15, 3) := by decide +kernel
theorem dX2_hasRoomFor_16 : decode cX2_hasRoomFor 16 = .ok (.iconst 0, 1) := by decide +kernel
theorem dX2_hasRoomFor_17 : decode cX2_hasRoomFor 17 = .ok (.iaload, 1) := by decide +kernel
theorem dX2_hasRoomFor_18 : decode cX2_hasRoomFor 18 = .ok (.i2l, 1) := by decide +kernel
theorem dX2_hasRoomFor_19 : decode cX2_hasRoomFor 19 = .ok (.ldc2_w 34, 3) := by decide +kernel
theorem dX2_hasRoomFor_22 : decode cX2_hasRoomFor 22 = .ok (.land, 1) := by decide +kernel
theorem dX2_hasRoomFor_23 : decode cX2_hasRoomFor 23 = .ok (.lload_n 1, 1) := by decide +kernel
theorem dX2_hasRoomFor_24 : decode cX2_hasRoomFor 24 = .ok (.ladd, 1) := by decide +kernel
theorem dX2_hasRoomFor_25 : decode cX2_hasRoomFor 25 = .ok (.ldc2_w 34, 3) := by decide +kernel
theorem dX2_hasRoomFor_28 : decode cX2_hasRoomFor 28 = .ok (.lcmp, 1) := by decide +kernel
theorem dX2_hasRoomFor_29 : decode cX2_hasRoomFor 29 = .ok (.ifCond .gt 5, 3) := by decide +kernel
theorem dX2_hasRoomFor_32 : decode cX2_hasRoomFor 32 = .ok (.iconst 1, 1) := by decide +kernel
theorem dX2_hasRoomFor_33 : decode cX2_hasRoomFor 33 = .ok (.ireturn, 1) := by decide +kernel
theorem dX2_hasRoomFor_34 : decode cX2_hasRoomFor 34 = .ok (.iconst 1, 1) := by decide +kernel
theorem dX2_hasRoomFor_35 : decode cX2_hasRoomFor 35 = .ok (.istore_n 3, 1) := by decide +kernel
theorem dX2_hasRoomFor_36 : decode cX2_hasRoomFor 36 = .ok (.iload_n 3, 1) := by decide +kernel
theorem dX2_hasRoomFor_37 : decode cX2_hasRoomFor 37 = .ok (.aload_n 0, 1) := by decide +kernel
theorem dX2_hasRoomFor_38 : decode cX2_hasRoomFor 38 = .ok (.getfield 21, 3) := by decide +kernel
theorem dX2_hasRoomFor_41 : decode cX2_hasRoomFor 41 = .ok (.if_icmp .ge 21, 3) := by decide +kernel
theorem dX2_hasRoomFor_44 : decode cX2_hasRoomFor 44 = .ok (.aload_n 0, 1) := by decide +kernel
theorem dX2_hasRoomFor_45 : decode cX2_hasRoomFor 45 = .ok (.getfield 15, 3) := by decide +kernel
theorem dX2_hasRoomFor_48 : decode cX2_hasRoomFor 48 = .ok (.iload_n 3, 1) := by decide +kernel
theorem dX2_hasRoomFor_49 : decode cX2_hasRoomFor 49 = .ok (.iaload, 1) := by decide +kernel
theorem dX2_hasRoomFor_50 : decode cX2_hasRoomFor 50 = .ok (.iconst (-1), 1) := by decide +kernel
theorem dX2_hasRoomFor_51 : decode cX2_hasRoomFor 51 = .ok (.if_icmp .eq 5, 3) := by decide +kernel
theorem dX2_hasRoomFor_54 : decode cX2_hasRoomFor 54 = .ok (.iconst 1, 1) := by decide +kernel
theorem dX2_hasRoomFor_55 : decode cX2_hasRoomFor 55 = .ok (.ireturn, 1) := by decide +kernel
theorem dX2_hasRoomFor_56 : decode cX2_hasRoomFor 56 = .ok (.iinc 3 1, 3) := by decide +kernel
theorem dX2_hasRoomFor_59 : decode cX2_hasRoomFor 59 = .ok (.goto (-23), 3) := by decide +kernel
theorem dX2_hasRoomFor_62 : decode cX2_hasRoomFor 62 = .ok (.iconst 0, 1) := by decide +kernel
theorem dX2_hasRoomFor_63 : decode cX2_hasRoomFor 63 = .ok (.ireturn, 1) := by decide +kernel
theorem dX2_decrease_0 : decode cX2_decrease 0 = .ok (.aload_n 0, 1) := by decide +kernel
theorem dX2_decrease_1 : decode cX2_decrease 1 = .ok (.getfield 21, 3) := by decide +kernel
theorem dX2_decrease_4 : decode cX2_decrease 4 = .ok (.iconst 2, 1) := by decide +kernel
theorem dX2_decrease_5 : decode cX2_decrease 5 = .ok (.if_icmp .ge 20, 3) := by decide +kernel
theorem dX2_decrease_8 : decode cX2_decrease 8 = .ok (.aload_n 0, 1) := by decide +kernel
theorem dX2_decrease_9 : decode cX2_decrease 9 = .ok (.iconst 0, 1) := by decide +kernel
theorem dX2_decrease_10 : decode cX2_decrease 10 = .ok (.invokevirtual 31, 3) := by decide +kernel
theorem dX2_decrease_13 : decode cX2_decrease 13 = .ok (.i2l, 1) := by decide +kernel
theorem dX2_decrease_14 : decode cX2_decrease 14 = .ok (.ldc2_w 34, 3) := by decide +kernel
theorem dX2_decrease_17 : decode cX2_decrease 17 = .ok (.land, 1) := by decide +kernel
theorem dX2_decrease_18 : decode cX2_decrease 18 = .ok (.lload_n 1, 1) := by decide +kernel
theorem dX2_decrease_19 : decode cX2_decrease 19 = .ok (.lcmp, 1) := by decide +kernel
theorem dX2_decrease_20 : decode cX2_decrease 20 = .ok (.ifCond .ge 5, 3) := by decide +kernel
theorem dX2_decrease_23 : decode cX2_decrease 23 = .ok (.iconst 0, 1) := by decide +kernel
theorem dX2_decrease_24 : decode cX2_decrease 24 = .ok (.ireturn, 1) := by decide +kernel
theorem dX2_decrease_25 : decode cX2_decrease 25 = .ok (.lload_n 1, 1) := by decide +kernel
theorem dX2_decrease_26 : decode cX2_decrease 26 = .ok (.lstore_n 3, 1) := by decide +kernel
theorem dX2_decrease_27 : decode cX2_decrease 27 = .ok (.iconst 0, 1) := by decide +kernel
theorem dX2_decrease_28 : decode cX2_decrease 28 = .ok (.istore 5, 2) := by decide +kernel
theorem dX2_decrease_30 : decode cX2_decrease 30 = .ok (.iload 5, 2) := by decide +kernel
theorem dX2_decrease_32 : decode cX2_decrease 32 = .ok (.aload_n 0, 1) := by decide +kernel
theorem dX2_decrease_33 : decode cX2_decrease 33 = .ok (.getfield 21, 3) := by decide +kernel
theorem dX2_decrease_36 : decode cX2_decrease 36 = .ok (.if_icmp .ge 54, 3) := by decide +kernel
theorem dX2_decrease_39 : decode cX2_decrease 39 = .ok (.lload_n 3, 1) := by decide +kernel
theorem dX2_decrease_40 : decode cX2_decrease 40 = .ok (.lconst 0, 1) := by decide +kernel
theorem dX2_decrease_41 : decode cX2_decrease 41 = .ok (.lcmp, 1) := by decide +kernel
theorem dX2_decrease_42 : decode cX2_decrease 42 = .ok (.ifCond .eq 48, 3) := by decide +kernel
theorem dX2_decrease_45 : decode cX2_decrease 45 = .ok (.aload_n 0, 1) := by decide +kernel
theorem dX2_decrease_46 : decode cX2_decrease 46 = .ok (.getfield 15, 3) := by decide +kernel
theorem dX2_decrease_49 : decode cX2_decrease 49 = .ok (.iload 5, 2) := by decide +kernel
theorem dX2_decrease_51 : decode cX2_decrease 51 = .ok (.iaload, 1) := by decide +kernel
theorem dX2_decrease_52 : decode cX2_decrease 52 = .ok (.i2l, 1) := by decide +kernel
theorem dX2_decrease_53 : decode cX2_decrease 53 = .ok (.ldc2_w 34, 3) := by decide +kernel
theorem dX2_decrease_56 : decode cX2_decrease 56 = .ok (.land, 1) := by decide +kernel
theorem dX2_decrease_57 : decode cX2_decrease 57 = .ok (.lload_n 3, 1) := by decide +kernel
theorem dX2_decrease_58 : decode cX2_decrease 58 = .ok (.lsub, 1) := by decide +kernel
theorem dX2_decrease_59 : decode cX2_decrease 59 = .ok (.lstore 6, 2) := by decide +kernel
theorem dX2_decrease_61 : decode cX2_decrease 61 = .ok (.aload_n 0, 1) := by decide +kernel
theorem dX2_decrease_62 : decode cX2_decrease 62 = .ok (.getfield 15, 3) := by decide +kernel
theorem dX2_decrease_65 : decode cX2_decrease 65 = .ok (.iload 5, 2) := by decide +kernel
theorem dX2_decrease_67 : decode cX2_decrease 67 = .ok (.lload 6, 2) := by decide +kernel
theorem dX2_decrease_69 : decode cX2_decrease 69 = .ok (.l2i, 1) := by decide +kernel
theorem dX2_decrease_70 : decode cX2_decrease 70 = .ok (.iastore, 1) := by decide +kernel
theorem dX2_decrease_71 : decode cX2_decrease 71 = .ok (.lload 6, 2) := by decide +kernel
theorem dX2_decrease_73 : decode cX2_decrease 73 = .ok (.lconst 0, 1) := by decide +kernel
theorem dX2_decrease_74 : decode cX2_decrease 74 = .ok (.lcmp, 1) := by decide +kernel
theorem dX2_decrease_75 : decode cX2_decrease 75 = .ok (.ifCond .ge 7, 3) := by decide +kernel
theorem dX2_decrease_78 : decode cX2_decrease 78 = .ok (.lconst 1, 1) := by decide +kernel
theorem dX2_decrease_79 : decode cX2_decrease 79 = .ok (.goto 4, 3) := by decide +kernel
theorem dX2_decrease_82 : decode cX2_decrease 82 = .ok (.lconst 0, 1) := by decide +kernel
theorem dX2_decrease_83 : decode cX2_decrease 83 = .ok (.lstore_n 3, 1) := by decide +kernel
theorem dX2_decrease_84 : decode cX2_decrease 84 = .ok (.iinc 5 1, 3) := by decide +kernel
theorem dX2_decrease_87 : decode cX2_decrease 87 = .ok (.goto (-57), 3) := by decide +kernel
theorem dX2_decrease_90 : decode cX2_decrease 90 = .ok (.aload_n 0, 1) := by decide +kernel
theorem dX2_decrease_91 : decode cX2_decrease 91 = .ok (.invokevirtual 68, 3) := by decide +kernel
theorem dX2_decrease_94 : decode cX2_decrease 94 = .ok (.iconst 1, 1) := by decide +kernel
theorem dX2_decrease_95 : decode cX2_decrease 95 = .ok (.ireturn, 1) := by decide +kernel
theorem dX2_becomeSquareOf_0 : decode cX2_becomeSquareOf 0 = .ok (.aload_n 1, 1) := by decide +kernel
theorem dX2_becomeSquareOf_1 : decode cX2_becomeSquareOf 1 = .ok (.getfield 21, 3) := by decide +kernel
theorem dX2_becomeSquareOf_4 : decode cX2_becomeSquareOf 4 = .ok (.istore_n 2, 1) := by decide +kernel
theorem dX2_becomeSquareOf_5 : decode cX2_becomeSquareOf 5 = .ok (.iload_n 2, 1) := by decide +kernel
theorem dX2_becomeSquareOf_6 : decode cX2_becomeSquareOf 6 = .ok (.aload_n 0, 1) := by decide +kernel
theorem dX2_becomeSquareOf_7 : decode cX2_becomeSquareOf 7 = .ok (.getfield 15, 3) := by decide +kernel
theorem dX2_becomeSquareOf_10 : decode cX2_becomeSquareOf 10 = .ok (.arraylength, 1) := by decide +kernel
theorem dX2_becomeSquareOf_11 : decode cX2_becomeSquareOf 11 = .ok (.iconst 2, 1) := by decide +kernel
theorem dX2_becomeSquareOf_12 : decode cX2_becomeSquareOf 12 = .ok (.idiv, 1) := by decide +kernel
theorem dX2_becomeSquareOf_13 : decode cX2_becomeSquareOf 13 = .ok (.if_icmp .le 5, 3) := by decide +kernel
theorem dX2_becomeSquareOf_16 : decode cX2_becomeSquareOf 16 = .ok (.iconst 0, 1) := by decide +kernel
theorem dX2_becomeSquareOf_17 : decode cX2_becomeSquareOf 17 = .ok (.ireturn, 1) := by decide +kernel
theorem dX2_becomeSquareOf_18 : decode cX2_becomeSquareOf 18 = .ok (.iconst 0, 1) := by decide +kernel
theorem dX2_becomeSquareOf_19 : decode cX2_becomeSquareOf 19 = .ok (.istore_n 3, 1) := by decide +kernel
theorem dX2_becomeSquareOf_20 : decode cX2_becomeSquareOf 20 = .ok (.iload_n 3, 1) := by decide +kernel
theorem dX2_becomeSquareOf_21 : decode cX2_becomeSquareOf 21 = .ok (.iconst 2, 1) := by decide +kernel
theorem dX2_becomeSquareOf_22 : decode cX2_becomeSquareOf 22 = .ok (.iload_n 2, 1) := by decide +kernel
theorem dX2_becomeSquareOf_23 : decode cX2_becomeSquareOf 23 = .ok (.imul, 1) := by decide +kernel
theorem dX2_becomeSquareOf_24 : decode cX2_becomeSquareOf 24 = .ok (.if_icmp .ge 16, 3) := by decide +kernel
theorem dX2_becomeSquareOf_27 : decode cX2_becomeSquareOf 27 = .ok (.aload_n 0, 1) := by decide +kernel
theorem dX2_becomeSquareOf_28 : decode cX2_becomeSquareOf 28 = .ok (.getfield 15, 3) := by decide +kernel
theorem dX2_becomeSquareOf_31 : decode cX2_becomeSquareOf 31 = .ok (.iload_n 3, 1) := by decide +kernel
theorem dX2_becomeSquareOf_32 : decode cX2_becomeSquareOf 32 = .ok (.iconst 0, 1) := by decide +kernel
theorem dX2_becomeSquareOf_33 : decode cX2_becomeSquareOf 33 = .ok (.iastore, 1) := by decide +kernel
theorem dX2_becomeSquareOf_34 : decode cX2_becomeSquareOf 34 = .ok (.iinc 3 1, 3) := by decide +kernel
theorem dX2_becomeSquareOf_37 : decode cX2_becomeSquareOf 37 = .ok (.goto (-17), 3) := by decide +kernel
theorem dX2_becomeSquareOf_40 : decode cX2_becomeSquareOf 40 = .ok (.iconst 0, 1) := by decide +kernel
theorem dX2_becomeSquareOf_41 : decode cX2_becomeSquareOf 41 = .ok (.istore_n 3, 1) := by decide +kernel
theorem dX2_becomeSquareOf_42 : decode cX2_becomeSquareOf 42 = .ok (.iload_n 3, 1) := by decide +kernel
theorem dX2_becomeSquareOf_43 : decode cX2_becomeSquareOf 43 = .ok (.iload_n 2, 1) := by decide +kernel
theorem dX2_becomeSquareOf_44 : decode cX2_becomeSquareOf 44 = .ok (.if_icmp .ge 19, 3) := by decide +kernel
theorem dX2_becomeSquareOf_47 : decode cX2_becomeSquareOf 47 = .ok (.aload_n 0, 1) := by decide +kernel
theorem dX2_becomeSquareOf_48 : decode cX2_becomeSquareOf 48 = .ok (.iload_n 3, 1) := by decide +kernel
theorem dX2_becomeSquareOf_49 : decode cX2_becomeSquareOf 49 = .ok (.aload_n 1, 1) := by decide +kernel
theorem dX2_becomeSquareOf_50 : decode cX2_becomeSquareOf 50 = .ok (.getfield 15, 3) := by decide +kernel
theorem dX2_becomeSquareOf_53 : decode cX2_becomeSquareOf 53 = .ok (.iload_n 2, 1) := by decide +kernel
theorem dX2_becomeSquareOf_54 : decode cX2_becomeSquareOf 54 = .ok (.invokevirtual 74, 3) := by decide +kernel
theorem dX2_becomeSquareOf_57 : decode cX2_becomeSquareOf 57 = .ok (.iinc 3 1, 3) := by decide +kernel
theorem dX2_becomeSquareOf_60 : decode cX2_becomeSquareOf 60 = .ok (.goto (-18), 3) := by decide +kernel
theorem dX2_becomeSquareOf_63 : decode cX2_becomeSquareOf 63 = .ok (.aload_n 0, 1) := by decide +kernel
theorem dX2_becomeSquareOf_64 : decode cX2_becomeSquareOf 64 = .ok (.aload_n 1, 1) := by decide +kernel
theorem dX2_becomeSquareOf_65 : decode cX2_becomeSquareOf 65 = .ok (.getfield 15, 3) := by decide +kernel
theorem dX2_becomeSquareOf_68 : decode cX2_becomeSquareOf 68 = .ok (.iload_n 2, 1) := by decide +kernel
theorem dX2_becomeSquareOf_69 : decode cX2_becomeSquareOf 69 = .ok (.invokevirtual 78, 3) := by decide +kernel
theorem dX2_becomeSquareOf_72 : decode cX2_becomeSquareOf 72 = .ok (.aload_n 0, 1) := by decide +kernel
theorem dX2_becomeSquareOf_73 : decode cX2_becomeSquareOf 73 = .ok (.iconst 2, 1) := by decide +kernel
theorem dX2_becomeSquareOf_74 : decode cX2_becomeSquareOf 74 = .ok (.iload_n 2, 1) := by decide +kernel
theorem dX2_becomeSquareOf_75 : decode cX2_becomeSquareOf 75 = .ok (.imul, 1) := by decide +kernel
theorem dX2_becomeSquareOf_76 : decode cX2_becomeSquareOf 76 = .ok (.putfield 21, 3) := by decide +kernel
theorem dX2_becomeSquareOf_79 : decode cX2_becomeSquareOf 79 = .ok (.aload_n 0, 1) := by decide +kernel
theorem dX2_becomeSquareOf_80 : decode cX2_becomeSquareOf 80 = .ok (.invokevirtual 68, 3) := by decide +kernel
theorem dX2_becomeSquareOf_83 : decode cX2_becomeSquareOf 83 = .ok (.iconst 1, 1) := by decide +kernel
theorem dX2_becomeSquareOf_84 : decode cX2_becomeSquareOf 84 = .ok (.ireturn, 1) := by decide +kernel
theorem dX2_addProductsAbove_0 : decode cX2_addProductsAbove 0 = .ok (.aload_n 2, 1) := by decide +kernel
theorem dX2_addProductsAbove_1 : decode cX2_addProductsAbove 1 = .ok (.iload_n 1, 1) := by decide +kernel
theorem dX2_addProductsAbove_2 : decode cX2_addProductsAbove 2 = .ok (.iaload, 1) := by decide +kernel
theorem dX2_addProductsAbove_3 : decode cX2_addProductsAbove 3 = .ok (.i2l, 1) := by decide +kernel
theorem dX2_addProductsAbove_4 : decode cX2_addProductsAbove 4 = .ok (.ldc2_w 34, 3) := by decide +kernel
theorem dX2_addProductsAbove_7 : decode cX2_addProductsAbove 7 = .ok (.land, 1) := by decide +kernel
theorem dX2_addProductsAbove_8 : decode cX2_addProductsAbove 8 = .ok (.lstore 4, 2) := by decide +kernel
theorem dX2_addProductsAbove_10 : decode cX2_addProductsAbove 10 = .ok (.lload 4, 2) := by decide +kernel
theorem dX2_addProductsAbove_12 : decode cX2_addProductsAbove 12 = .ok (.lconst 0, 1) := by decide +kernel
theorem dX2_addProductsAbove_13 : decode cX2_addProductsAbove 13 = .ok (.lcmp, 1) := by decide +kernel
theorem dX2_addProductsAbove_14 : decode cX2_addProductsAbove 14 = .ok (.ifCond .ne 4, 3) := by decide +kernel
theorem dX2_addProductsAbove_17 : decode cX2_addProductsAbove 17 = .ok (.return_, 1) := by decide +kernel
theorem dX2_addProductsAbove_18 : decode cX2_addProductsAbove 18 = .ok (.lconst 0, 1) := by decide +kernel
theorem dX2_addProductsAbove_19 : decode cX2_addProductsAbove 19 = .ok (.lstore 6, 2) := by decide +kernel
theorem dX2_addProductsAbove_21 : decode cX2_addProductsAbove 21 = .ok (.iload_n 1, 1) := by decide +kernel
theorem dX2_addProductsAbove_22 : decode cX2_addProductsAbove 22 = .ok (.iconst 1, 1) := by decide +kernel
theorem dX2_addProductsAbove_23 : decode cX2_addProductsAbove 23 = .ok (.iadd, 1) := by decide +kernel
theorem dX2_addProductsAbove_24 : decode cX2_addProductsAbove 24 = .ok (.istore 8, 2) := by decide +kernel
theorem dX2_addProductsAbove_26 : decode cX2_addProductsAbove 26 = .ok (.iload 8, 2) := by decide +kernel
theorem dX2_addProductsAbove_28 : decode cX2_addProductsAbove 28 = .ok (.iload_n 3, 1) := by decide +kernel
theorem dX2_addProductsAbove_29 : decode cX2_addProductsAbove 29 = .ok (.if_icmp .ge 60, 3) := by decide +kernel
theorem dX2_addProductsAbove_32 : decode cX2_addProductsAbove 32 = .ok (.lload 4, 2) := by decide +kernel
theorem dX2_addProductsAbove_34 : decode cX2_addProductsAbove 34 = .ok (.aload_n 2, 1) := by decide +kernel
theorem dX2_addProductsAbove_35 : decode cX2_addProductsAbove 35 = .ok (.iload 8, 2) := by decide +kernel
theorem dX2_addProductsAbove_37 : decode cX2_addProductsAbove 37 = .ok (.iaload, 1) := by decide +kernel
theorem dX2_addProductsAbove_38 : decode cX2_addProductsAbove 38 = .ok (.i2l, 1) := by decide +kernel
theorem dX2_addProductsAbove_39 : decode cX2_addProductsAbove 39 = .ok (.ldc2_w 34, 3) := by decide +kernel
theorem dX2_addProductsAbove_42 : decode cX2_addProductsAbove 42 = .ok (.land, 1) := by decide +kernel
theorem dX2_addProductsAbove_43 : decode cX2_addProductsAbove 43 = .ok (.lmul, 1) := by decide +kernel
theorem dX2_addProductsAbove_44 : decode cX2_addProductsAbove 44 = .ok (.aload_n 0, 1) := by decide +kernel
theorem dX2_addProductsAbove_45 : decode cX2_addProductsAbove 45 = .ok (.getfield 15, 3) := by decide +kernel
theorem dX2_addProductsAbove_48 : decode cX2_addProductsAbove 48 = .ok (.iload_n 1, 1) := by decide +kernel
theorem dX2_addProductsAbove_49 : decode cX2_addProductsAbove 49 = .ok (.iload 8, 2) := by decide +kernel
theorem dX2_addProductsAbove_51 : decode cX2_addProductsAbove 51 = .ok (.iadd, 1) := by decide +kernel
theorem dX2_addProductsAbove_52 : decode cX2_addProductsAbove 52 = .ok (.iaload, 1) := by decide +kernel
theorem dX2_addProductsAbove_53 : decode cX2_addProductsAbove 53 = .ok (.i2l, 1) := by decide +kernel
theorem dX2_addProductsAbove_54 : decode cX2_addProductsAbove 54 = .ok (.ldc2_w 34, 3) := by decide +kernel
theorem dX2_addProductsAbove_57 : decode cX2_addProductsAbove 57 = .ok (.land, 1) := by decide +kernel
theorem dX2_addProductsAbove_58 : decode cX2_addProductsAbove 58 = .ok (.ladd, 1) := by decide +kernel
theorem dX2_addProductsAbove_59 : decode cX2_addProductsAbove 59 = .ok (.lload 6, 2) := by decide +kernel
theorem dX2_addProductsAbove_61 : decode cX2_addProductsAbove 61 = .ok (.ladd, 1) := by decide +kernel
theorem dX2_addProductsAbove_62 : decode cX2_addProductsAbove 62 = .ok (.lstore 9, 2) := by decide +kernel
theorem dX2_addProductsAbove_64 : decode cX2_addProductsAbove 64 = .ok (.aload_n 0, 1) := by decide +kernel
theorem dX2_addProductsAbove_65 : decode cX2_addProductsAbove 65 = .ok (.getfield 15, 3) := by decide +kernel
theorem dX2_addProductsAbove_68 : decode cX2_addProductsAbove 68 = .ok (.iload_n 1, 1) := by decide +kernel
theorem dX2_addProductsAbove_69 : decode cX2_addProductsAbove 69 = .ok (.iload 8, 2) := by decide +kernel
theorem dX2_addProductsAbove_71 : decode cX2_addProductsAbove 71 = .ok (.iadd, 1) := by decide +kernel
theorem dX2_addProductsAbove_72 : decode cX2_addProductsAbove 72 = .ok (.lload 9, 2) := by decide +kernel
theorem dX2_addProductsAbove_74 : decode cX2_addProductsAbove 74 = .ok (.l2i, 1) := by decide +kernel
theorem dX2_addProductsAbove_75 : decode cX2_addProductsAbove 75 = .ok (.iastore, 1) := by decide +kernel
theorem dX2_addProductsAbove_76 : decode cX2_addProductsAbove 76 = .ok (.lload 9, 2) := by decide +kernel
theorem dX2_addProductsAbove_78 : decode cX2_addProductsAbove 78 = .ok (.bipush 32, 2) := by decide +kernel
theorem dX2_addProductsAbove_80 : decode cX2_addProductsAbove 80 = .ok (.lushr, 1) := by decide +kernel
theorem dX2_addProductsAbove_81 : decode cX2_addProductsAbove 81 = .ok (.lstore 6, 2) := by decide +kernel
theorem dX2_addProductsAbove_83 : decode cX2_addProductsAbove 83 = .ok (.iinc 8 1, 3) := by decide +kernel
theorem dX2_addProductsAbove_86 : decode cX2_addProductsAbove 86 = .ok (.goto (-60), 3) := by decide +kernel
theorem dX2_addProductsAbove_89 : decode cX2_addProductsAbove 89 = .ok (.aload_n 0, 1) := by decide +kernel
theorem dX2_addProductsAbove_90 : decode cX2_addProductsAbove 90 = .ok (.getfield 15, 3) := by decide +kernel
theorem dX2_addProductsAbove_93 : decode cX2_addProductsAbove 93 = .ok (.iload_n 1, 1) := by decide +kernel
theorem dX2_addProductsAbove_94 : decode cX2_addProductsAbove 94 = .ok (.iload_n 3, 1) := by decide +kernel
theorem dX2_addProductsAbove_95 : decode cX2_addProductsAbove 95 = .ok (.iadd, 1) := by decide +kernel
theorem dX2_addProductsAbove_96 : decode cX2_addProductsAbove 96 = .ok (.lload 6, 2) := by decide +kernel
theorem dX2_addProductsAbove_98 : decode cX2_addProductsAbove 98 = .ok (.l2i, 1) := by decide +kernel
theorem dX2_addProductsAbove_99 : decode cX2_addProductsAbove 99 = .ok (.iastore, 1) := by decide +kernel
theorem dX2_addProductsAbove_100 : decode cX2_addProductsAbove 100 = .ok (.return_, 1) := by decide +kernel
theorem dX2_doubleAndAddSquares_0 : decode cX2_doubleAndAddSquares 0 = .ok (.lconst 0, 1) := by decide +kernel
theorem dX2_doubleAndAddSquares_1 : decode cX2_doubleAndAddSquares 1 = .ok (.lstore_n 3, 1) := by decide +kernel
theorem dX2_doubleAndAddSquares_2 : decode cX2_doubleAndAddSquares 2 = .ok (.iconst 0, 1) := by decide +kernel
theorem dX2_doubleAndAddSquares_3 : decode cX2_doubleAndAddSquares 3 = .ok (.istore 5, 2) := by decide +kernel
theorem dX2_doubleAndAddSquares_5 : decode cX2_doubleAndAddSquares 5 = .ok (.iload 5, 2) := by decide +kernel
theorem dX2_doubleAndAddSquares_7 : decode cX2_doubleAndAddSquares 7 = .ok (.iload_n 2, 1) := by decide +kernel
theorem dX2_doubleAndAddSquares_8 : decode cX2_doubleAndAddSquares 8 = .ok (.if_icmp .ge 125, 3) := by decide +kernel
theorem dX2_doubleAndAddSquares_11 : decode cX2_doubleAndAddSquares 11 = .ok (.aload_n 1, 1) := by decide +kernel
theorem dX2_doubleAndAddSquares_12 : decode cX2_doubleAndAddSquares 12 = .ok (.iload 5, 2) := by decide +kernel
theorem dX2_doubleAndAddSquares_14 : decode cX2_doubleAndAddSquares 14 = .ok (.iaload, 1) := by decide +kernel
theorem dX2_doubleAndAddSquares_15 : decode cX2_doubleAndAddSquares 15 = .ok (.i2l, 1) := by decide +kernel
theorem dX2_doubleAndAddSquares_16 : decode cX2_doubleAndAddSquares 16 = .ok (.ldc2_w 34, 3) := by decide +kernel
theorem dX2_doubleAndAddSquares_19 : decode cX2_doubleAndAddSquares 19 = .ok (.land, 1) := by decide +kernel
theorem dX2_doubleAndAddSquares_20 : decode cX2_doubleAndAddSquares 20 = .ok (.aload_n 1, 1) := by decide +kernel
theorem dX2_doubleAndAddSquares_21 : decode cX2_doubleAndAddSquares 21 = .ok (.iload 5, 2) := by decide +kernel
theorem dX2_doubleAndAddSquares_23 : decode cX2_doubleAndAddSquares 23 = .ok (.iaload, 1) := by decide +kernel
theorem dX2_doubleAndAddSquares_24 : decode cX2_doubleAndAddSquares 24 = .ok (.i2l, 1) := by decide +kernel
theorem dX2_doubleAndAddSquares_25 : decode cX2_doubleAndAddSquares 25 = .ok (.ldc2_w 34, 3) := by decide +kernel
theorem dX2_doubleAndAddSquares_28 : decode cX2_doubleAndAddSquares 28 = .ok (.land, 1) := by decide +kernel
theorem dX2_doubleAndAddSquares_29 : decode cX2_doubleAndAddSquares 29 = .ok (.lmul, 1) := by decide +kernel
theorem dX2_doubleAndAddSquares_30 : decode cX2_doubleAndAddSquares 30 = .ok (.lstore 6, 2) := by decide +kernel
theorem dX2_doubleAndAddSquares_32 : decode cX2_doubleAndAddSquares 32 = .ok (.ldc2_w 82, 3) := by decide +kernel
theorem dX2_doubleAndAddSquares_35 : decode cX2_doubleAndAddSquares 35 = .ok (.aload_n 0, 1) := by decide +kernel
theorem dX2_doubleAndAddSquares_36 : decode cX2_doubleAndAddSquares 36 = .ok (.getfield 15, 3) := by decide +kernel
theorem dX2_doubleAndAddSquares_39 : decode cX2_doubleAndAddSquares 39 = .ok (.iconst 2, 1) := by decide +kernel
theorem dX2_doubleAndAddSquares_40 : decode cX2_doubleAndAddSquares 40 = .ok (.iload 5, 2) := by decide +kernel
theorem dX2_doubleAndAddSquares_42 : decode cX2_doubleAndAddSquares 42 = .ok (.imul, 1) := by decide +kernel
theorem dX2_doubleAndAddSquares_43 : decode cX2_doubleAndAddSquares 43 = .ok (.iaload, 1) := by decide +kernel
theorem dX2_doubleAndAddSquares_44 : decode cX2_doubleAndAddSquares 44 = .ok (.i2l, 1) := by decide +kernel
theorem dX2_doubleAndAddSquares_45 : decode cX2_doubleAndAddSquares 45 = .ok (.ldc2_w 34, 3) := by decide +kernel
theorem dX2_doubleAndAddSquares_48 : decode cX2_doubleAndAddSquares 48 = .ok (.land, 1) := by decide +kernel
theorem dX2_doubleAndAddSquares_49 : decode cX2_doubleAndAddSquares 49 = .ok (.lmul, 1) := by decide +kernel
theorem dX2_doubleAndAddSquares_50 : decode cX2_doubleAndAddSquares 50 = .ok (.lload 6, 2) := by decide +kernel
theorem dX2_doubleAndAddSquares_52 : decode cX2_doubleAndAddSquares 52 = .ok (.ldc2_w 34, 3) := by decide +kernel
theorem dX2_doubleAndAddSquares_55 : decode cX2_doubleAndAddSquares 55 = .ok (.land, 1) := by decide +kernel
theorem dX2_doubleAndAddSquares_56 : decode cX2_doubleAndAddSquares 56 = .ok (.ladd, 1) := by decide +kernel
theorem dX2_doubleAndAddSquares_57 : decode cX2_doubleAndAddSquares 57 = .ok (.lload_n 3, 1) := by decide +kernel
theorem dX2_doubleAndAddSquares_58 : decode cX2_doubleAndAddSquares 58 = .ok (.ladd, 1) := by decide +kernel
theorem dX2_doubleAndAddSquares_59 : decode cX2_doubleAndAddSquares 59 = .ok (.lstore 8, 2) := by decide +kernel
theorem dX2_doubleAndAddSquares_61 : decode cX2_doubleAndAddSquares 61 = .ok (.aload_n 0, 1) := by decide +kernel
theorem dX2_doubleAndAddSquares_62 : decode cX2_doubleAndAddSquares 62 = .ok (.getfield 15, 3) := by decide +kernel
theorem dX2_doubleAndAddSquares_65 : decode cX2_doubleAndAddSquares 65 = .ok (.iconst 2, 1) := by decide +kernel
theorem dX2_doubleAndAddSquares_66 : decode cX2_doubleAndAddSquares 66 = .ok (.iload 5, 2) := by decide +kernel
theorem dX2_doubleAndAddSquares_68 : decode cX2_doubleAndAddSquares 68 = .ok (.imul, 1) := by decide +kernel
theorem dX2_doubleAndAddSquares_69 : decode cX2_doubleAndAddSquares 69 = .ok (.lload 8, 2) := by decide +kernel
theorem dX2_doubleAndAddSquares_71 : decode cX2_doubleAndAddSquares 71 = .ok (.l2i, 1) := by decide +kernel
theorem dX2_doubleAndAddSquares_72 : decode cX2_doubleAndAddSquares 72 = .ok (.iastore, 1) := by decide +kernel
theorem dX2_doubleAndAddSquares_73 : decode cX2_doubleAndAddSquares 73 = .ok (.ldc2_w 82, 3) := by decide +kernel
theorem dX2_doubleAndAddSquares_76 : decode cX2_doubleAndAddSquares 76 = .ok (.aload_n 0, 1) := by decide +kernel
theorem dX2_doubleAndAddSquares_77 : decode cX2_doubleAndAddSquares 77 = .ok (.getfield 15, 3) := by decide +kernel
theorem dX2_doubleAndAddSquares_80 : decode cX2_doubleAndAddSquares 80 = .ok (.iconst 2, 1) := by decide +kernel
theorem dX2_doubleAndAddSquares_81 : decode cX2_doubleAndAddSquares 81 = .ok (.iload 5, 2) := by decide +kernel
theorem dX2_doubleAndAddSquares_83 : decode cX2_doubleAndAddSquares 83 = .ok (.imul, 1) := by decide +kernel
theorem dX2_doubleAndAddSquares_84 : decode cX2_doubleAndAddSquares 84 = .ok (.iconst 1, 1) := by decide +kernel
theorem dX2_doubleAndAddSquares_85 : decode cX2_doubleAndAddSquares 85 = .ok (.iadd, 1) := by decide +kernel
theorem dX2_doubleAndAddSquares_86 : decode cX2_doubleAndAddSquares 86 = .ok (.iaload, 1) := by decide +kernel
theorem dX2_doubleAndAddSquares_87 : decode cX2_doubleAndAddSquares 87 = .ok (.i2l, 1) := by decide +kernel
theorem dX2_doubleAndAddSquares_88 : decode cX2_doubleAndAddSquares 88 = .ok (.ldc2_w 34, 3) := by decide +kernel
theorem dX2_doubleAndAddSquares_91 : decode cX2_doubleAndAddSquares 91 = .ok (.land, 1) := by decide +kernel
theorem dX2_doubleAndAddSquares_92 : decode cX2_doubleAndAddSquares 92 = .ok (.lmul, 1) := by decide +kernel
theorem dX2_doubleAndAddSquares_93 : decode cX2_doubleAndAddSquares 93 = .ok (.lload 6, 2) := by decide +kernel
theorem dX2_doubleAndAddSquares_95 : decode cX2_doubleAndAddSquares 95 = .ok (.bipush 32, 2) := by decide +kernel
theorem dX2_doubleAndAddSquares_97 : decode cX2_doubleAndAddSquares 97 = .ok (.lushr, 1) := by decide +kernel
theorem dX2_doubleAndAddSquares_98 : decode cX2_doubleAndAddSquares 98 = .ok (.ladd, 1) := by decide +kernel
theorem dX2_doubleAndAddSquares_99 : decode cX2_doubleAndAddSquares 99 = .ok (.lload 8, 2) := by decide +kernel
theorem dX2_doubleAndAddSquares_101 : decode cX2_doubleAndAddSquares 101 = .ok (.bipush 32, 2) := by decide +kernel
theorem dX2_doubleAndAddSquares_103 : decode cX2_doubleAndAddSquares 103 = .ok (.lushr, 1) := by decide +kernel
theorem dX2_doubleAndAddSquares_104 : decode cX2_doubleAndAddSquares 104 = .ok (.ladd, 1) := by decide +kernel
theorem dX2_doubleAndAddSquares_105 : decode cX2_doubleAndAddSquares 105 = .ok (.lstore 10, 2) := by decide +kernel
theorem dX2_doubleAndAddSquares_107 : decode cX2_doubleAndAddSquares 107 = .ok (.aload_n 0, 1) := by decide +kernel
theorem dX2_doubleAndAddSquares_108 : decode cX2_doubleAndAddSquares 108 = .ok (.getfield 15, 3) := by decide +kernel
theorem dX2_doubleAndAddSquares_111 : decode cX2_doubleAndAddSquares 111 = .ok (.iconst 2, 1) := by decide +kernel
theorem dX2_doubleAndAddSquares_112 : decode cX2_doubleAndAddSquares 112 = .ok (.iload 5, 2) := by decide +kernel
theorem dX2_doubleAndAddSquares_114 : decode cX2_doubleAndAddSquares 114 = .ok (.imul, 1) := by decide +kernel
theorem dX2_doubleAndAddSquares_115 : decode cX2_doubleAndAddSquares 115 = .ok (.iconst 1, 1) := by decide +kernel
theorem dX2_doubleAndAddSquares_116 : decode cX2_doubleAndAddSquares 116 = .ok (.iadd, 1) := by decide +kernel
theorem dX2_doubleAndAddSquares_117 : decode cX2_doubleAndAddSquares 117 = .ok (.lload 10, 2) := by decide +kernel
theorem dX2_doubleAndAddSquares_119 : decode cX2_doubleAndAddSquares 119 = .ok (.l2i, 1) := by decide +kernel
theorem dX2_doubleAndAddSquares_120 : decode cX2_doubleAndAddSquares 120 = .ok (.iastore, 1) := by decide +kernel
theorem dX2_doubleAndAddSquares_121 : decode cX2_doubleAndAddSquares 121 = .ok (.lload 10, 2) := by decide +kernel
theorem dX2_doubleAndAddSquares_123 : decode cX2_doubleAndAddSquares 123 = .ok (.bipush 32, 2) := by decide +kernel
theorem dX2_doubleAndAddSquares_125 : decode cX2_doubleAndAddSquares 125 = .ok (.lushr, 1) := by decide +kernel
theorem dX2_doubleAndAddSquares_126 : decode cX2_doubleAndAddSquares 126 = .ok (.lstore_n 3, 1) := by decide +kernel
theorem dX2_doubleAndAddSquares_127 : decode cX2_doubleAndAddSquares 127 = .ok (.iinc 5 1, 3) := by decide +kernel
theorem dX2_doubleAndAddSquares_130 : decode cX2_doubleAndAddSquares 130 = .ok (.goto (-125), 3) := by decide +kernel
theorem dX2_doubleAndAddSquares_133 : decode cX2_doubleAndAddSquares 133 = .ok (.return_, 1) := by decide +kernel
theorem dX3_init_0 : decode cX3_init 0 = .ok (.aload_n 0, 1) := by decide +kernel
theorem dX3_init_1 : decode cX3_init 1 = .ok (.invokespecial 1, 3) := by decide +kernel
theorem dX3_init_4 : decode cX3_init 4 = .ok (.aload_n 0, 1) := by decide +kernel
theorem dX3_init_5 : decode cX3_init 5 = .ok (.new 7, 3) := by decide +kernel
theorem dX3_init_8 : decode cX3_init 8 = .ok (.dup, 1) := by decide +kernel
theorem dX3_init_9 : decode cX3_init 9 = .ok (.invokespecial 9, 3) := by decide +kernel
theorem dX3_init_12 : decode cX3_init 12 = .ok (.putfield 10, 3) := by decide +kernel
theorem dX3_init_15 : decode cX3_init 15 = .ok (.aload_n 0, 1) := by decide +kernel
theorem dX3_init_16 : decode cX3_init 16 = .ok (.new 16, 3) := by decide +kernel
theorem dX3_init_19 : decode cX3_init 19 = .ok (.dup, 1) := by decide +kernel
theorem dX3_init_20 : decode cX3_init 20 = .ok (.invokespecial 18, 3) := by decide +kernel
theorem dX3_init_23 : decode cX3_init 23 = .ok (.putfield 19, 3) := by decide +kernel
theorem dX3_init_26 : decode cX3_init 26 = .ok (.aload_n 0, 1) := by decide +kernel
theorem dX3_init_27 : decode cX3_init 27 = .ok (.new 23, 3) := by decide +kernel
theorem dX3_init_30 : decode cX3_init 30 = .ok (.dup, 1) := by decide +kernel
theorem dX3_init_31 : decode cX3_init 31 = .ok (.sipush 2048, 3) := by decide +kernel
theorem dX3_init_34 : decode cX3_init 34 = .ok (.invokespecial 25, 3) := by decide +kernel
theorem dX3_init_37 : decode cX3_init 37 = .ok (.putfield 28, 3) := by decide +kernel
theorem dX3_init_40 : decode cX3_init 40 = .ok (.aload_n 0, 1) := by decide +kernel
theorem dX3_init_41 : decode cX3_init 41 = .ok (.new 23, 3) := by decide +kernel
