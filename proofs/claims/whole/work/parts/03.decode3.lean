theorem dX4_write_135 : decode cX4_write 135 = .ok (.castore, 1) := by decide +kernel
theorem dX4_write_136 : decode cX4_write 136 = .ok (.aload_n 0, 1) := by decide +kernel
theorem dX4_write_137 : decode cX4_write 137 = .ok (.iconst 1, 1) := by decide +kernel
theorem dX4_write_138 : decode cX4_write 138 = .ok (.putfield 56, 3) := by decide +kernel
theorem dX4_write_141 : decode cX4_write 141 = .ok (.aload_n 0, 1) := by decide +kernel
theorem dX4_write_142 : decode cX4_write 142 = .ok (.invokevirtual 70, 3) := by decide +kernel
theorem dX4_write_145 : decode cX4_write 145 = .ok (.aload_n 0, 1) := by decide +kernel
theorem dX4_write_146 : decode cX4_write 146 = .ok (.getfield 56, 3) := by decide +kernel
theorem dX4_write_149 : decode cX4_write 149 = .ok (.ireturn, 1) := by decide +kernel
theorem dX4_push_0 : decode cX4_push 0 = .ok (.aload_n 0, 1) := by decide +kernel
theorem dX4_push_1 : decode cX4_push 1 = .ok (.iconst 0, 1) := by decide +kernel
theorem dX4_push_2 : decode cX4_push 2 = .ok (.putfield 24, 3) := by decide +kernel
theorem dX4_push_5 : decode cX4_push 5 = .ok (.aload_n 0, 1) := by decide +kernel
theorem dX4_push_6 : decode cX4_push 6 = .ok (.invokevirtual 59, 3) := by decide +kernel
theorem dX4_push_9 : decode cX4_push 9 = .ok (.iconst 3, 1) := by decide +kernel
theorem dX4_push_10 : decode cX4_push 10 = .ok (.istore_n 3, 1) := by decide +kernel
theorem dX4_push_11 : decode cX4_push 11 = .ok (.iload_n 3, 1) := by decide +kernel
theorem dX4_push_12 : decode cX4_push 12 = .ok (.ifCond .lt 31, 3) := by decide +kernel
theorem dX4_push_15 : decode cX4_push 15 = .ok (.aload_n 0, 1) := by decide +kernel
theorem dX4_push_16 : decode cX4_push 16 = .ok (.ldc 7, 2) := by decide +kernel
theorem dX4_push_18 : decode cX4_push 18 = .ok (.lload_n 1, 1) := by decide +kernel
theorem dX4_push_19 : decode cX4_push 19 = .ok (.bipush 16, 2) := by decide +kernel
theorem dX4_push_21 : decode cX4_push 21 = .ok (.iload_n 3, 1) := by decide +kernel
theorem dX4_push_22 : decode cX4_push 22 = .ok (.imul, 1) := by decide +kernel
theorem dX4_push_23 : decode cX4_push 23 = .ok (.lshr, 1) := by decide +kernel
theorem dX4_push_24 : decode cX4_push 24 = .ok (.ldc2_w 31, 3) := by decide +kernel
theorem dX4_push_27 : decode cX4_push 27 = .ok (.land, 1) := by decide +kernel
theorem dX4_push_28 : decode cX4_push 28 = .ok (.l2i, 1) := by decide +kernel
theorem dX4_push_29 : decode cX4_push 29 = .ok (.invokevirtual 49, 3) := by decide +kernel
theorem dX4_push_32 : decode cX4_push 32 = .ok (.ifCond .ne 5, 3) := by decide +kernel
theorem dX4_push_35 : decode cX4_push 35 = .ok (.iconst 0, 1) := by decide +kernel
theorem dX4_push_36 : decode cX4_push 36 = .ok (.ireturn, 1) := by decide +kernel
theorem dX4_push_37 : decode cX4_push 37 = .ok (.iinc 3 (-1), 3) := by decide +kernel
theorem dX4_push_40 : decode cX4_push 40 = .ok (.goto (-29), 3) := by decide +kernel
theorem dX4_push_43 : decode cX4_push 43 = .ok (.aload_n 0, 1) := by decide +kernel
theorem dX4_push_44 : decode cX4_push 44 = .ok (.invokevirtual 53, 3) := by decide +kernel
theorem dX4_push_47 : decode cX4_push 47 = .ok (.iconst 1, 1) := by decide +kernel
theorem dX4_push_48 : decode cX4_push 48 = .ok (.ireturn, 1) := by decide +kernel
theorem dX4_power_0 : decode cX4_power 0 = .ok (.aload_n 0, 1) := by decide +kernel
theorem dX4_power_1 : decode cX4_power 1 = .ok (.iconst 0, 1) := by decide +kernel
theorem dX4_power_2 : decode cX4_power 2 = .ok (.putfield 24, 3) := by decide +kernel
theorem dX4_power_5 : decode cX4_power 5 = .ok (.iload_n 1, 1) := by decide +kernel
theorem dX4_power_6 : decode cX4_power 6 = .ok (.ifCond .lt 7, 3) := by decide +kernel
theorem dX4_power_9 : decode cX4_power 9 = .ok (.iload_n 2, 1) := by decide +kernel
theorem dX4_power_10 : decode cX4_power 10 = .ok (.ifCond .ge 5, 3) := by decide +kernel
theorem dX4_power_13 : decode cX4_power 13 = .ok (.iconst 0, 1) := by decide +kernel
theorem dX4_power_14 : decode cX4_power 14 = .ok (.ireturn, 1) := by decide +kernel
theorem dX4_power_15 : decode cX4_power 15 = .ok (.aload_n 0, 1) := by decide +kernel
theorem dX4_power_16 : decode cX4_power 16 = .ok (.iconst 1, 1) := by decide +kernel
theorem dX4_power_17 : decode cX4_power 17 = .ok (.putfield 28, 3) := by decide +kernel
theorem dX4_power_20 : decode cX4_power 20 = .ok (.aload_n 0, 1) := by decide +kernel
theorem dX4_power_21 : decode cX4_power 21 = .ok (.getfield 21, 3) := by decide +kernel
theorem dX4_power_24 : decode cX4_power 24 = .ok (.iconst 0, 1) := by decide +kernel
theorem dX4_power_25 : decode cX4_power 25 = .ok (.iconst 1, 1) := by decide +kernel
theorem dX4_power_26 : decode cX4_power 26 = .ok (.iastore, 1) := by decide +kernel
theorem dX4_power_27 : decode cX4_power 27 = .ok (.iload_n 1, 1) := by decide +kernel
theorem dX4_power_28 : decode cX4_power 28 = .ok (.ifCond .ne 12, 3) := by decide +kernel
theorem dX4_power_31 : decode cX4_power 31 = .ok (.iload_n 2, 1) := by decide +kernel
theorem dX4_power_32 : decode cX4_power 32 = .ok (.ifCond .le 8, 3) := by decide +kernel
theorem dX4_power_35 : decode cX4_power 35 = .ok (.aload_n 0, 1) := by decide +kernel
theorem dX4_power_36 : decode cX4_power 36 = .ok (.iconst 0, 1) := by decide +kernel
theorem dX4_power_37 : decode cX4_power 37 = .ok (.putfield 28, 3) := by decide +kernel
theorem dX4_power_40 : decode cX4_power 40 = .ok (.iconst 0, 1) := by decide +kernel
theorem dX4_power_41 : decode cX4_power 41 = .ok (.istore_n 3, 1) := by decide +kernel
theorem dX4_power_42 : decode cX4_power 42 = .ok (.iload_n 3, 1) := by decide +kernel
theorem dX4_power_43 : decode cX4_power 43 = .ok (.iload_n 2, 1) := by decide +kernel
theorem dX4_power_44 : decode cX4_power 44 = .ok (.if_icmp .ge 25, 3) := by decide +kernel
theorem dX4_power_47 : decode cX4_power 47 = .ok (.iload_n 1, 1) := by decide +kernel
theorem dX4_power_48 : decode cX4_power 48 = .ok (.iconst 1, 1) := by decide +kernel
theorem dX4_power_49 : decode cX4_power 49 = .ok (.if_icmp .le 20, 3) := by decide +kernel
theorem dX4_power_52 : decode cX4_power 52 = .ok (.aload_n 0, 1) := by decide +kernel
theorem dX4_power_53 : decode cX4_power 53 = .ok (.iload_n 1, 1) := by decide +kernel
theorem dX4_power_54 : decode cX4_power 54 = .ok (.iconst 0, 1) := by decide +kernel
theorem dX4_power_55 : decode cX4_power 55 = .ok (.invokevirtual 49, 3) := by decide +kernel
theorem dX4_power_58 : decode cX4_power 58 = .ok (.ifCond .ne 5, 3) := by decide +kernel
theorem dX4_power_61 : decode cX4_power 61 = .ok (.iconst 0, 1) := by decide +kernel
theorem dX4_power_62 : decode cX4_power 62 = .ok (.ireturn, 1) := by decide +kernel
theorem dX4_power_63 : decode cX4_power 63 = .ok (.iinc 3 1, 3) := by decide +kernel
theorem dX4_power_66 : decode cX4_power 66 = .ok (.goto (-24), 3) := by decide +kernel
theorem dX4_power_69 : decode cX4_power 69 = .ok (.aload_n 0, 1) := by decide +kernel
theorem dX4_power_70 : decode cX4_power 70 = .ok (.invokevirtual 53, 3) := by decide +kernel
theorem dX4_power_73 : decode cX4_power 73 = .ok (.iconst 1, 1) := by decide +kernel
theorem dX4_power_74 : decode cX4_power 74 = .ok (.ireturn, 1) := by decide +kernel
theorem dX4_add_0 : decode cX4_add 0 = .ok (.aload_n 0, 1) := by decide +kernel
theorem dX4_add_1 : decode cX4_add 1 = .ok (.iconst 0, 1) := by decide +kernel
theorem dX4_add_2 : decode cX4_add 2 = .ok (.putfield 24, 3) := by decide +kernel
theorem dX4_add_5 : decode cX4_add 5 = .ok (.aload_n 0, 1) := by decide +kernel
theorem dX4_add_6 : decode cX4_add 6 = .ok (.invokevirtual 59, 3) := by decide +kernel
theorem dX4_add_9 : decode cX4_add 9 = .ok (.iload_n 1, 1) := by decide +kernel
theorem dX4_add_10 : decode cX4_add 10 = .ok (.i2l, 1) := by decide +kernel
theorem dX4_add_11 : decode cX4_add 11 = .ok (.lstore_n 2, 1) := by decide +kernel
theorem dX4_add_12 : decode cX4_add 12 = .ok (.iconst 0, 1) := by decide +kernel
theorem dX4_add_13 : decode cX4_add 13 = .ok (.istore 4, 2) := by decide +kernel
theorem dX4_add_15 : decode cX4_add 15 = .ok (.iload 4, 2) := by decide +kernel
theorem dX4_add_17 : decode cX4_add 17 = .ok (.sipush 4096, 3) := by decide +kernel
theorem dX4_add_20 : decode cX4_add 20 = .ok (.if_icmp .ge 51, 3) := by decide +kernel
theorem dX4_add_23 : decode cX4_add 23 = .ok (.lload_n 2, 1) := by decide +kernel
theorem dX4_add_24 : decode cX4_add 24 = .ok (.iload 4, 2) := by decide +kernel
theorem dX4_add_26 : decode cX4_add 26 = .ok (.aload_n 0, 1) := by decide +kernel
theorem dX4_add_27 : decode cX4_add 27 = .ok (.getfield 28, 3) := by decide +kernel
theorem dX4_add_30 : decode cX4_add 30 = .ok (.if_icmp .ge 14, 3) := by decide +kernel
theorem dX4_add_33 : decode cX4_add 33 = .ok (.aload_n 0, 1) := by decide +kernel
theorem dX4_add_34 : decode cX4_add 34 = .ok (.getfield 21, 3) := by decide +kernel
theorem dX4_add_37 : decode cX4_add 37 = .ok (.iload 4, 2) := by decide +kernel
theorem dX4_add_39 : decode cX4_add 39 = .ok (.iaload, 1) := by decide +kernel
theorem dX4_add_40 : decode cX4_add 40 = .ok (.i2l, 1) := by decide +kernel
theorem dX4_add_41 : decode cX4_add 41 = .ok (.goto 4, 3) := by decide +kernel
theorem dX4_add_44 : decode cX4_add 44 = .ok (.lconst 0, 1) := by decide +kernel
theorem dX4_add_45 : decode cX4_add 45 = .ok (.ladd, 1) := by decide +kernel
theorem dX4_add_46 : decode cX4_add 46 = .ok (.lstore_n 2, 1) := by decide +kernel
theorem dX4_add_47 : decode cX4_add 47 = .ok (.aload_n 0, 1) := by decide +kernel
theorem dX4_add_48 : decode cX4_add 48 = .ok (.getfield 21, 3) := by decide +kernel
theorem dX4_add_51 : decode cX4_add 51 = .ok (.iload 4, 2) := by decide +kernel
theorem dX4_add_53 : decode cX4_add 53 = .ok (.lload_n 2, 1) := by decide +kernel
theorem dX4_add_54 : decode cX4_add 54 = .ok (.ldc2_w 31, 3) := by decide +kernel
theorem dX4_add_57 : decode cX4_add 57 = .ok (.land, 1) := by decide +kernel
theorem dX4_add_58 : decode cX4_add 58 = .ok (.l2i, 1) := by decide +kernel
theorem dX4_add_59 : decode cX4_add 59 = .ok (.iastore, 1) := by decide +kernel
theorem dX4_add_60 : decode cX4_add 60 = .ok (.lload_n 2, 1) := by decide +kernel
theorem dX4_add_61 : decode cX4_add 61 = .ok (.bipush 16, 2) := by decide +kernel
theorem dX4_add_63 : decode cX4_add 63 = .ok (.lshr, 1) := by decide +kernel
theorem dX4_add_64 : decode cX4_add 64 = .ok (.lstore_n 2, 1) := by decide +kernel
theorem dX4_add_65 : decode cX4_add 65 = .ok (.iinc 4 1, 3) := by decide +kernel
theorem dX4_add_68 : decode cX4_add 68 = .ok (.goto (-53), 3) := by decide +kernel
theorem dX4_add_71 : decode cX4_add 71 = .ok (.lload_n 2, 1) := by decide +kernel
theorem dX4_add_72 : decode cX4_add 72 = .ok (.lconst 0, 1) := by decide +kernel
theorem dX4_add_73 : decode cX4_add 73 = .ok (.lcmp, 1) := by decide +kernel
theorem dX4_add_74 : decode cX4_add 74 = .ok (.ifCond .eq 5, 3) := by decide +kernel
theorem dX4_add_77 : decode cX4_add 77 = .ok (.iconst 0, 1) := by decide +kernel
theorem dX4_add_78 : decode cX4_add 78 = .ok (.ireturn, 1) := by decide +kernel
theorem dX4_add_79 : decode cX4_add 79 = .ok (.aload_n 0, 1) := by decide +kernel
theorem dX4_add_80 : decode cX4_add 80 = .ok (.sipush 4096, 3) := by decide +kernel
theorem dX4_add_83 : decode cX4_add 83 = .ok (.putfield 28, 3) := by decide +kernel
theorem dX4_add_86 : decode cX4_add 86 = .ok (.aload_n 0, 1) := by decide +kernel
theorem dX4_add_87 : decode cX4_add 87 = .ok (.invokevirtual 53, 3) := by decide +kernel
theorem dX4_add_90 : decode cX4_add 90 = .ok (.iconst 1, 1) := by decide +kernel
theorem dX4_add_91 : decode cX4_add 91 = .ok (.ireturn, 1) := by decide +kernel
theorem dX4_word_0 : decode cX4_word 0 = .ok (.aload_n 0, 1) := by decide +kernel
theorem dX4_word_1 : decode cX4_word 1 = .ok (.iconst 0, 1) := by decide +kernel
theorem dX4_word_2 : decode cX4_word 2 = .ok (.putfield 24, 3) := by decide +kernel
theorem dX4_word_5 : decode cX4_word 5 = .ok (.iload_n 1, 1) := by decide +kernel
theorem dX4_word_6 : decode cX4_word 6 = .ok (.ifCond .lt 18, 3) := by decide +kernel
theorem dX4_word_9 : decode cX4_word 9 = .ok (.ldc2_w 73, 3) := by decide +kernel
theorem dX4_word_12 : decode cX4_word 12 = .ok (.iload_n 1, 1) := by decide +kernel
theorem dX4_word_13 : decode cX4_word 13 = .ok (.i2l, 1) := by decide +kernel
theorem dX4_word_14 : decode cX4_word 14 = .ok (.lmul, 1) := by decide +kernel
theorem dX4_word_15 : decode cX4_word 15 = .ok (.aload_n 0, 1) := by decide +kernel
theorem dX4_word_16 : decode cX4_word 16 = .ok (.getfield 33, 3) := by decide +kernel
theorem dX4_word_19 : decode cX4_word 19 = .ok (.i2l, 1) := by decide +kernel
theorem dX4_word_20 : decode cX4_word 20 = .ok (.lcmp, 1) := by decide +kernel
theorem dX4_word_21 : decode cX4_word 21 = .ok (.ifCond .lt 5, 3) := by decide +kernel
theorem dX4_word_24 : decode cX4_word 24 = .ok (.iconst 0, 1) := by decide +kernel
theorem dX4_word_25 : decode cX4_word 25 = .ok (.ireturn, 1) := by decide +kernel
theorem dX4_word_26 : decode cX4_word 26 = .ok (.aload_n 0, 1) := by decide +kernel
theorem dX4_word_27 : decode cX4_word 27 = .ok (.getfield 17, 3) := by decide +kernel
theorem dX4_word_30 : decode cX4_word 30 = .ok (.iconst 2, 1) := by decide +kernel
theorem dX4_word_31 : decode cX4_word 31 = .ok (.iload_n 1, 1) := by decide +kernel
theorem dX4_word_32 : decode cX4_word 32 = .ok (.imul, 1) := by decide +kernel
theorem dX4_word_33 : decode cX4_word 33 = .ok (.iaload, 1) := by decide +kernel
theorem dX4_word_34 : decode cX4_word 34 = .ok (.iconst 2, 1) := by decide +kernel
theorem dX4_word_35 : decode cX4_word 35 = .ok (.iload_n 1, 1) := by decide +kernel
theorem dX4_word_36 : decode cX4_word 36 = .ok (.imul, 1) := by decide +kernel
theorem dX4_word_37 : decode cX4_word 37 = .ok (.iconst 1, 1) := by decide +kernel
theorem dX4_word_38 : decode cX4_word 38 = .ok (.iadd, 1) := by decide +kernel
theorem dX4_word_39 : decode cX4_word 39 = .ok (.aload_n 0, 1) := by decide +kernel
theorem dX4_word_40 : decode cX4_word 40 = .ok (.getfield 33, 3) := by decide +kernel
theorem dX4_word_43 : decode cX4_word 43 = .ok (.if_icmp .ge 19, 3) := by decide +kernel
theorem dX4_word_46 : decode cX4_word 46 = .ok (.aload_n 0, 1) := by decide +kernel
theorem dX4_word_47 : decode cX4_word 47 = .ok (.getfield 17, 3) := by decide +kernel
theorem dX4_word_50 : decode cX4_word 50 = .ok (.iconst 2, 1) := by decide +kernel
theorem dX4_word_51 : decode cX4_word 51 = .ok (.iload_n 1, 1) := by decide +kernel
theorem dX4_word_52 : decode cX4_word 52 = .ok (.imul, 1) := by decide +kernel
theorem dX4_word_53 : decode cX4_word 53 = .ok (.iconst 1, 1) := by decide +kernel
theorem dX4_word_54 : decode cX4_word 54 = .ok (.iadd, 1) := by decide +kernel
theorem dX4_word_55 : decode cX4_word 55 = .ok (.iaload, 1) := by decide +kernel
theorem dX4_word_56 : decode cX4_word 56 = .ok (.bipush 16, 2) := by decide +kernel
theorem dX4_word_58 : decode cX4_word 58 = .ok (.ishl, 1) := by decide +kernel
theorem dX4_word_59 : decode cX4_word 59 = .ok (.goto 4, 3) := by decide +kernel
theorem dX4_word_62 : decode cX4_word 62 = .ok (.iconst 0, 1) := by decide +kernel
theorem dX4_word_63 : decode cX4_word 63 = .ok (.ior, 1) := by decide +kernel
theorem dX4_word_64 : decode cX4_word 64 = .ok (.ireturn, 1) := by decide +kernel
theorem dX4_bits_0 : decode cX4_bits 0 = .ok (.aload_n 0, 1) := by decide +kernel
theorem dX4_bits_1 : decode cX4_bits 1 = .ok (.iconst 0, 1) := by decide +kernel
theorem dX4_bits_2 : decode cX4_bits 2 = .ok (.putfield 24, 3) := by decide +kernel
theorem dX4_bits_5 : decode cX4_bits 5 = .ok (.iconst 0, 1) := by decide +kernel
theorem dX4_bits_6 : decode cX4_bits 6 = .ok (.istore_n 1, 1) := by decide +kernel
theorem dX4_bits_7 : decode cX4_bits 7 = .ok (.aload_n 0, 1) := by decide +kernel
theorem dX4_bits_8 : decode cX4_bits 8 = .ok (.getfield 33, 3) := by decide +kernel
theorem dX4_bits_11 : decode cX4_bits 11 = .ok (.ifCond .le 25, 3) := by decide +kernel
theorem dX4_bits_14 : decode cX4_bits 14 = .ok (.aload_n 0, 1) := by decide +kernel
theorem dX4_bits_15 : decode cX4_bits 15 = .ok (.getfield 17, 3) := by decide +kernel
theorem dX4_bits_18 : decode cX4_bits 18 = .ok (.aload_n 0, 1) := by decide +kernel
theorem dX4_bits_19 : decode cX4_bits 19 = .ok (.getfield 33, 3) := by decide +kernel
theorem dX4_bits_22 : decode cX4_bits 22 = .ok (.iconst 1, 1) := by decide +kernel
theorem dX4_bits_23 : decode cX4_bits 23 = .ok (.isub, 1) := by decide +kernel
theorem dX4_bits_24 : decode cX4_bits 24 = .ok (.iaload, 1) := by decide +kernel
theorem dX4_bits_25 : decode cX4_bits 25 = .ok (.iload_n 1, 1) := by decide +kernel
theorem dX4_bits_26 : decode cX4_bits 26 = .ok (.ishr, 1) := by decide +kernel
theorem dX4_bits_27 : decode cX4_bits 27 = .ok (.ifCond .le 9, 3) := by decide +kernel
theorem dX4_bits_30 : decode cX4_bits 30 = .ok (.iinc 1 1, 3) := by decide +kernel
theorem dX4_bits_33 : decode cX4_bits 33 = .ok (.goto (-26), 3) := by decide +kernel
theorem dX4_bits_36 : decode cX4_bits 36 = .ok (.aload_n 0, 1) := by decide +kernel
theorem dX4_bits_37 : decode cX4_bits 37 = .ok (.getfield 33, 3) := by decide +kernel
theorem dX4_bits_40 : decode cX4_bits 40 = .ok (.ifCond .ne 7, 3) := by decide +kernel
theorem dX4_bits_43 : decode cX4_bits 43 = .ok (.iconst 0, 1) := by decide +kernel
theorem dX4_bits_44 : decode cX4_bits 44 = .ok (.goto 15, 3) := by decide +kernel
theorem dX4_bits_47 : decode cX4_bits 47 = .ok (.bipush 16, 2) := by decide +kernel
theorem dX4_bits_49 : decode cX4_bits 49 = .ok (.aload_n 0, 1) := by decide +kernel
theorem dX4_bits_50 : decode cX4_bits 50 = .ok (.getfield 33, 3) := by decide +kernel
theorem dX4_bits_53 : decode cX4_bits 53 = .ok (.imul, 1) := by decide +kernel
theorem dX4_bits_54 : decode cX4_bits 54 = .ok (.bipush 16, 2) := by decide +kernel
theorem dX4_bits_56 : decode cX4_bits 56 = .ok (.isub, 1) := by decide +kernel
theorem dX4_bits_57 : decode cX4_bits 57 = .ok (.iload_n 1, 1) := by decide +kernel
theorem dX4_bits_58 : decode cX4_bits 58 = .ok (.iadd, 1) := by decide +kernel
theorem dX4_bits_59 : decode cX4_bits 59 = .ok (.ireturn, 1) := by decide +kernel
theorem dX4_characterAt_0 : decode cX4_characterAt 0 = .ok (.aload_n 0, 1) := by decide +kernel
theorem dX4_characterAt_1 : decode cX4_characterAt 1 = .ok (.iconst 0, 1) := by decide +kernel
theorem dX4_characterAt_2 : decode cX4_characterAt 2 = .ok (.putfield 24, 3) := by decide +kernel
theorem dX4_characterAt_5 : decode cX4_characterAt 5 = .ok (.iload_n 1, 1) := by decide +kernel
theorem dX4_characterAt_6 : decode cX4_characterAt 6 = .ok (.ifCond .lt 11, 3) := by decide +kernel
theorem dX4_characterAt_9 : decode cX4_characterAt 9 = .ok (.iload_n 1, 1) := by decide +kernel
theorem dX4_characterAt_10 : decode cX4_characterAt 10 = .ok (.aload_n 0, 1) := by decide +kernel
theorem dX4_characterAt_11 : decode cX4_characterAt 11 = .ok (.getfield 56, 3) := by decide +kernel
theorem dX4_characterAt_14 : decode cX4_characterAt 14 = .ok (.if_icmp .lt 7, 3) := by decide +kernel
theorem dX4_characterAt_17 : decode cX4_characterAt 17 = .ok (.iconst (-1), 1) := by decide +kernel
theorem dX4_characterAt_18 : decode cX4_characterAt 18 = .ok (.goto 9, 3) := by decide +kernel
theorem dX4_characterAt_21 : decode cX4_characterAt 21 = .ok (.aload_n 0, 1) := by decide +kernel
theorem dX4_characterAt_22 : decode cX4_characterAt 22 = .ok (.getfield 14, 3) := by decide +kernel
theorem dX4_characterAt_25 : decode cX4_characterAt 25 = .ok (.iload_n 1, 1) := by decide +kernel
theorem dX4_characterAt_26 : decode cX4_characterAt 26 = .ok (.caload, 1) := by decide +kernel
theorem dX4_characterAt_27 : decode cX4_characterAt 27 = .ok (.ireturn, 1) := by decide +kernel
theorem dX4_typed_0 : decode cX4_typed 0 = .ok (.aload_n 0, 1) := by decide +kernel
theorem dX4_typed_1 : decode cX4_typed 1 = .ok (.iconst 0, 1) := by decide +kernel
theorem dX4_typed_2 : decode cX4_typed 2 = .ok (.putfield 24, 3) := by decide +kernel
theorem dX4_typed_5 : decode cX4_typed 5 = .ok (.aload_n 0, 1) := by decide +kernel
theorem dX4_typed_6 : decode cX4_typed 6 = .ok (.getfield 38, 3) := by decide +kernel
theorem dX4_typed_9 : decode cX4_typed 9 = .ok (.ireturn, 1) := by decide +kernel
theorem dX4_load_0 : decode cX4_load 0 = .ok (.aload_n 0, 1) := by decide +kernel
theorem dX4_load_1 : decode cX4_load 1 = .ok (.iconst 4, 1) := by decide +kernel
theorem dX4_load_2 : decode cX4_load 2 = .ok (.putfield 28, 3) := by decide +kernel
theorem dX4_load_5 : decode cX4_load 5 = .ok (.iconst 0, 1) := by decide +kernel
theorem dX4_load_6 : decode cX4_load 6 = .ok (.istore_n 3, 1) := by decide +kernel
theorem dX4_load_7 : decode cX4_load 7 = .ok (.iload_n 3, 1) := by decide +kernel
theorem dX4_load_8 : decode cX4_load 8 = .ok (.iconst 4, 1) := by decide +kernel
theorem dX4_load_9 : decode cX4_load 9 = .ok (.if_icmp .ge 26, 3) := by decide +kernel
theorem dX4_load_12 : decode cX4_load 12 = .ok (.aload_n 0, 1) := by decide +kernel
theorem dX4_load_13 : decode cX4_load 13 = .ok (.getfield 21, 3) := by decide +kernel
theorem dX4_load_16 : decode cX4_load 16 = .ok (.iload_n 3, 1) := by decide +kernel
theorem dX4_load_17 : decode cX4_load 17 = .ok (.lload_n 1, 1) := by decide +kernel
theorem dX4_load_18 : decode cX4_load 18 = .ok (.bipush 16, 2) := by decide +kernel
theorem dX4_load_20 : decode cX4_load 20 = .ok (.iload_n 3, 1) := by decide +kernel
theorem dX4_load_21 : decode cX4_load 21 = .ok (.imul, 1) := by decide +kernel
theorem dX4_load_22 : decode cX4_load 22 = .ok (.lshr, 1) := by decide +kernel
theorem dX4_load_23 : decode cX4_load 23 = .ok (.ldc2_w 31, 3) := by decide +kernel
theorem dX4_load_26 : decode cX4_load 26 = .ok (.land, 1) := by decide +kernel
theorem dX4_load_27 : decode cX4_load 27 = .ok (.l2i, 1) := by decide +kernel
theorem dX4_load_28 : decode cX4_load 28 = .ok (.iastore, 1) := by decide +kernel
theorem dX4_load_29 : decode cX4_load 29 = .ok (.iinc 3 1, 3) := by decide +kernel
theorem dX4_load_32 : decode cX4_load 32 = .ok (.goto (-25), 3) := by decide +kernel
theorem dX4_load_35 : decode cX4_load 35 = .ok (.aload_n 0, 1) := by decide +kernel
theorem dX4_load_36 : decode cX4_load 36 = .ok (.getfield 28, 3) := by decide +kernel
theorem dX4_load_39 : decode cX4_load 39 = .ok (.ifCond .le 30, 3) := by decide +kernel
theorem dX4_load_42 : decode cX4_load 42 = .ok (.aload_n 0, 1) := by decide +kernel
theorem dX4_load_43 : decode cX4_load 43 = .ok (.getfield 21, 3) := by decide +kernel
theorem dX4_load_46 : decode cX4_load 46 = .ok (.aload_n 0, 1) := by decide +kernel
theorem dX4_load_47 : decode cX4_load 47 = .ok (.getfield 28, 3) := by decide +kernel
theorem dX4_load_50 : decode cX4_load 50 = .ok (.iconst 1, 1) := by decide +kernel
theorem dX4_load_51 : decode cX4_load 51 = .ok (.isub, 1) := by decide +kernel
theorem dX4_load_52 : decode cX4_load 52 = .ok (.iaload, 1) := by decide +kernel
theorem dX4_load_53 : decode cX4_load 53 = .ok (.ifCond .ne 16, 3) := by decide +kernel
theorem dX4_load_56 : decode cX4_load 56 = .ok (.aload_n 0, 1) := by decide +kernel
theorem dX4_load_57 : decode cX4_load 57 = .ok (.dup, 1) := by decide +kernel
theorem dX4_load_58 : decode cX4_load 58 = .ok (.getfield 28, 3) := by decide +kernel
theorem dX4_load_61 : decode cX4_load 61 = .ok (.iconst 1, 1) := by decide +kernel
theorem dX4_load_62 : decode cX4_load 62 = .ok (.isub, 1) := by decide +kernel
theorem dX4_load_63 : decode cX4_load 63 = .ok (.putfield 28, 3) := by decide +kernel
theorem dX4_load_66 : decode cX4_load 66 = .ok (.goto (-31), 3) := by decide +kernel
theorem dX4_load_69 : decode cX4_load 69 = .ok (.return_, 1) := by decide +kernel
theorem dX4_show_0 : decode cX4_show 0 = .ok (.aload_n 0, 1) := by decide +kernel
theorem dX4_show_1 : decode cX4_show 1 = .ok (.iconst 0, 1) := by decide +kernel
theorem dX4_show_2 : decode cX4_show 2 = .ok (.putfield 24, 3) := by decide +kernel
theorem dX4_show_5 : decode cX4_show 5 = .ok (.iload_n 3, 1) := by decide +kernel
theorem dX4_show_6 : decode cX4_show 6 = .ok (.invokestatic 75, 3) := by decide +kernel
theorem dX4_show_9 : decode cX4_show 9 = .ok (.ifCond .eq 11, 3) := by decide +kernel
theorem dX4_show_12 : decode cX4_show 12 = .ok (.iload 4, 2) := by decide +kernel
theorem dX4_show_14 : decode cX4_show 14 = .ok (.invokestatic 41, 3) := by decide +kernel
theorem dX4_show_17 : decode cX4_show 17 = .ok (.ifCond .ne 5, 3) := by decide +kernel
theorem dX4_show_20 : decode cX4_show 20 = .ok (.iconst (-1), 1) := by decide +kernel
theorem dX4_show_21 : decode cX4_show 21 = .ok (.ireturn, 1) := by decide +kernel
theorem dX4_show_22 : decode cX4_show 22 = .ok (.iload_n 3, 1) := by decide +kernel
theorem dX4_show_23 : decode cX4_show 23 = .ok (.bipush 64, 2) := by decide +kernel
theorem dX4_show_25 : decode cX4_show 25 = .ok (.if_icmp .ne 7, 3) := by decide +kernel
theorem dX4_show_28 : decode cX4_show 28 = .ok (.lload_n 1, 1) := by decide +kernel
theorem dX4_show_29 : decode cX4_show 29 = .ok (.goto 19, 3) := by decide +kernel
theorem dX4_show_32 : decode cX4_show 32 = .ok (.iload 5, 2) := by decide +kernel
theorem dX4_show_34 : decode cX4_show 34 = .ok (.ifCond .eq 9, 3) := by decide +kernel
theorem dX4_show_37 : decode cX4_show 37 = .ok (.lload_n 1, 1) := by decide +kernel
theorem dX4_show_38 : decode cX4_show 38 = .ok (.l2i, 1) := by decide +kernel
theorem dX4_show_39 : decode cX4_show 39 = .ok (.i2l, 1) := by decide +kernel
theorem dX4_show_40 : decode cX4_show 40 = .ok (.goto 8, 3) := by decide +kernel
theorem dX4_show_43 : decode cX4_show 43 = .ok (.lload_n 1, 1) := by decide +kernel
theorem dX4_show_44 : decode cX4_show 44 = .ok (.ldc2_w 78, 3) := by decide +kernel
theorem dX4_show_47 : decode cX4_show 47 = .ok (.land, 1) := by decide +kernel
theorem dX4_show_48 : decode cX4_show 48 = .ok (.lstore 6, 2) := by decide +kernel
theorem dX4_show_50 : decode cX4_show 50 = .ok (.iload 5, 2) := by decide +kernel
theorem dX4_show_52 : decode cX4_show 52 = .ok (.ifCond .eq 14, 3) := by decide +kernel
theorem dX4_show_55 : decode cX4_show 55 = .ok (.lload 6, 2) := by decide +kernel
theorem dX4_show_57 : decode cX4_show 57 = .ok (.lconst 0, 1) := by decide +kernel
theorem dX4_show_58 : decode cX4_show 58 = .ok (.lcmp, 1) := by decide +kernel
theorem dX4_show_59 : decode cX4_show 59 = .ok (.ifCond .ge 7, 3) := by decide +kernel
theorem dX4_show_62 : decode cX4_show 62 = .ok (.iconst 1, 1) := by decide +kernel
theorem dX4_show_63 : decode cX4_show 63 = .ok (.goto 4, 3) := by decide +kernel
theorem dX4_show_66 : decode cX4_show 66 = .ok (.iconst 0, 1) := by decide +kernel
theorem dX4_show_67 : decode cX4_show 67 = .ok (.istore 8, 2) := by decide +kernel
theorem dX4_show_69 : decode cX4_show 69 = .ok (.aload_n 0, 1) := by decide +kernel
theorem dX4_show_70 : decode cX4_show 70 = .ok (.iload 8, 2) := by decide +kernel
theorem dX4_show_72 : decode cX4_show 72 = .ok (.ifCond .eq 9, 3) := by decide +kernel
theorem dX4_show_75 : decode cX4_show 75 = .ok (.lload 6, 2) := by decide +kernel
theorem dX4_show_77 : decode cX4_show 77 = .ok (.lneg, 1) := by decide +kernel
theorem dX4_show_78 : decode cX4_show 78 = .ok (.goto 5, 3) := by decide +kernel
theorem dX4_show_81 : decode cX4_show 81 = .ok (.lload 6, 2) := by decide +kernel
theorem dX4_show_83 : decode cX4_show 83 = .ok (.invokevirtual 80, 3) := by decide +kernel
theorem dX4_show_86 : decode cX4_show 86 = .ok (.aload_n 0, 1) := by decide +kernel
theorem dX4_show_87 : decode cX4_show 87 = .ok (.iconst 0, 1) := by decide +kernel
theorem dX4_show_88 : decode cX4_show 88 = .ok (.putfield 56, 3) := by decide +kernel
theorem dX4_show_91 : decode cX4_show 91 = .ok (.aload_n 0, 1) := by decide +kernel
theorem dX4_show_92 : decode cX4_show 92 = .ok (.getfield 28, 3) := by decide +kernel
theorem dX4_show_95 : decode cX4_show 95 = .ok (.ifCond .le 34, 3) := by decide +kernel
theorem dX4_show_98 : decode cX4_show 98 = .ok (.aload_n 0, 1) := by decide +kernel
theorem dX4_show_99 : decode cX4_show 99 = .ok (.getfield 14, 3) := by decide +kernel
theorem dX4_show_102 : decode cX4_show 102 = .ok (.aload_n 0, 1) := by decide +kernel
theorem dX4_show_103 : decode cX4_show 103 = .ok (.getfield 56, 3) := by decide +kernel
theorem dX4_show_106 : decode cX4_show 106 = .ok (.aload_n 0, 1) := by decide +kernel
theorem dX4_show_107 : decode cX4_show 107 = .ok (.iload 4, 2) := by decide +kernel
theorem dX4_show_109 : decode cX4_show 109 = .ok (.invokevirtual 63, 3) := by decide +kernel
theorem dX4_show_112 : decode cX4_show 112 = .ok (.invokestatic 66, 3) := by decide +kernel
theorem dX4_show_115 : decode cX4_show 115 = .ok (.castore, 1) := by decide +kernel
theorem dX4_show_116 : decode cX4_show 116 = .ok (.aload_n 0, 1) := by decide +kernel
theorem dX4_show_117 : decode cX4_show 117 = .ok (.dup, 1) := by decide +kernel
theorem dX4_show_118 : decode cX4_show 118 = .ok (.getfield 56, 3) := by decide +kernel
theorem dX4_show_121 : decode cX4_show 121 = .ok (.iconst 1, 1) := by decide +kernel
theorem dX4_show_122 : decode cX4_show 122 = .ok (.iadd, 1) := by decide +kernel
theorem dX4_show_123 : decode cX4_show 123 = .ok (.putfield 56, 3) := by decide +kernel
theorem dX4_show_126 : decode cX4_show 126 = .ok (.goto (-35), 3) := by decide +kernel
theorem dX4_show_129 : decode cX4_show 129 = .ok (.aload_n 0, 1) := by decide +kernel
theorem dX4_show_130 : decode cX4_show 130 = .ok (.getfield 56, 3) := by decide +kernel
theorem dX4_show_133 : decode cX4_show 133 = .ok (.ifCond .ne 16, 3) := by decide +kernel
theorem dX4_show_136 : decode cX4_show 136 = .ok (.aload_n 0, 1) := by decide +kernel
theorem dX4_show_137 : decode cX4_show 137 = .ok (.getfield 14, 3) := by decide +kernel
theorem dX4_show_140 : decode cX4_show 140 = .ok (.iconst 0, 1) := by decide +kernel
theorem dX4_show_141 : decode cX4_show 141 = .ok (.bipush 48, 2) := by decide +kernel
theorem dX4_show_143 : decode cX4_show 143 = .ok (.castore, 1) := by decide +kernel
theorem dX4_show_144 : decode cX4_show 144 = .ok (.aload_n 0, 1) := by decide +kernel
theorem dX4_show_145 : decode cX4_show 145 = .ok (.iconst 1, 1) := by decide +kernel
theorem dX4_show_146 : decode cX4_show 146 = .ok (.putfield 56, 3) := by decide +kernel
theorem dX4_show_149 : decode cX4_show 149 = .ok (.iload 8, 2) := by decide +kernel
theorem dX4_show_151 : decode cX4_show 151 = .ok (.ifCond .eq 24, 3) := by decide +kernel
theorem dX4_show_154 : decode cX4_show 154 = .ok (.aload_n 0, 1) := by decide +kernel
theorem dX4_show_155 : decode cX4_show 155 = .ok (.getfield 14, 3) := by decide +kernel
theorem dX4_show_158 : decode cX4_show 158 = .ok (.aload_n 0, 1) := by decide +kernel
theorem dX4_show_159 : decode cX4_show 159 = .ok (.getfield 56, 3) := by decide +kernel
theorem dX4_show_162 : decode cX4_show 162 = .ok (.bipush 45, 2) := by decide +kernel
theorem dX4_show_164 : decode cX4_show 164 = .ok (.castore, 1) := by decide +kernel
theorem dX4_show_165 : decode cX4_show 165 = .ok (.aload_n 0, 1) := by decide +kernel
theorem dX4_show_166 : decode cX4_show 166 = .ok (.dup, 1) := by decide +kernel
theorem dX4_show_167 : decode cX4_show 167 = .ok (.getfield 56, 3) := by decide +kernel
theorem dX4_show_170 : decode cX4_show 170 = .ok (.iconst 1, 1) := by decide +kernel
theorem dX4_show_171 : decode cX4_show 171 = .ok (.iadd, 1) := by decide +kernel
theorem dX4_show_172 : decode cX4_show 172 = .ok (.putfield 56, 3) := by decide +kernel
theorem dX4_show_175 : decode cX4_show 175 = .ok (.aload_n 0, 1) := by decide +kernel
theorem dX4_show_176 : decode cX4_show 176 = .ok (.invokevirtual 70, 3) := by decide +kernel
theorem dX4_show_179 : decode cX4_show 179 = .ok (.aload_n 0, 1) := by decide +kernel
theorem dX4_show_180 : decode cX4_show 180 = .ok (.getfield 56, 3) := by decide +kernel
theorem dX4_show_183 : decode cX4_show 183 = .ok (.ireturn, 1) := by decide +kernel
theorem dX4_parse_0 : decode cX4_parse 0 = .ok (.aload_n 0, 1) := by decide +kernel
theorem dX4_parse_1 : decode cX4_parse 1 = .ok (.iconst 0, 1) := by decide +kernel
theorem dX4_parse_2 : decode cX4_parse 2 = .ok (.putfield 24, 3) := by decide +kernel
theorem dX4_parse_5 : decode cX4_parse 5 = .ok (.iload_n 1, 1) := by decide +kernel
theorem dX4_parse_6 : decode cX4_parse 6 = .ok (.invokestatic 75, 3) := by decide +kernel
theorem dX4_parse_9 : decode cX4_parse 9 = .ok (.ifCond .eq 10, 3) := by decide +kernel
theorem dX4_parse_12 : decode cX4_parse 12 = .ok (.iload_n 2, 1) := by decide +kernel
theorem dX4_parse_13 : decode cX4_parse 13 = .ok (.invokestatic 41, 3) := by decide +kernel
theorem dX4_parse_16 : decode cX4_parse 16 = .ok (.ifCond .ne 5, 3) := by decide +kernel
theorem dX4_parse_19 : decode cX4_parse 19 = .ok (.iconst 3, 1) := by decide +kernel
theorem dX4_parse_20 : decode cX4_parse 20 = .ok (.ireturn, 1) := by decide +kernel
theorem dX4_parse_21 : decode cX4_parse 21 = .ok (.aload_n 0, 1) := by decide +kernel
theorem dX4_parse_22 : decode cX4_parse 22 = .ok (.getfield 38, 3) := by decide +kernel
theorem dX4_parse_25 : decode cX4_parse 25 = .ok (.istore 4, 2) := by decide +kernel
theorem dX4_parse_27 : decode cX4_parse 27 = .ok (.aload_n 0, 1) := by decide +kernel
theorem dX4_parse_28 : decode cX4_parse 28 = .ok (.iconst 0, 1) := by decide +kernel
theorem dX4_parse_29 : decode cX4_parse 29 = .ok (.putfield 38, 3) := by decide +kernel
theorem dX4_parse_32 : decode cX4_parse 32 = .ok (.iload 4, 2) := by decide +kernel
theorem dX4_parse_34 : decode cX4_parse 34 = .ok (.ifCond .le 22, 3) := by decide +kernel
theorem dX4_parse_37 : decode cX4_parse 37 = .ok (.iload_n 3, 1) := by decide +kernel
theorem dX4_parse_38 : decode cX4_parse 38 = .ok (.ifCond .eq 18, 3) := by decide +kernel
theorem dX4_parse_41 : decode cX4_parse 41 = .ok (.aload_n 0, 1) := by decide +kernel
theorem dX4_parse_42 : decode cX4_parse 42 = .ok (.getfield 8, 3) := by decide +kernel
theorem dX4_parse_45 : decode cX4_parse 45 = .ok (.iconst 0, 1) := by decide +kernel
theorem dX4_parse_46 : decode cX4_parse 46 = .ok (.caload, 1) := by decide +kernel
theorem dX4_parse_47 : decode cX4_parse 47 = .ok (.bipush 45, 2) := by decide +kernel
theorem dX4_parse_49 : decode cX4_parse 49 = .ok (.if_icmp .ne 7, 3) := by decide +kernel
theorem dX4_parse_52 : decode cX4_parse 52 = .ok (.iconst 1, 1) := by decide +kernel
theorem dX4_parse_53 : decode cX4_parse 53 = .ok (.goto 4, 3) := by decide +kernel
theorem dX4_parse_56 : decode cX4_parse 56 = .ok (.iconst 0, 1) := by decide +kernel
theorem dX4_parse_57 : decode cX4_parse 57 = .ok (.istore 5, 2) := by decide +kernel
theorem dX4_parse_59 : decode cX4_parse 59 = .ok (.iload 5, 2) := by decide +kernel
theorem dX4_parse_61 : decode cX4_parse 61 = .ok (.ifCond .ne 19, 3) := by decide +kernel
theorem dX4_parse_64 : decode cX4_parse 64 = .ok (.iload 4, 2) := by decide +kernel
theorem dX4_parse_66 : decode cX4_parse 66 = .ok (.ifCond .le 18, 3) := by decide +kernel
theorem dX4_parse_69 : decode cX4_parse 69 = .ok (.aload_n 0, 1) := by decide +kernel
theorem dX4_parse_70 : decode cX4_parse 70 = .ok (.getfield 8, 3) := by decide +kernel
theorem dX4_parse_73 : decode cX4_parse 73 = .ok (.iconst 0, 1) := by decide +kernel
theorem dX4_parse_74 : decode cX4_parse 74 = .ok (.caload, 1) := by decide +kernel
theorem dX4_parse_75 : decode cX4_parse 75 = .ok (.bipush 43, 2) := by decide +kernel
theorem dX4_parse_77 : decode cX4_parse 77 = .ok (.if_icmp .ne 7, 3) := by decide +kernel
theorem dX4_parse_80 : decode cX4_parse 80 = .ok (.iconst 1, 1) := by decide +kernel
theorem dX4_parse_81 : decode cX4_parse 81 = .ok (.goto 4, 3) := by decide +kernel
theorem dX4_parse_84 : decode cX4_parse 84 = .ok (.iconst 0, 1) := by decide +kernel
theorem dX4_parse_85 : decode cX4_parse 85 = .ok (.istore 6, 2) := by decide +kernel
theorem dX4_parse_87 : decode cX4_parse 87 = .ok (.iload 6, 2) := by decide +kernel
theorem dX4_parse_89 : decode cX4_parse 89 = .ok (.iload 4, 2) := by decide +kernel
theorem dX4_parse_91 : decode cX4_parse 91 = .ok (.if_icmp .ne 5, 3) := by decide +kernel
theorem dX4_parse_94 : decode cX4_parse 94 = .ok (.iconst 1, 1) := by decide +kernel
theorem dX4_parse_95 : decode cX4_parse 95 = .ok (.ireturn, 1) := by decide +kernel
theorem dX4_parse_96 : decode cX4_parse 96 = .ok (.iload 6, 2) := by decide +kernel
theorem dX4_parse_98 : decode cX4_parse 98 = .ok (.istore 7, 2) := by decide +kernel
theorem dX4_parse_100 : decode cX4_parse 100 = .ok (.iload 7, 2) := by decide +kernel
theorem dX4_parse_102 : decode cX4_parse 102 = .ok (.iload 4, 2) := by decide +kernel
theorem dX4_parse_104 : decode cX4_parse 104 = .ok (.if_icmp .ge 25, 3) := by decide +kernel
theorem dX4_parse_107 : decode cX4_parse 107 = .ok (.aload_n 0, 1) := by decide +kernel
theorem dX4_parse_108 : decode cX4_parse 108 = .ok (.getfield 8, 3) := by decide +kernel
theorem dX4_parse_111 : decode cX4_parse 111 = .ok (.iload 7, 2) := by decide +kernel
theorem dX4_parse_113 : decode cX4_parse 113 = .ok (.caload, 1) := by decide +kernel
theorem dX4_parse_114 : decode cX4_parse 114 = .ok (.invokestatic 45, 3) := by decide +kernel
theorem dX4_parse_117 : decode cX4_parse 117 = .ok (.iload_n 2, 1) := by decide +kernel
theorem dX4_parse_118 : decode cX4_parse 118 = .ok (.if_icmp .lt 5, 3) := by decide +kernel
theorem dX4_parse_121 : decode cX4_parse 121 = .ok (.iconst 1, 1) := by decide +kernel
theorem dX4_parse_122 : decode cX4_parse 122 = .ok (.ireturn, 1) := by decide +kernel
theorem dX4_parse_123 : decode cX4_parse 123 = .ok (.iinc 7 1, 3) := by decide +kernel
theorem dX4_parse_126 : decode cX4_parse 126 = .ok (.goto (-26), 3) := by decide +kernel
theorem dX4_parse_129 : decode cX4_parse 129 = .ok (.aload_n 0, 1) := by decide +kernel
theorem dX4_parse_130 : decode cX4_parse 130 = .ok (.iconst 0, 1) := by decide +kernel
theorem dX4_parse_131 : decode cX4_parse 131 = .ok (.putfield 28, 3) := by decide +kernel
theorem dX4_parse_134 : decode cX4_parse 134 = .ok (.iload 6, 2) := by decide +kernel
theorem dX4_parse_136 : decode cX4_parse 136 = .ok (.istore 7, 2) := by decide +kernel
theorem dX4_parse_138 : decode cX4_parse 138 = .ok (.iload 7, 2) := by decide +kernel
theorem dX4_parse_140 : decode cX4_parse 140 = .ok (.iload 4, 2) := by decide +kernel
theorem dX4_parse_142 : decode cX4_parse 142 = .ok (.if_icmp .ge 38, 3) := by decide +kernel
theorem dX4_parse_145 : decode cX4_parse 145 = .ok (.aload_n 0, 1) := by decide +kernel
theorem dX4_parse_146 : decode cX4_parse 146 = .ok (.getfield 28, 3) := by decide +kernel
theorem dX4_parse_149 : decode cX4_parse 149 = .ok (.bipush 6, 2) := by decide +kernel
theorem dX4_parse_151 : decode cX4_parse 151 = .ok (.if_icmp .ge 23, 3) := by decide +kernel
theorem dX4_parse_154 : decode cX4_parse 154 = .ok (.aload_n 0, 1) := by decide +kernel
theorem dX4_parse_155 : decode cX4_parse 155 = .ok (.iload_n 2, 1) := by decide +kernel
theorem dX4_parse_156 : decode cX4_parse 156 = .ok (.aload_n 0, 1) := by decide +kernel
theorem dX4_parse_157 : decode cX4_parse 157 = .ok (.getfield 8, 3) := by decide +kernel
theorem dX4_parse_160 : decode cX4_parse 160 = .ok (.iload 7, 2) := by decide +kernel
theorem dX4_parse_162 : decode cX4_parse 162 = .ok (.caload, 1) := by decide +kernel
theorem dX4_parse_163 : decode cX4_parse 163 = .ok (.invokestatic 45, 3) := by decide +kernel
theorem dX4_parse_166 : decode cX4_parse 166 = .ok (.invokevirtual 49, 3) := by decide +kernel
theorem dX4_parse_169 : decode cX4_parse 169 = .ok (.ifCond .ne 5, 3) := by decide +kernel
theorem dX4_parse_172 : decode cX4_parse 172 = .ok (.iconst 2, 1) := by decide +kernel
theorem dX4_parse_173 : decode cX4_parse 173 = .ok (.ireturn, 1) := by decide +kernel
theorem dX4_parse_174 : decode cX4_parse 174 = .ok (.iinc 7 1, 3) := by decide +kernel
theorem dX4_parse_177 : decode cX4_parse 177 = .ok (.goto (-39), 3) := by decide +kernel
theorem dX4_parse_180 : decode cX4_parse 180 = .ok (.iload_n 1, 1) := by decide +kernel
theorem dX4_parse_181 : decode cX4_parse 181 = .ok (.bipush 16, 2) := by decide +kernel
theorem dX4_parse_183 : decode cX4_parse 183 = .ok (.idiv, 1) := by decide +kernel
theorem dX4_parse_184 : decode cX4_parse 184 = .ok (.istore 7, 2) := by decide +kernel
theorem dX4_parse_186 : decode cX4_parse 186 = .ok (.aload_n 0, 1) := by decide +kernel
theorem dX4_parse_187 : decode cX4_parse 187 = .ok (.getfield 28, 3) := by decide +kernel
theorem dX4_parse_190 : decode cX4_parse 190 = .ok (.iload 7, 2) := by decide +kernel
theorem dX4_parse_192 : decode cX4_parse 192 = .ok (.if_icmp .ne 22, 3) := by decide +kernel
theorem dX4_parse_195 : decode cX4_parse 195 = .ok (.aload_n 0, 1) := by decide +kernel
theorem dX4_parse_196 : decode cX4_parse 196 = .ok (.getfield 21, 3) := by decide +kernel
theorem dX4_parse_199 : decode cX4_parse 199 = .ok (.iload 7, 2) := by decide +kernel
theorem dX4_parse_201 : decode cX4_parse 201 = .ok (.iconst 1, 1) := by decide +kernel
theorem dX4_parse_202 : decode cX4_parse 202 = .ok (.isub, 1) := by decide +kernel
theorem dX4_parse_203 : decode cX4_parse 203 = .ok (.iaload, 1) := by decide +kernel
theorem dX4_parse_204 : decode cX4_parse 204 = .ok (.sipush 32767, 3) := by decide +kernel
theorem dX4_parse_207 : decode cX4_parse 207 = .ok (.if_icmp .le 7, 3) := by decide +kernel
theorem dX4_parse_210 : decode cX4_parse 210 = .ok (.iconst 1, 1) := by decide +kernel
theorem dX4_parse_211 : decode cX4_parse 211 = .ok (.goto 4, 3) := by decide +kernel
theorem dX4_parse_214 : decode cX4_parse 214 = .ok (.iconst 0, 1) := by decide +kernel
theorem dX4_parse_215 : decode cX4_parse 215 = .ok (.istore 8, 2) := by decide +kernel
theorem dX4_parse_217 : decode cX4_parse 217 = .ok (.iload 8, 2) := by decide +kernel
theorem dX4_parse_219 : decode cX4_parse 219 = .ok (.ifCond .eq 21, 3) := by decide +kernel
theorem dX4_parse_222 : decode cX4_parse 222 = .ok (.aload_n 0, 1) := by decide +kernel
theorem dX4_parse_223 : decode cX4_parse 223 = .ok (.getfield 21, 3) := by decide +kernel
theorem dX4_parse_226 : decode cX4_parse 226 = .ok (.iload 7, 2) := by decide +kernel
theorem dX4_parse_228 : decode cX4_parse 228 = .ok (.iconst 1, 1) := by decide +kernel
theorem dX4_parse_229 : decode cX4_parse 229 = .ok (.isub, 1) := by decide +kernel
theorem dX4_parse_230 : decode cX4_parse 230 = .ok (.iaload, 1) := by decide +kernel
theorem dX4_parse_231 : decode cX4_parse 231 = .ok (.ldc 62, 2) := by decide +kernel
theorem dX4_parse_233 : decode cX4_parse 233 = .ok (.if_icmp .ne 7, 3) := by decide +kernel
theorem dX4_parse_236 : decode cX4_parse 236 = .ok (.iconst 1, 1) := by decide +kernel
theorem dX4_parse_237 : decode cX4_parse 237 = .ok (.goto 4, 3) := by decide +kernel
theorem dX4_parse_240 : decode cX4_parse 240 = .ok (.iconst 0, 1) := by decide +kernel
theorem dX4_parse_241 : decode cX4_parse 241 = .ok (.istore 9, 2) := by decide +kernel
theorem dX4_parse_243 : decode cX4_parse 243 = .ok (.iconst 0, 1) := by decide +kernel
theorem dX4_parse_244 : decode cX4_parse 244 = .ok (.istore 10, 2) := by decide +kernel
theorem dX4_parse_246 : decode cX4_parse 246 = .ok (.iload 10, 2) := by decide +kernel
theorem dX4_parse_248 : decode cX4_parse 248 = .ok (.iload 7, 2) := by decide +kernel
theorem dX4_parse_250 : decode cX4_parse 250 = .ok (.iconst 1, 1) := by decide +kernel
theorem dX4_parse_251 : decode cX4_parse 251 = .ok (.isub, 1) := by decide +kernel
theorem dX4_parse_252 : decode cX4_parse 252 = .ok (.if_icmp .ge 31, 3) := by decide +kernel
theorem dX4_parse_255 : decode cX4_parse 255 = .ok (.iload 9, 2) := by decide +kernel
theorem dX4_parse_257 : decode cX4_parse 257 = .ok (.ifCond .eq 26, 3) := by decide +kernel
theorem dX4_parse_260 : decode cX4_parse 260 = .ok (.aload_n 0, 1) := by decide +kernel
theorem dX4_parse_261 : decode cX4_parse 261 = .ok (.getfield 21, 3) := by decide +kernel
theorem dX4_parse_264 : decode cX4_parse 264 = .ok (.iload 10, 2) := by decide +kernel
theorem dX4_parse_266 : decode cX4_parse 266 = .ok (.iaload, 1) := by decide +kernel
theorem dX4_parse_267 : decode cX4_parse 267 = .ok (.ifCond .ne 7, 3) := by decide +kernel
theorem dX4_parse_270 : decode cX4_parse 270 = .ok (.iconst 1, 1) := by decide +kernel
theorem dX4_parse_271 : decode cX4_parse 271 = .ok (.goto 4, 3) := by decide +kernel
theorem dX4_parse_274 : decode cX4_parse 274 = .ok (.iconst 0, 1) := by decide +kernel
theorem dX4_parse_275 : decode cX4_parse 275 = .ok (.istore 9, 2) := by decide +kernel
theorem dX4_parse_277 : decode cX4_parse 277 = .ok (.iinc 10 1, 3) := by decide +kernel
theorem dX4_parse_280 : decode cX4_parse 280 = .ok (.goto (-34), 3) := by decide +kernel
theorem dX4_parse_283 : decode cX4_parse 283 = .ok (.aload_n 0, 1) := by decide +kernel
theorem dX4_parse_284 : decode cX4_parse 284 = .ok (.getfield 28, 3) := by decide +kernel
theorem dX4_parse_287 : decode cX4_parse 287 = .ok (.iload 7, 2) := by decide +kernel
theorem dX4_parse_289 : decode cX4_parse 289 = .ok (.if_icmp .gt 22, 3) := by decide +kernel
theorem dX4_parse_292 : decode cX4_parse 292 = .ok (.iload_n 3, 1) := by decide +kernel
theorem dX4_parse_293 : decode cX4_parse 293 = .ok (.ifCond .eq 20, 3) := by decide +kernel
theorem dX4_parse_296 : decode cX4_parse 296 = .ok (.iload 8, 2) := by decide +kernel
theorem dX4_parse_298 : decode cX4_parse 298 = .ok (.ifCond .eq 15, 3) := by decide +kernel
theorem dX4_parse_301 : decode cX4_parse 301 = .ok (.iload 5, 2) := by decide +kernel
theorem dX4_parse_303 : decode cX4_parse 303 = .ok (.ifCond .eq 8, 3) := by decide +kernel
theorem dX4_parse_306 : decode cX4_parse 306 = .ok (.iload 9, 2) := by decide +kernel
theorem dX4_parse_308 : decode cX4_parse 308 = .ok (.ifCond .ne 5, 3) := by decide +kernel
theorem dX4_parse_311 : decode cX4_parse 311 = .ok (.iconst 2, 1) := by decide +kernel
theorem dX4_parse_312 : decode cX4_parse 312 = .ok (.ireturn, 1) := by decide +kernel
theorem dX4_parse_313 : decode cX4_parse 313 = .ok (.lconst 0, 1) := by decide +kernel
theorem dX4_parse_314 : decode cX4_parse 314 = .ok (.lstore 10, 2) := by decide +kernel
theorem dX4_parse_316 : decode cX4_parse 316 = .ok (.aload_n 0, 1) := by decide +kernel
theorem dX4_parse_317 : decode cX4_parse 317 = .ok (.getfield 28, 3) := by decide +kernel
theorem dX4_parse_320 : decode cX4_parse 320 = .ok (.iconst 1, 1) := by decide +kernel
theorem dX4_parse_321 : decode cX4_parse 321 = .ok (.isub, 1) := by decide +kernel
theorem dX4_parse_322 : decode cX4_parse 322 = .ok (.istore 12, 2) := by decide +kernel
theorem dX4_parse_324 : decode cX4_parse 324 = .ok (.iload 12, 2) := by decide +kernel
theorem dX4_parse_326 : decode cX4_parse 326 = .ok (.ifCond .lt 25, 3) := by decide +kernel
theorem dX4_parse_329 : decode cX4_parse 329 = .ok (.lload 10, 2) := by decide +kernel
theorem dX4_parse_331 : decode cX4_parse 331 = .ok (.bipush 16, 2) := by decide +kernel
theorem dX4_parse_333 : decode cX4_parse 333 = .ok (.lshl, 1) := by decide +kernel
theorem dX4_parse_334 : decode cX4_parse 334 = .ok (.aload_n 0, 1) := by decide +kernel
theorem dX4_parse_335 : decode cX4_parse 335 = .ok (.getfield 21, 3) := by decide +kernel
theorem dX4_parse_338 : decode cX4_parse 338 = .ok (.iload 12, 2) := by decide +kernel
theorem dX4_parse_340 : decode cX4_parse 340 = .ok (.iaload, 1) := by decide +kernel
theorem dX4_parse_341 : decode cX4_parse 341 = .ok (.i2l, 1) := by decide +kernel
theorem dX4_parse_342 : decode cX4_parse 342 = .ok (.lor, 1) := by decide +kernel
theorem dX4_parse_343 : decode cX4_parse 343 = .ok (.lstore 10, 2) := by decide +kernel
theorem dX4_parse_345 : decode cX4_parse 345 = .ok (.iinc 12 (-1), 3) := by decide +kernel
theorem dX4_parse_348 : decode cX4_parse 348 = .ok (.goto (-24), 3) := by decide +kernel
theorem dX4_parse_351 : decode cX4_parse 351 = .ok (.aload_n 0, 1) := by decide +kernel
theorem dX4_parse_352 : decode cX4_parse 352 = .ok (.iload 5, 2) := by decide +kernel
theorem dX4_parse_354 : decode cX4_parse 354 = .ok (.ifCond .eq 9, 3) := by decide +kernel
theorem dX4_parse_357 : decode cX4_parse 357 = .ok (.lload 10, 2) := by decide +kernel
theorem dX4_parse_359 : decode cX4_parse 359 = .ok (.lneg, 1) := by decide +kernel
theorem dX4_parse_360 : decode cX4_parse 360 = .ok (.goto 5, 3) := by decide +kernel
theorem dX4_parse_363 : decode cX4_parse 363 = .ok (.lload 10, 2) := by decide +kernel
theorem dX4_parse_365 : decode cX4_parse 365 = .ok (.putfield 84, 3) := by decide +kernel
theorem dX4_parse_368 : decode cX4_parse 368 = .ok (.iconst 0, 1) := by decide +kernel
theorem dX4_parse_369 : decode cX4_parse 369 = .ok (.ireturn, 1) := by decide +kernel
theorem dX4_value_0 : decode cX4_value 0 = .ok (.aload_n 0, 1) := by decide +kernel
theorem dX4_value_1 : decode cX4_value 1 = .ok (.iconst 0, 1) := by decide +kernel
theorem dX4_value_2 : decode cX4_value 2 = .ok (.putfield 24, 3) := by decide +kernel
theorem dX4_value_5 : decode cX4_value 5 = .ok (.aload_n 0, 1) := by decide +kernel
theorem dX4_value_6 : decode cX4_value 6 = .ok (.getfield 84, 3) := by decide +kernel
theorem dX4_value_9 : decode cX4_value 9 = .ok (.lreturn, 1) := by decide +kernel
theorem dJ6_numberOfLeadingZeros_0f7a4_0 : decode cJ6_numberOfLeadingZeros_0f7a4 0 = .ok (.iload_n 0, 1) := by decide +kernel
theorem dJ6_numberOfLeadingZeros_0f7a4_1 : decode cJ6_numberOfLeadingZeros_0f7a4 1 = .ok (.ifCond .gt 14, 3) := by decide +kernel
theorem dJ6_numberOfLeadingZeros_0f7a4_4 : decode cJ6_numberOfLeadingZeros_0f7a4 4 = .ok (.iload_n 0, 1) := by decide +kernel
theorem dJ6_numberOfLeadingZeros_0f7a4_5 : decode cJ6_numberOfLeadingZeros_0f7a4 5 = .ok (.ifCond .ne 8, 3) := by decide +kernel
theorem dJ6_numberOfLeadingZeros_0f7a4_8 : decode cJ6_numberOfLeadingZeros_0f7a4 8 = .ok (.bipush 32, 2) := by decide +kernel
theorem dJ6_numberOfLeadingZeros_0f7a4_10 : decode cJ6_numberOfLeadingZeros_0f7a4 10 = .ok (.goto 4, 3) := by decide +kernel
theorem dJ6_numberOfLeadingZeros_0f7a4_13 : decode cJ6_numberOfLeadingZeros_0f7a4 13 = .ok (.iconst 0, 1) := by decide +kernel
theorem dJ6_numberOfLeadingZeros_0f7a4_14 : decode cJ6_numberOfLeadingZeros_0f7a4 14 = .ok (.ireturn, 1) := by decide +kernel
theorem dJ6_numberOfLeadingZeros_0f7a4_15 : decode cJ6_numberOfLeadingZeros_0f7a4 15 = .ok (.bipush 31, 2) := by decide +kernel
theorem dJ6_numberOfLeadingZeros_0f7a4_17 : decode cJ6_numberOfLeadingZeros_0f7a4 17 = .ok (.istore_n 1, 1) := by decide +kernel
theorem dJ6_numberOfLeadingZeros_0f7a4_18 : decode cJ6_numberOfLeadingZeros_0f7a4 18 = .ok (.iload_n 0, 1) := by decide +kernel
theorem dJ6_numberOfLeadingZeros_0f7a4_19 : decode cJ6_numberOfLeadingZeros_0f7a4 19 = .ok (.ldc_w 264, 3) := by decide +kernel
theorem dJ6_numberOfLeadingZeros_0f7a4_22 : decode cJ6_numberOfLeadingZeros_0f7a4 22 = .ok (.if_icmp .lt 11, 3) := by decide +kernel
theorem dJ6_numberOfLeadingZeros_0f7a4_25 : decode cJ6_numberOfLeadingZeros_0f7a4 25 = .ok (.iinc 1 (-16), 3) := by decide +kernel
theorem dJ6_numberOfLeadingZeros_0f7a4_28 : decode cJ6_numberOfLeadingZeros_0f7a4 28 = .ok (.iload_n 0, 1) := by decide +kernel
theorem dJ6_numberOfLeadingZeros_0f7a4_29 : decode cJ6_numberOfLeadingZeros_0f7a4 29 = .ok (.bipush 16, 2) := by decide +kernel
theorem dJ6_numberOfLeadingZeros_0f7a4_31 : decode cJ6_numberOfLeadingZeros_0f7a4 31 = .ok (.iushr, 1) := by decide +kernel
theorem dJ6_numberOfLeadingZeros_0f7a4_32 : decode cJ6_numberOfLeadingZeros_0f7a4 32 = .ok (.istore_n 0, 1) := by decide +kernel
theorem dJ6_numberOfLeadingZeros_0f7a4_33 : decode cJ6_numberOfLeadingZeros_0f7a4 33 = .ok (.iload_n 0, 1) := by decide +kernel
theorem dJ6_numberOfLeadingZeros_0f7a4_34 : decode cJ6_numberOfLeadingZeros_0f7a4 34 = .ok (.sipush 256, 3) := by decide +kernel
theorem dJ6_numberOfLeadingZeros_0f7a4_37 : decode cJ6_numberOfLeadingZeros_0f7a4 37 = .ok (.if_icmp .lt 11, 3) := by decide +kernel
theorem dJ6_numberOfLeadingZeros_0f7a4_40 : decode cJ6_numberOfLeadingZeros_0f7a4 40 = .ok (.iinc 1 (-8), 3) := by decide +kernel
theorem dJ6_numberOfLeadingZeros_0f7a4_43 : decode cJ6_numberOfLeadingZeros_0f7a4 43 = .ok (.iload_n 0, 1) := by decide +kernel
theorem dJ6_numberOfLeadingZeros_0f7a4_44 : decode cJ6_numberOfLeadingZeros_0f7a4 44 = .ok (.bipush 8, 2) := by decide +kernel
theorem dJ6_numberOfLeadingZeros_0f7a4_46 : decode cJ6_numberOfLeadingZeros_0f7a4 46 = .ok (.iushr, 1) := by decide +kernel
theorem dJ6_numberOfLeadingZeros_0f7a4_47 : decode cJ6_numberOfLeadingZeros_0f7a4 47 = .ok (.istore_n 0, 1) := by decide +kernel
theorem dJ6_numberOfLeadingZeros_0f7a4_48 : decode cJ6_numberOfLeadingZeros_0f7a4 48 = .ok (.iload_n 0, 1) := by decide +kernel
theorem dJ6_numberOfLeadingZeros_0f7a4_49 : decode cJ6_numberOfLeadingZeros_0f7a4 49 = .ok (.bipush 16, 2) := by decide +kernel
theorem dJ6_numberOfLeadingZeros_0f7a4_51 : decode cJ6_numberOfLeadingZeros_0f7a4 51 = .ok (.if_icmp .lt 10, 3) := by decide +kernel
theorem dJ6_numberOfLeadingZeros_0f7a4_54 : decode cJ6_numberOfLeadingZeros_0f7a4 54 = .ok (.iinc 1 (-4), 3) := by decide +kernel
theorem dJ6_numberOfLeadingZeros_0f7a4_57 : decode cJ6_numberOfLeadingZeros_0f7a4 57 = .ok (.iload_n 0, 1) := by decide +kernel
theorem dJ6_numberOfLeadingZeros_0f7a4_58 : decode cJ6_numberOfLeadingZeros_0f7a4 58 = .ok (.iconst 4, 1) := by decide +kernel
theorem dJ6_numberOfLeadingZeros_0f7a4_59 : decode cJ6_numberOfLeadingZeros_0f7a4 59 = .ok (.iushr, 1) := by decide +kernel
theorem dJ6_numberOfLeadingZeros_0f7a4_60 : decode cJ6_numberOfLeadingZeros_0f7a4 60 = .ok (.istore_n 0, 1) := by decide +kernel
theorem dJ6_numberOfLeadingZeros_0f7a4_61 : decode cJ6_numberOfLeadingZeros_0f7a4 61 = .ok (.iload_n 0, 1) := by decide +kernel
theorem dJ6_numberOfLeadingZeros_0f7a4_62 : decode cJ6_numberOfLeadingZeros_0f7a4 62 = .ok (.iconst 4, 1) := by decide +kernel
theorem dJ6_numberOfLeadingZeros_0f7a4_63 : decode cJ6_numberOfLeadingZeros_0f7a4 63 = .ok (.if_icmp .lt 10, 3) := by decide +kernel
theorem dJ6_numberOfLeadingZeros_0f7a4_66 : decode cJ6_numberOfLeadingZeros_0f7a4 66 = .ok (.iinc 1 (-2), 3) := by decide +kernel
theorem dJ6_numberOfLeadingZeros_0f7a4_69 : decode cJ6_numberOfLeadingZeros_0f7a4 69 = .ok (.iload_n 0, 1) := by decide +kernel
theorem dJ6_numberOfLeadingZeros_0f7a4_70 : decode cJ6_numberOfLeadingZeros_0f7a4 70 = .ok (.iconst 2, 1) := by decide +kernel
theorem dJ6_numberOfLeadingZeros_0f7a4_71 : decode cJ6_numberOfLeadingZeros_0f7a4 71 = .ok (.iushr, 1) := by decide +kernel
theorem dJ6_numberOfLeadingZeros_0f7a4_72 : decode cJ6_numberOfLeadingZeros_0f7a4 72 = .ok (.istore_n 0, 1) := by decide +kernel
theorem dJ6_numberOfLeadingZeros_0f7a4_73 : decode cJ6_numberOfLeadingZeros_0f7a4 73 = .ok (.iload_n 1, 1) := by decide +kernel
theorem dJ6_numberOfLeadingZeros_0f7a4_74 : decode cJ6_numberOfLeadingZeros_0f7a4 74 = .ok (.iload_n 0, 1) := by decide +kernel
theorem dJ6_numberOfLeadingZeros_0f7a4_75 : decode cJ6_numberOfLeadingZeros_0f7a4 75 = .ok (.iconst 1, 1) := by decide +kernel
theorem dJ6_numberOfLeadingZeros_0f7a4_76 : decode cJ6_numberOfLeadingZeros_0f7a4 76 = .ok (.iushr, 1) := by decide +kernel
theorem dJ6_numberOfLeadingZeros_0f7a4_77 : decode cJ6_numberOfLeadingZeros_0f7a4 77 = .ok (.isub, 1) := by decide +kernel
theorem dJ6_numberOfLeadingZeros_0f7a4_78 : decode cJ6_numberOfLeadingZeros_0f7a4 78 = .ok (.ireturn, 1) := by decide +kernel
theorem dJ9_max_7cf53_0 : decode cJ9_max_7cf53 0 = .ok (.iload_n 0, 1) := by decide +kernel
theorem dJ9_max_7cf53_1 : decode cJ9_max_7cf53 1 = .ok (.iload_n 1, 1) := by decide +kernel
theorem dJ9_max_7cf53_2 : decode cJ9_max_7cf53 2 = .ok (.if_icmp .lt 7, 3) := by decide +kernel
theorem dJ9_max_7cf53_5 : decode cJ9_max_7cf53 5 = .ok (.iload_n 0, 1) := by decide +kernel
theorem dJ9_max_7cf53_6 : decode cJ9_max_7cf53 6 = .ok (.goto 4, 3) := by decide +kernel
theorem dJ9_max_7cf53_9 : decode cJ9_max_7cf53 9 = .ok (.iload_n 1, 1) := by decide +kernel
theorem dJ9_max_7cf53_10 : decode cJ9_max_7cf53 10 = .ok (.ireturn, 1) := by decide +kernel
theorem dJ9_min_7cf53_0 : decode cJ9_min_7cf53 0 = .ok (.iload_n 0, 1) := by decide +kernel
theorem dJ9_min_7cf53_1 : decode cJ9_min_7cf53 1 = .ok (.iload_n 1, 1) := by decide +kernel
theorem dJ9_min_7cf53_2 : decode cJ9_min_7cf53 2 = .ok (.if_icmp .gt 7, 3) := by decide +kernel
theorem dJ9_min_7cf53_5 : decode cJ9_min_7cf53 5 = .ok (.iload_n 0, 1) := by decide +kernel
theorem dJ9_min_7cf53_6 : decode cJ9_min_7cf53 6 = .ok (.goto 4, 3) := by decide +kernel
theorem dJ9_min_7cf53_9 : decode cJ9_min_7cf53 9 = .ok (.iload_n 1, 1) := by decide +kernel
theorem dJ9_min_7cf53_10 : decode cJ9_min_7cf53 10 = .ok (.ireturn, 1) := by decide +kernel
theorem dL_law_0 : decode cL_law 0 = .ok (.new 7, 3) := by decide +kernel
theorem dL_law_3 : decode cL_law 3 = .ok (.dup, 1) := by decide +kernel
theorem dL_law_4 : decode cL_law 4 = .ok (.invokespecial 9, 3) := by decide +kernel
theorem dL_law_7 : decode cL_law 7 = .ok (.astore_n 1, 1) := by decide +kernel
theorem dL_law_8 : decode cL_law 8 = .ok (.new 10, 3) := by decide +kernel
theorem dL_law_11 : decode cL_law 11 = .ok (.dup, 1) := by decide +kernel
theorem dL_law_12 : decode cL_law 12 = .ok (.invokespecial 12, 3) := by decide +kernel
theorem dL_law_15 : decode cL_law 15 = .ok (.astore_n 2, 1) := by decide +kernel
theorem dL_law_16 : decode cL_law 16 = .ok (.iconst 0, 1) := by decide +kernel
theorem dL_law_17 : decode cL_law 17 = .ok (.istore_n 3, 1) := by decide +kernel
theorem dL_law_18 : decode cL_law 18 = .ok (.iload_n 3, 1) := by decide +kernel
theorem dL_law_19 : decode cL_law 19 = .ok (.aload_n 0, 1) := by decide +kernel
theorem dL_law_20 : decode cL_law 20 = .ok (.arraylength, 1) := by decide +kernel
theorem dL_law_21 : decode cL_law 21 = .ok (.bipush 6, 2) := by decide +kernel
theorem dL_law_23 : decode cL_law 23 = .ok (.isub, 1) := by decide +kernel
theorem dL_law_24 : decode cL_law 24 = .ok (.if_icmp .gt 571, 3) := by decide +kernel
theorem dL_law_27 : decode cL_law 27 = .ok (.aload_n 0, 1) := by decide +kernel
theorem dL_law_28 : decode cL_law 28 = .ok (.iload_n 3, 1) := by decide +kernel
theorem dL_law_29 : decode cL_law 29 = .ok (.iaload, 1) := by decide +kernel
theorem dL_law_30 : decode cL_law 30 = .ok (.bipush 15, 2) := by decide +kernel
theorem dL_law_32 : decode cL_law 32 = .ok (.iand, 1) := by decide +kernel
theorem dL_law_33 : decode cL_law 33 = .ok (.tableswitch 556 0 13 #[71, 124, 157, 180, 203, 256, 289, 312, 411, 470, 484, 507, 520, 543], 71) := by decide +kernel
theorem dL_law_104 : decode cL_law 104 = .ok (.aload_n 1, 1) := by decide +kernel
theorem dL_law_105 : decode cL_law 105 = .ok (.aload_n 0, 1) := by decide +kernel
theorem dL_law_106 : decode cL_law 106 = .ok (.iload_n 3, 1) := by decide +kernel
theorem dL_law_107 : decode cL_law 107 = .ok (.iconst 1, 1) := by decide +kernel
theorem dL_law_108 : decode cL_law 108 = .ok (.iadd, 1) := by decide +kernel
theorem dL_law_109 : decode cL_law 109 = .ok (.iaload, 1) := by decide +kernel
theorem dL_law_110 : decode cL_law 110 = .ok (.i2l, 1) := by decide +kernel
theorem dL_law_111 : decode cL_law 111 = .ok (.bipush 32, 2) := by decide +kernel
theorem dL_law_113 : decode cL_law 113 = .ok (.lshl, 1) := by decide +kernel
theorem dL_law_114 : decode cL_law 114 = .ok (.aload_n 0, 1) := by decide +kernel
theorem dL_law_115 : decode cL_law 115 = .ok (.iload_n 3, 1) := by decide +kernel
theorem dL_law_116 : decode cL_law 116 = .ok (.iconst 2, 1) := by decide +kernel
theorem dL_law_117 : decode cL_law 117 = .ok (.iadd, 1) := by decide +kernel
theorem dL_law_118 : decode cL_law 118 = .ok (.iaload, 1) := by decide +kernel
theorem dL_law_119 : decode cL_law 119 = .ok (.i2l, 1) := by decide +kernel
theorem dL_law_120 : decode cL_law 120 = .ok (.ldc2_w 13, 3) := by decide +kernel
theorem dL_law_123 : decode cL_law 123 = .ok (.land, 1) := by decide +kernel
theorem dL_law_124 : decode cL_law 124 = .ok (.lor, 1) := by decide +kernel
theorem dL_law_125 : decode cL_law 125 = .ok (.invokevirtual 15, 3) := by decide +kernel
theorem dL_law_128 : decode cL_law 128 = .ok (.aload_n 2, 1) := by decide +kernel
theorem dL_law_129 : decode cL_law 129 = .ok (.aload_n 0, 1) := by decide +kernel
theorem dL_law_130 : decode cL_law 130 = .ok (.iload_n 3, 1) := by decide +kernel
theorem dL_law_131 : decode cL_law 131 = .ok (.iconst 1, 1) := by decide +kernel
theorem dL_law_132 : decode cL_law 132 = .ok (.iadd, 1) := by decide +kernel
theorem dL_law_133 : decode cL_law 133 = .ok (.iaload, 1) := by decide +kernel
theorem dL_law_134 : decode cL_law 134 = .ok (.i2l, 1) := by decide +kernel
theorem dL_law_135 : decode cL_law 135 = .ok (.bipush 32, 2) := by decide +kernel
theorem dL_law_137 : decode cL_law 137 = .ok (.lshl, 1) := by decide +kernel
theorem dL_law_138 : decode cL_law 138 = .ok (.aload_n 0, 1) := by decide +kernel
theorem dL_law_139 : decode cL_law 139 = .ok (.iload_n 3, 1) := by decide +kernel
theorem dL_law_140 : decode cL_law 140 = .ok (.iconst 2, 1) := by decide +kernel
theorem dL_law_141 : decode cL_law 141 = .ok (.iadd, 1) := by decide +kernel
theorem dL_law_142 : decode cL_law 142 = .ok (.iaload, 1) := by decide +kernel
theorem dL_law_143 : decode cL_law 143 = .ok (.i2l, 1) := by decide +kernel
theorem dL_law_144 : decode cL_law 144 = .ok (.ldc2_w 13, 3) := by decide +kernel
theorem dL_law_147 : decode cL_law 147 = .ok (.land, 1) := by decide +kernel
theorem dL_law_148 : decode cL_law 148 = .ok (.lor, 1) := by decide +kernel
theorem dL_law_149 : decode cL_law 149 = .ok (.invokevirtual 19, 3) := by decide +kernel
theorem dL_law_152 : decode cL_law 152 = .ok (.if_icmp .eq 437, 3) := by decide +kernel
theorem dL_law_155 : decode cL_law 155 = .ok (.iconst 0, 1) := by decide +kernel
theorem dL_law_156 : decode cL_law 156 = .ok (.ireturn, 1) := by decide +kernel
theorem dL_law_157 : decode cL_law 157 = .ok (.aload_n 1, 1) := by decide +kernel
theorem dL_law_158 : decode cL_law 158 = .ok (.aload_n 0, 1) := by decide +kernel
theorem dL_law_159 : decode cL_law 159 = .ok (.iload_n 3, 1) := by decide +kernel
theorem dL_law_160 : decode cL_law 160 = .ok (.iconst 1, 1) := by decide +kernel
theorem dL_law_161 : decode cL_law 161 = .ok (.iadd, 1) := by decide +kernel
theorem dL_law_162 : decode cL_law 162 = .ok (.iaload, 1) := by decide +kernel
theorem dL_law_163 : decode cL_law 163 = .ok (.aload_n 0, 1) := by decide +kernel
theorem dL_law_164 : decode cL_law 164 = .ok (.iload_n 3, 1) := by decide +kernel
theorem dL_law_165 : decode cL_law 165 = .ok (.iconst 2, 1) := by decide +kernel
theorem dL_law_166 : decode cL_law 166 = .ok (.iadd, 1) := by decide +kernel
theorem dL_law_167 : decode cL_law 167 = .ok (.iaload, 1) := by decide +kernel
theorem dL_law_168 : decode cL_law 168 = .ok (.invokevirtual 20, 3) := by decide +kernel
theorem dL_law_171 : decode cL_law 171 = .ok (.aload_n 2, 1) := by decide +kernel
theorem dL_law_172 : decode cL_law 172 = .ok (.aload_n 0, 1) := by decide +kernel
theorem dL_law_173 : decode cL_law 173 = .ok (.iload_n 3, 1) := by decide +kernel
theorem dL_law_174 : decode cL_law 174 = .ok (.iconst 1, 1) := by decide +kernel
theorem dL_law_175 : decode cL_law 175 = .ok (.iadd, 1) := by decide +kernel
theorem dL_law_176 : decode cL_law 176 = .ok (.iaload, 1) := by decide +kernel
theorem dL_law_177 : decode cL_law 177 = .ok (.aload_n 0, 1) := by decide +kernel
theorem dL_law_178 : decode cL_law 178 = .ok (.iload_n 3, 1) := by decide +kernel
theorem dL_law_179 : decode cL_law 179 = .ok (.iconst 2, 1) := by decide +kernel
theorem dL_law_180 : decode cL_law 180 = .ok (.iadd, 1) := by decide +kernel
theorem dL_law_181 : decode cL_law 181 = .ok (.iaload, 1) := by decide +kernel
theorem dL_law_182 : decode cL_law 182 = .ok (.invokevirtual 24, 3) := by decide +kernel
theorem dL_law_185 : decode cL_law 185 = .ok (.if_icmp .eq 404, 3) := by decide +kernel
theorem dL_law_188 : decode cL_law 188 = .ok (.iconst 0, 1) := by decide +kernel
theorem dL_law_189 : decode cL_law 189 = .ok (.ireturn, 1) := by decide +kernel
theorem dL_law_190 : decode cL_law 190 = .ok (.aload_n 1, 1) := by decide +kernel
theorem dL_law_191 : decode cL_law 191 = .ok (.aload_n 0, 1) := by decide +kernel
theorem dL_law_192 : decode cL_law 192 = .ok (.iload_n 3, 1) := by decide +kernel
theorem dL_law_193 : decode cL_law 193 = .ok (.iconst 1, 1) := by decide +kernel
theorem dL_law_194 : decode cL_law 194 = .ok (.iadd, 1) := by decide +kernel
theorem dL_law_195 : decode cL_law 195 = .ok (.iaload, 1) := by decide +kernel
theorem dL_law_196 : decode cL_law 196 = .ok (.invokevirtual 25, 3) := by decide +kernel
theorem dL_law_199 : decode cL_law 199 = .ok (.aload_n 2, 1) := by decide +kernel
theorem dL_law_200 : decode cL_law 200 = .ok (.aload_n 0, 1) := by decide +kernel
theorem dL_law_201 : decode cL_law 201 = .ok (.iload_n 3, 1) := by decide +kernel
theorem dL_law_202 : decode cL_law 202 = .ok (.iconst 1, 1) := by decide +kernel
theorem dL_law_203 : decode cL_law 203 = .ok (.iadd, 1) := by decide +kernel
theorem dL_law_204 : decode cL_law 204 = .ok (.iaload, 1) := by decide +kernel
theorem dL_law_205 : decode cL_law 205 = .ok (.invokevirtual 29, 3) := by decide +kernel
theorem dL_law_208 : decode cL_law 208 = .ok (.if_icmp .eq 381, 3) := by decide +kernel
theorem dL_law_211 : decode cL_law 211 = .ok (.iconst 0, 1) := by decide +kernel
theorem dL_law_212 : decode cL_law 212 = .ok (.ireturn, 1) := by decide +kernel
theorem dL_law_213 : decode cL_law 213 = .ok (.aload_n 1, 1) := by decide +kernel
theorem dL_law_214 : decode cL_law 214 = .ok (.aload_n 0, 1) := by decide +kernel
theorem dL_law_215 : decode cL_law 215 = .ok (.iload_n 3, 1) := by decide +kernel
theorem dL_law_216 : decode cL_law 216 = .ok (.iconst 1, 1) := by decide +kernel
theorem dL_law_217 : decode cL_law 217 = .ok (.iadd, 1) := by decide +kernel
theorem dL_law_218 : decode cL_law 218 = .ok (.iaload, 1) := by decide +kernel
theorem dL_law_219 : decode cL_law 219 = .ok (.invokevirtual 30, 3) := by decide +kernel
theorem dL_law_222 : decode cL_law 222 = .ok (.aload_n 2, 1) := by decide +kernel
theorem dL_law_223 : decode cL_law 223 = .ok (.aload_n 0, 1) := by decide +kernel
theorem dL_law_224 : decode cL_law 224 = .ok (.iload_n 3, 1) := by decide +kernel
theorem dL_law_225 : decode cL_law 225 = .ok (.iconst 1, 1) := by decide +kernel
theorem dL_law_226 : decode cL_law 226 = .ok (.iadd, 1) := by decide +kernel
theorem dL_law_227 : decode cL_law 227 = .ok (.iaload, 1) := by decide +kernel
theorem dL_law_228 : decode cL_law 228 = .ok (.invokevirtual 33, 3) := by decide +kernel
theorem dL_law_231 : decode cL_law 231 = .ok (.if_icmp .eq 358, 3) := by decide +kernel
theorem dL_law_234 : decode cL_law 234 = .ok (.iconst 0, 1) := by decide +kernel
theorem dL_law_235 : decode cL_law 235 = .ok (.ireturn, 1) := by decide +kernel
theorem dL_law_236 : decode cL_law 236 = .ok (.aload_n 1, 1) := by decide +kernel
theorem dL_law_237 : decode cL_law 237 = .ok (.aload_n 0, 1) := by decide +kernel
theorem dL_law_238 : decode cL_law 238 = .ok (.iload_n 3, 1) := by decide +kernel
theorem dL_law_239 : decode cL_law 239 = .ok (.iconst 1, 1) := by decide +kernel
theorem dL_law_240 : decode cL_law 240 = .ok (.iadd, 1) := by decide +kernel
theorem dL_law_241 : decode cL_law 241 = .ok (.iaload, 1) := by decide +kernel
theorem dL_law_242 : decode cL_law 242 = .ok (.i2l, 1) := by decide +kernel
theorem dL_law_243 : decode cL_law 243 = .ok (.bipush 32, 2) := by decide +kernel
theorem dL_law_245 : decode cL_law 245 = .ok (.lshl, 1) := by decide +kernel
theorem dL_law_246 : decode cL_law 246 = .ok (.aload_n 0, 1) := by decide +kernel
theorem dL_law_247 : decode cL_law 247 = .ok (.iload_n 3, 1) := by decide +kernel
theorem dL_law_248 : decode cL_law 248 = .ok (.iconst 2, 1) := by decide +kernel
theorem dL_law_249 : decode cL_law 249 = .ok (.iadd, 1) := by decide +kernel
theorem dL_law_250 : decode cL_law 250 = .ok (.iaload, 1) := by decide +kernel
theorem dL_law_251 : decode cL_law 251 = .ok (.i2l, 1) := by decide +kernel
theorem dL_law_252 : decode cL_law 252 = .ok (.ldc2_w 13, 3) := by decide +kernel
theorem dL_law_255 : decode cL_law 255 = .ok (.land, 1) := by decide +kernel
theorem dL_law_256 : decode cL_law 256 = .ok (.lor, 1) := by decide +kernel
theorem dL_law_257 : decode cL_law 257 = .ok (.invokevirtual 34, 3) := by decide +kernel
theorem dL_law_260 : decode cL_law 260 = .ok (.aload_n 2, 1) := by decide +kernel
theorem dL_law_261 : decode cL_law 261 = .ok (.aload_n 0, 1) := by decide +kernel
theorem dL_law_262 : decode cL_law 262 = .ok (.iload_n 3, 1) := by decide +kernel
theorem dL_law_263 : decode cL_law 263 = .ok (.iconst 1, 1) := by decide +kernel
theorem dL_law_264 : decode cL_law 264 = .ok (.iadd, 1) := by decide +kernel
theorem dL_law_265 : decode cL_law 265 = .ok (.iaload, 1) := by decide +kernel
theorem dL_law_266 : decode cL_law 266 = .ok (.i2l, 1) := by decide +kernel
theorem dL_law_267 : decode cL_law 267 = .ok (.bipush 32, 2) := by decide +kernel
theorem dL_law_269 : decode cL_law 269 = .ok (.lshl, 1) := by decide +kernel
theorem dL_law_270 : decode cL_law 270 = .ok (.aload_n 0, 1) := by decide +kernel
theorem dL_law_271 : decode cL_law 271 = .ok (.iload_n 3, 1) := by decide +kernel
theorem dL_law_272 : decode cL_law 272 = .ok (.iconst 2, 1) := by decide +kernel
theorem dL_law_273 : decode cL_law 273 = .ok (.iadd, 1) := by decide +kernel
theorem dL_law_274 : decode cL_law 274 = .ok (.iaload, 1) := by decide +kernel
theorem dL_law_275 : decode cL_law 275 = .ok (.i2l, 1) := by decide +kernel
theorem dL_law_276 : decode cL_law 276 = .ok (.ldc2_w 13, 3) := by decide +kernel
theorem dL_law_279 : decode cL_law 279 = .ok (.land, 1) := by decide +kernel
theorem dL_law_280 : decode cL_law 280 = .ok (.lor, 1) := by decide +kernel
theorem dL_law_281 : decode cL_law 281 = .ok (.invokevirtual 37, 3) := by decide +kernel
theorem dL_law_284 : decode cL_law 284 = .ok (.if_icmp .eq 305, 3) := by decide +kernel
theorem dL_law_287 : decode cL_law 287 = .ok (.iconst 0, 1) := by decide +kernel
theorem dL_law_288 : decode cL_law 288 = .ok (.ireturn, 1) := by decide +kernel
theorem dL_law_289 : decode cL_law 289 = .ok (.aload_n 1, 1) := by decide +kernel
theorem dL_law_290 : decode cL_law 290 = .ok (.aload_n 0, 1) := by decide +kernel
theorem dL_law_291 : decode cL_law 291 = .ok (.iload_n 3, 1) := by decide +kernel
theorem dL_law_292 : decode cL_law 292 = .ok (.iconst 1, 1) := by decide +kernel
theorem dL_law_293 : decode cL_law 293 = .ok (.iadd, 1) := by decide +kernel
theorem dL_law_294 : decode cL_law 294 = .ok (.iaload, 1) := by decide +kernel
theorem dL_law_295 : decode cL_law 295 = .ok (.aload_n 0, 1) := by decide +kernel
theorem dL_law_296 : decode cL_law 296 = .ok (.iload_n 3, 1) := by decide +kernel
theorem dL_law_297 : decode cL_law 297 = .ok (.iconst 2, 1) := by decide +kernel
theorem dL_law_298 : decode cL_law 298 = .ok (.iadd, 1) := by decide +kernel
theorem dL_law_299 : decode cL_law 299 = .ok (.iaload, 1) := by decide +kernel
theorem dL_law_300 : decode cL_law 300 = .ok (.invokevirtual 38, 3) := by decide +kernel
theorem dL_law_303 : decode cL_law 303 = .ok (.aload_n 2, 1) := by decide +kernel
theorem dL_law_304 : decode cL_law 304 = .ok (.aload_n 0, 1) := by decide +kernel
theorem dL_law_305 : decode cL_law 305 = .ok (.iload_n 3, 1) := by decide +kernel
theorem dL_law_306 : decode cL_law 306 = .ok (.iconst 1, 1) := by decide +kernel
theorem dL_law_307 : decode cL_law 307 = .ok (.iadd, 1) := by decide +kernel
theorem dL_law_308 : decode cL_law 308 = .ok (.iaload, 1) := by decide +kernel
theorem dL_law_309 : decode cL_law 309 = .ok (.aload_n 0, 1) := by decide +kernel
theorem dL_law_310 : decode cL_law 310 = .ok (.iload_n 3, 1) := by decide +kernel
theorem dL_law_311 : decode cL_law 311 = .ok (.iconst 2, 1) := by decide +kernel
theorem dL_law_312 : decode cL_law 312 = .ok (.iadd, 1) := by decide +kernel
theorem dL_law_313 : decode cL_law 313 = .ok (.iaload, 1) := by decide +kernel
theorem dL_law_314 : decode cL_law 314 = .ok (.invokevirtual 41, 3) := by decide +kernel
theorem dL_law_317 : decode cL_law 317 = .ok (.if_icmp .eq 272, 3) := by decide +kernel
theorem dL_law_320 : decode cL_law 320 = .ok (.iconst 0, 1) := by decide +kernel
theorem dL_law_321 : decode cL_law 321 = .ok (.ireturn, 1) := by decide +kernel
theorem dL_law_322 : decode cL_law 322 = .ok (.aload_n 1, 1) := by decide +kernel
theorem dL_law_323 : decode cL_law 323 = .ok (.aload_n 0, 1) := by decide +kernel
theorem dL_law_324 : decode cL_law 324 = .ok (.iload_n 3, 1) := by decide +kernel
theorem dL_law_325 : decode cL_law 325 = .ok (.iconst 1, 1) := by decide +kernel
theorem dL_law_326 : decode cL_law 326 = .ok (.iadd, 1) := by decide +kernel
theorem dL_law_327 : decode cL_law 327 = .ok (.iaload, 1) := by decide +kernel
theorem dL_law_328 : decode cL_law 328 = .ok (.invokevirtual 42, 3) := by decide +kernel
theorem dL_law_331 : decode cL_law 331 = .ok (.aload_n 2, 1) := by decide +kernel
theorem dL_law_332 : decode cL_law 332 = .ok (.aload_n 0, 1) := by decide +kernel
theorem dL_law_333 : decode cL_law 333 = .ok (.iload_n 3, 1) := by decide +kernel
theorem dL_law_334 : decode cL_law 334 = .ok (.iconst 1, 1) := by decide +kernel
theorem dL_law_335 : decode cL_law 335 = .ok (.iadd, 1) := by decide +kernel
theorem dL_law_336 : decode cL_law 336 = .ok (.iaload, 1) := by decide +kernel
theorem dL_law_337 : decode cL_law 337 = .ok (.invokevirtual 46, 3) := by decide +kernel
theorem dL_law_340 : decode cL_law 340 = .ok (.if_icmp .eq 249, 3) := by decide +kernel
theorem dL_law_343 : decode cL_law 343 = .ok (.iconst 0, 1) := by decide +kernel
theorem dL_law_344 : decode cL_law 344 = .ok (.ireturn, 1) := by decide +kernel
theorem dL_law_345 : decode cL_law 345 = .ok (.aload_n 1, 1) := by decide +kernel
theorem dL_law_346 : decode cL_law 346 = .ok (.aload_n 0, 1) := by decide +kernel
theorem dL_law_347 : decode cL_law 347 = .ok (.iload_n 3, 1) := by decide +kernel
theorem dL_law_348 : decode cL_law 348 = .ok (.iconst 1, 1) := by decide +kernel
theorem dL_law_349 : decode cL_law 349 = .ok (.iadd, 1) := by decide +kernel
theorem dL_law_350 : decode cL_law 350 = .ok (.iaload, 1) := by decide +kernel
theorem dL_law_351 : decode cL_law 351 = .ok (.i2l, 1) := by decide +kernel
theorem dL_law_352 : decode cL_law 352 = .ok (.bipush 32, 2) := by decide +kernel
theorem dL_law_354 : decode cL_law 354 = .ok (.lshl, 1) := by decide +kernel
theorem dL_law_355 : decode cL_law 355 = .ok (.aload_n 0, 1) := by decide +kernel
theorem dL_law_356 : decode cL_law 356 = .ok (.iload_n 3, 1) := by decide +kernel
theorem dL_law_357 : decode cL_law 357 = .ok (.iconst 2, 1) := by decide +kernel
theorem dL_law_358 : decode cL_law 358 = .ok (.iadd, 1) := by decide +kernel
theorem dL_law_359 : decode cL_law 359 = .ok (.iaload, 1) := by decide +kernel
theorem dL_law_360 : decode cL_law 360 = .ok (.i2l, 1) := by decide +kernel
theorem dL_law_361 : decode cL_law 361 = .ok (.ldc2_w 13, 3) := by decide +kernel
theorem dL_law_364 : decode cL_law 364 = .ok (.land, 1) := by decide +kernel
theorem dL_law_365 : decode cL_law 365 = .ok (.lor, 1) := by decide +kernel
theorem dL_law_366 : decode cL_law 366 = .ok (.aload_n 0, 1) := by decide +kernel
theorem dL_law_367 : decode cL_law 367 = .ok (.iload_n 3, 1) := by decide +kernel
theorem dL_law_368 : decode cL_law 368 = .ok (.iconst 3, 1) := by decide +kernel
theorem dL_law_369 : decode cL_law 369 = .ok (.iadd, 1) := by decide +kernel
theorem dL_law_370 : decode cL_law 370 = .ok (.iaload, 1) := by decide +kernel
theorem dL_law_371 : decode cL_law 371 = .ok (.aload_n 0, 1) := by decide +kernel
theorem dL_law_372 : decode cL_law 372 = .ok (.iload_n 3, 1) := by decide +kernel
theorem dL_law_373 : decode cL_law 373 = .ok (.iconst 4, 1) := by decide +kernel
theorem dL_law_374 : decode cL_law 374 = .ok (.iadd, 1) := by decide +kernel
theorem dL_law_375 : decode cL_law 375 = .ok (.iaload, 1) := by decide +kernel
theorem dL_law_376 : decode cL_law 376 = .ok (.aload_n 0, 1) := by decide +kernel
theorem dL_law_377 : decode cL_law 377 = .ok (.iload_n 3, 1) := by decide +kernel
theorem dL_law_378 : decode cL_law 378 = .ok (.iconst 5, 1) := by decide +kernel
theorem dL_law_379 : decode cL_law 379 = .ok (.iadd, 1) := by decide +kernel
theorem dL_law_380 : decode cL_law 380 = .ok (.iaload, 1) := by decide +kernel
theorem dL_law_381 : decode cL_law 381 = .ok (.ifCond .eq 7, 3) := by decide +kernel
theorem dL_law_384 : decode cL_law 384 = .ok (.iconst 1, 1) := by decide +kernel
theorem dL_law_385 : decode cL_law 385 = .ok (.goto 4, 3) := by decide +kernel
theorem dL_law_388 : decode cL_law 388 = .ok (.iconst 0, 1) := by decide +kernel
theorem dL_law_389 : decode cL_law 389 = .ok (.invokevirtual 47, 3) := by decide +kernel
theorem dL_law_392 : decode cL_law 392 = .ok (.aload_n 2, 1) := by decide +kernel
theorem dL_law_393 : decode cL_law 393 = .ok (.aload_n 0, 1) := by decide +kernel
theorem dL_law_394 : decode cL_law 394 = .ok (.iload_n 3, 1) := by decide +kernel
theorem dL_law_395 : decode cL_law 395 = .ok (.iconst 1, 1) := by decide +kernel
theorem dL_law_396 : decode cL_law 396 = .ok (.iadd, 1) := by decide +kernel
theorem dL_law_397 : decode cL_law 397 = .ok (.iaload, 1) := by decide +kernel
theorem dL_law_398 : decode cL_law 398 = .ok (.i2l, 1) := by decide +kernel
theorem dL_law_399 : decode cL_law 399 = .ok (.bipush 32, 2) := by decide +kernel
theorem dL_law_401 : decode cL_law 401 = .ok (.lshl, 1) := by decide +kernel
theorem dL_law_402 : decode cL_law 402 = .ok (.aload_n 0, 1) := by decide +kernel
theorem dL_law_403 : decode cL_law 403 = .ok (.iload_n 3, 1) := by decide +kernel
theorem dL_law_404 : decode cL_law 404 = .ok (.iconst 2, 1) := by decide +kernel
theorem dL_law_405 : decode cL_law 405 = .ok (.iadd, 1) := by decide +kernel
theorem dL_law_406 : decode cL_law 406 = .ok (.iaload, 1) := by decide +kernel
theorem dL_law_407 : decode cL_law 407 = .ok (.i2l, 1) := by decide +kernel
theorem dL_law_408 : decode cL_law 408 = .ok (.ldc2_w 13, 3) := by decide +kernel
theorem dL_law_411 : decode cL_law 411 = .ok (.land, 1) := by decide +kernel
theorem dL_law_412 : decode cL_law 412 = .ok (.lor, 1) := by decide +kernel
theorem dL_law_413 : decode cL_law 413 = .ok (.aload_n 0, 1) := by decide +kernel
theorem dL_law_414 : decode cL_law 414 = .ok (.iload_n 3, 1) := by decide +kernel
theorem dL_law_415 : decode cL_law 415 = .ok (.iconst 3, 1) := by decide +kernel
theorem dL_law_416 : decode cL_law 416 = .ok (.iadd, 1) := by decide +kernel
theorem dL_law_417 : decode cL_law 417 = .ok (.iaload, 1) := by decide +kernel
theorem dL_law_418 : decode cL_law 418 = .ok (.aload_n 0, 1) := by decide +kernel
theorem dL_law_419 : decode cL_law 419 = .ok (.iload_n 3, 1) := by decide +kernel
theorem dL_law_420 : decode cL_law 420 = .ok (.iconst 4, 1) := by decide +kernel
theorem dL_law_421 : decode cL_law 421 = .ok (.iadd, 1) := by decide +kernel
theorem dL_law_422 : decode cL_law 422 = .ok (.iaload, 1) := by decide +kernel
theorem dL_law_423 : decode cL_law 423 = .ok (.aload_n 0, 1) := by decide +kernel
theorem dL_law_424 : decode cL_law 424 = .ok (.iload_n 3, 1) := by decide +kernel
theorem dL_law_425 : decode cL_law 425 = .ok (.iconst 5, 1) := by decide +kernel
theorem dL_law_426 : decode cL_law 426 = .ok (.iadd, 1) := by decide +kernel
theorem dL_law_427 : decode cL_law 427 = .ok (.iaload, 1) := by decide +kernel
theorem dL_law_428 : decode cL_law 428 = .ok (.ifCond .eq 7, 3) := by decide +kernel
theorem dL_law_431 : decode cL_law 431 = .ok (.iconst 1, 1) := by decide +kernel
theorem dL_law_432 : decode cL_law 432 = .ok (.goto 4, 3) := by decide +kernel
theorem dL_law_435 : decode cL_law 435 = .ok (.iconst 0, 1) := by decide +kernel
theorem dL_law_436 : decode cL_law 436 = .ok (.invokevirtual 51, 3) := by decide +kernel
theorem dL_law_439 : decode cL_law 439 = .ok (.if_icmp .eq 150, 3) := by decide +kernel
theorem dL_law_442 : decode cL_law 442 = .ok (.iconst 0, 1) := by decide +kernel
theorem dL_law_443 : decode cL_law 443 = .ok (.ireturn, 1) := by decide +kernel
theorem dL_law_444 : decode cL_law 444 = .ok (.aload_n 1, 1) := by decide +kernel
theorem dL_law_445 : decode cL_law 445 = .ok (.aload_n 0, 1) := by decide +kernel
theorem dL_law_446 : decode cL_law 446 = .ok (.iload_n 3, 1) := by decide +kernel
theorem dL_law_447 : decode cL_law 447 = .ok (.iconst 1, 1) := by decide +kernel
theorem dL_law_448 : decode cL_law 448 = .ok (.iadd, 1) := by decide +kernel
theorem dL_law_449 : decode cL_law 449 = .ok (.iaload, 1) := by decide +kernel
theorem dL_law_450 : decode cL_law 450 = .ok (.aload_n 0, 1) := by decide +kernel
theorem dL_law_451 : decode cL_law 451 = .ok (.iload_n 3, 1) := by decide +kernel
theorem dL_law_452 : decode cL_law 452 = .ok (.iconst 2, 1) := by decide +kernel
theorem dL_law_453 : decode cL_law 453 = .ok (.iadd, 1) := by decide +kernel
theorem dL_law_454 : decode cL_law 454 = .ok (.iaload, 1) := by decide +kernel
theorem dL_law_455 : decode cL_law 455 = .ok (.aload_n 0, 1) := by decide +kernel
theorem dL_law_456 : decode cL_law 456 = .ok (.iload_n 3, 1) := by decide +kernel
theorem dL_law_457 : decode cL_law 457 = .ok (.iconst 3, 1) := by decide +kernel
theorem dL_law_458 : decode cL_law 458 = .ok (.iadd, 1) := by decide +kernel
theorem dL_law_459 : decode cL_law 459 = .ok (.iaload, 1) := by decide +kernel
theorem dL_law_460 : decode cL_law 460 = .ok (.ifCond .eq 7, 3) := by decide +kernel
theorem dL_law_463 : decode cL_law 463 = .ok (.iconst 1, 1) := by decide +kernel
theorem dL_law_464 : decode cL_law 464 = .ok (.goto 4, 3) := by decide +kernel
theorem dL_law_467 : decode cL_law 467 = .ok (.iconst 0, 1) := by decide +kernel
theorem dL_law_468 : decode cL_law 468 = .ok (.invokevirtual 52, 3) := by decide +kernel
theorem dL_law_471 : decode cL_law 471 = .ok (.aload_n 2, 1) := by decide +kernel
theorem dL_law_472 : decode cL_law 472 = .ok (.aload_n 0, 1) := by decide +kernel
theorem dL_law_473 : decode cL_law 473 = .ok (.iload_n 3, 1) := by decide +kernel
theorem dL_law_474 : decode cL_law 474 = .ok (.iconst 1, 1) := by decide +kernel
theorem dL_law_475 : decode cL_law 475 = .ok (.iadd, 1) := by decide +kernel
theorem dL_law_476 : decode cL_law 476 = .ok (.iaload, 1) := by decide +kernel
theorem dL_law_477 : decode cL_law 477 = .ok (.aload_n 0, 1) := by decide +kernel
theorem dL_law_478 : decode cL_law 478 = .ok (.iload_n 3, 1) := by decide +kernel
theorem dL_law_479 : decode cL_law 479 = .ok (.iconst 2, 1) := by decide +kernel
theorem dL_law_480 : decode cL_law 480 = .ok (.iadd, 1) := by decide +kernel
theorem dL_law_481 : decode cL_law 481 = .ok (.iaload, 1) := by decide +kernel
theorem dL_law_482 : decode cL_law 482 = .ok (.aload_n 0, 1) := by decide +kernel
theorem dL_law_483 : decode cL_law 483 = .ok (.iload_n 3, 1) := by decide +kernel
theorem dL_law_484 : decode cL_law 484 = .ok (.iconst 3, 1) := by decide +kernel
theorem dL_law_485 : decode cL_law 485 = .ok (.iadd, 1) := by decide +kernel
theorem dL_law_486 : decode cL_law 486 = .ok (.iaload, 1) := by decide +kernel
theorem dL_law_487 : decode cL_law 487 = .ok (.ifCond .eq 7, 3) := by decide +kernel
theorem dL_law_490 : decode cL_law 490 = .ok (.iconst 1, 1) := by decide +kernel
theorem dL_law_491 : decode cL_law 491 = .ok (.goto 4, 3) := by decide +kernel
theorem dL_law_494 : decode cL_law 494 = .ok (.iconst 0, 1) := by decide +kernel
theorem dL_law_495 : decode cL_law 495 = .ok (.invokevirtual 56, 3) := by decide +kernel
theorem dL_law_498 : decode cL_law 498 = .ok (.if_icmp .eq 91, 3) := by decide +kernel
theorem dL_law_501 : decode cL_law 501 = .ok (.iconst 0, 1) := by decide +kernel
theorem dL_law_502 : decode cL_law 502 = .ok (.ireturn, 1) := by decide +kernel
theorem dL_law_503 : decode cL_law 503 = .ok (.aload_n 1, 1) := by decide +kernel
theorem dL_law_504 : decode cL_law 504 = .ok (.invokevirtual 57, 3) := by decide +kernel
theorem dL_law_507 : decode cL_law 507 = .ok (.aload_n 2, 1) := by decide +kernel
theorem dL_law_508 : decode cL_law 508 = .ok (.invokevirtual 61, 3) := by decide +kernel
theorem dL_law_511 : decode cL_law 511 = .ok (.lcmp, 1) := by decide +kernel
theorem dL_law_512 : decode cL_law 512 = .ok (.ifCond .eq 77, 3) := by decide +kernel
theorem dL_law_515 : decode cL_law 515 = .ok (.iconst 0, 1) := by decide +kernel
theorem dL_law_516 : decode cL_law 516 = .ok (.ireturn, 1) := by decide +kernel
theorem dL_law_517 : decode cL_law 517 = .ok (.aload_n 1, 1) := by decide +kernel
theorem dL_law_518 : decode cL_law 518 = .ok (.aload_n 0, 1) := by decide +kernel
theorem dL_law_519 : decode cL_law 519 = .ok (.iload_n 3, 1) := by decide +kernel
theorem dL_law_520 : decode cL_law 520 = .ok (.iconst 1, 1) := by decide +kernel
theorem dL_law_521 : decode cL_law 521 = .ok (.iadd, 1) := by decide +kernel
theorem dL_law_522 : decode cL_law 522 = .ok (.iaload, 1) := by decide +kernel
theorem dL_law_523 : decode cL_law 523 = .ok (.invokevirtual 62, 3) := by decide +kernel
theorem dL_law_526 : decode cL_law 526 = .ok (.aload_n 2, 1) := by decide +kernel
theorem dL_law_527 : decode cL_law 527 = .ok (.aload_n 0, 1) := by decide +kernel
theorem dL_law_528 : decode cL_law 528 = .ok (.iload_n 3, 1) := by decide +kernel
theorem dL_law_529 : decode cL_law 529 = .ok (.iconst 1, 1) := by decide +kernel
theorem dL_law_530 : decode cL_law 530 = .ok (.iadd, 1) := by decide +kernel
theorem dL_law_531 : decode cL_law 531 = .ok (.iaload, 1) := by decide +kernel
theorem dL_law_532 : decode cL_law 532 = .ok (.invokevirtual 65, 3) := by decide +kernel
theorem dL_law_535 : decode cL_law 535 = .ok (.if_icmp .eq 54, 3) := by decide +kernel
theorem dL_law_538 : decode cL_law 538 = .ok (.iconst 0, 1) := by decide +kernel
theorem dL_law_539 : decode cL_law 539 = .ok (.ireturn, 1) := by decide +kernel
theorem dL_law_540 : decode cL_law 540 = .ok (.aload_n 1, 1) := by decide +kernel
theorem dL_law_541 : decode cL_law 541 = .ok (.invokevirtual 66, 3) := by decide +kernel
theorem dL_law_544 : decode cL_law 544 = .ok (.aload_n 2, 1) := by decide +kernel
theorem dL_law_545 : decode cL_law 545 = .ok (.invokevirtual 70, 3) := by decide +kernel
theorem dL_law_548 : decode cL_law 548 = .ok (.if_icmp .eq 41, 3) := by decide +kernel
theorem dL_law_551 : decode cL_law 551 = .ok (.iconst 0, 1) := by decide +kernel
theorem dL_law_552 : decode cL_law 552 = .ok (.ireturn, 1) := by decide +kernel
theorem dL_law_553 : decode cL_law 553 = .ok (.aload_n 1, 1) := by decide +kernel
theorem dL_law_554 : decode cL_law 554 = .ok (.aload_n 0, 1) := by decide +kernel
theorem dL_law_555 : decode cL_law 555 = .ok (.iload_n 3, 1) := by decide +kernel
theorem dL_law_556 : decode cL_law 556 = .ok (.iconst 1, 1) := by decide +kernel
theorem dL_law_557 : decode cL_law 557 = .ok (.iadd, 1) := by decide +kernel
theorem dL_law_558 : decode cL_law 558 = .ok (.iaload, 1) := by decide +kernel
theorem dL_law_559 : decode cL_law 559 = .ok (.invokevirtual 71, 3) := by decide +kernel
theorem dL_law_562 : decode cL_law 562 = .ok (.aload_n 2, 1) := by decide +kernel
theorem dL_law_563 : decode cL_law 563 = .ok (.aload_n 0, 1) := by decide +kernel
theorem dL_law_564 : decode cL_law 564 = .ok (.iload_n 3, 1) := by decide +kernel
theorem dL_law_565 : decode cL_law 565 = .ok (.iconst 1, 1) := by decide +kernel
theorem dL_law_566 : decode cL_law 566 = .ok (.iadd, 1) := by decide +kernel
theorem dL_law_567 : decode cL_law 567 = .ok (.iaload, 1) := by decide +kernel
theorem dL_law_568 : decode cL_law 568 = .ok (.invokevirtual 74, 3) := by decide +kernel
theorem dL_law_571 : decode cL_law 571 = .ok (.if_icmp .eq 18, 3) := by decide +kernel
theorem dL_law_574 : decode cL_law 574 = .ok (.iconst 0, 1) := by decide +kernel
theorem dL_law_575 : decode cL_law 575 = .ok (.ireturn, 1) := by decide +kernel
theorem dL_law_576 : decode cL_law 576 = .ok (.aload_n 1, 1) := by decide +kernel
theorem dL_law_577 : decode cL_law 577 = .ok (.invokevirtual 75, 3) := by decide +kernel
theorem dL_law_580 : decode cL_law 580 = .ok (.aload_n 2, 1) := by decide +kernel
theorem dL_law_581 : decode cL_law 581 = .ok (.invokevirtual 78, 3) := by decide +kernel
theorem dL_law_584 : decode cL_law 584 = .ok (.if_icmp .eq 5, 3) := by decide +kernel
theorem dL_law_587 : decode cL_law 587 = .ok (.iconst 0, 1) := by decide +kernel
theorem dL_law_588 : decode cL_law 588 = .ok (.ireturn, 1) := by decide +kernel
theorem dL_law_589 : decode cL_law 589 = .ok (.iinc 3 6, 3) := by decide +kernel
theorem dL_law_592 : decode cL_law 592 = .ok (.goto (-574), 3) := by decide +kernel
theorem dL_law_595 : decode cL_law 595 = .ok (.iconst 1, 1) := by decide +kernel
theorem dL_law_596 : decode cL_law 596 = .ok (.ireturn, 1) := by decide +kernel
