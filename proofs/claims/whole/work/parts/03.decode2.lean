theorem dX3_init_44 : decode cX3_init 44 = .ok (.dup, 1) := by decide +kernel
theorem dX3_init_45 : decode cX3_init 45 = .ok (.sipush 2048, 3) := by decide +kernel
theorem dX3_init_48 : decode cX3_init 48 = .ok (.invokespecial 25, 3) := by decide +kernel
theorem dX3_init_51 : decode cX3_init 51 = .ok (.putfield 32, 3) := by decide +kernel
theorem dX3_init_54 : decode cX3_init 54 = .ok (.aload_n 0, 1) := by decide +kernel
theorem dX3_init_55 : decode cX3_init 55 = .ok (.new 23, 3) := by decide +kernel
theorem dX3_init_58 : decode cX3_init 58 = .ok (.dup, 1) := by decide +kernel
theorem dX3_init_59 : decode cX3_init 59 = .ok (.sipush 2048, 3) := by decide +kernel
theorem dX3_init_62 : decode cX3_init 62 = .ok (.invokespecial 25, 3) := by decide +kernel
theorem dX3_init_65 : decode cX3_init 65 = .ok (.putfield 35, 3) := by decide +kernel
theorem dX3_init_68 : decode cX3_init 68 = .ok (.aload_n 0, 1) := by decide +kernel
theorem dX3_init_69 : decode cX3_init 69 = .ok (.new 23, 3) := by decide +kernel
theorem dX3_init_72 : decode cX3_init 72 = .ok (.dup, 1) := by decide +kernel
theorem dX3_init_73 : decode cX3_init 73 = .ok (.iconst 2, 1) := by decide +kernel
theorem dX3_init_74 : decode cX3_init 74 = .ok (.invokespecial 25, 3) := by decide +kernel
theorem dX3_init_77 : decode cX3_init 77 = .ok (.putfield 38, 3) := by decide +kernel
theorem dX3_init_80 : decode cX3_init 80 = .ok (.aload_n 0, 1) := by decide +kernel
theorem dX3_init_81 : decode cX3_init 81 = .ok (.lconst 0, 1) := by decide +kernel
theorem dX3_init_82 : decode cX3_init 82 = .ok (.putfield 41, 3) := by decide +kernel
theorem dX3_init_85 : decode cX3_init 85 = .ok (.return_, 1) := by decide +kernel
theorem dX3_type_0 : decode cX3_type 0 = .ok (.aload_n 0, 1) := by decide +kernel
theorem dX3_type_1 : decode cX3_type 1 = .ok (.getfield 10, 3) := by decide +kernel
theorem dX3_type_4 : decode cX3_type 4 = .ok (.lload_n 1, 1) := by decide +kernel
theorem dX3_type_5 : decode cX3_type 5 = .ok (.invokevirtual 45, 3) := by decide +kernel
theorem dX3_type_8 : decode cX3_type 8 = .ok (.ireturn, 1) := by decide +kernel
theorem dX3_repeat_0 : decode cX3_repeat 0 = .ok (.aload_n 0, 1) := by decide +kernel
theorem dX3_repeat_1 : decode cX3_repeat 1 = .ok (.getfield 10, 3) := by decide +kernel
theorem dX3_repeat_4 : decode cX3_repeat 4 = .ok (.iload_n 1, 1) := by decide +kernel
theorem dX3_repeat_5 : decode cX3_repeat 5 = .ok (.iload_n 2, 1) := by decide +kernel
theorem dX3_repeat_6 : decode cX3_repeat 6 = .ok (.invokevirtual 49, 3) := by decide +kernel
theorem dX3_repeat_9 : decode cX3_repeat 9 = .ok (.ireturn, 1) := by decide +kernel
theorem dX3_read_0 : decode cX3_read 0 = .ok (.iload_n 1, 1) := by decide +kernel
theorem dX3_read_1 : decode cX3_read 1 = .ok (.invokestatic 53, 3) := by decide +kernel
theorem dX3_read_4 : decode cX3_read 4 = .ok (.ifCond .ne 6, 3) := by decide +kernel
theorem dX3_read_7 : decode cX3_read 7 = .ok (.bipush (-3), 2) := by decide +kernel
theorem dX3_read_9 : decode cX3_read 9 = .ok (.ireturn, 1) := by decide +kernel
theorem dX3_read_10 : decode cX3_read 10 = .ok (.aload_n 0, 1) := by decide +kernel
theorem dX3_read_11 : decode cX3_read 11 = .ok (.iload_n 1, 1) := by decide +kernel
theorem dX3_read_12 : decode cX3_read 12 = .ok (.invokevirtual 57, 3) := by decide +kernel
theorem dX3_read_15 : decode cX3_read 15 = .ok (.istore_n 2, 1) := by decide +kernel
theorem dX3_read_16 : decode cX3_read 16 = .ok (.aload_n 0, 1) := by decide +kernel
theorem dX3_read_17 : decode cX3_read 17 = .ok (.getfield 10, 3) := by decide +kernel
theorem dX3_read_20 : decode cX3_read 20 = .ok (.invokevirtual 61, 3) := by decide +kernel
theorem dX3_read_23 : decode cX3_read 23 = .ok (.iload_n 2, 1) := by decide +kernel
theorem dX3_read_24 : decode cX3_read 24 = .ok (.ireturn, 1) := by decide +kernel
theorem dX3_write_0 : decode cX3_write 0 = .ok (.iload_n 1, 1) := by decide +kernel
theorem dX3_write_1 : decode cX3_write 1 = .ok (.invokestatic 53, 3) := by decide +kernel
theorem dX3_write_4 : decode cX3_write 4 = .ok (.ifCond .ne 5, 3) := by decide +kernel
theorem dX3_write_7 : decode cX3_write 7 = .ok (.iconst (-1), 1) := by decide +kernel
theorem dX3_write_8 : decode cX3_write 8 = .ok (.ireturn, 1) := by decide +kernel
theorem dX3_write_9 : decode cX3_write 9 = .ok (.aload_n 0, 1) := by decide +kernel
theorem dX3_write_10 : decode cX3_write 10 = .ok (.getfield 32, 3) := by decide +kernel
theorem dX3_write_13 : decode cX3_write 13 = .ok (.aload_n 0, 1) := by decide +kernel
theorem dX3_write_14 : decode cX3_write 14 = .ok (.getfield 28, 3) := by decide +kernel
theorem dX3_write_17 : decode cX3_write 17 = .ok (.invokevirtual 64, 3) := by decide +kernel
theorem dX3_write_20 : decode cX3_write 20 = .ok (.aload_n 0, 1) := by decide +kernel
theorem dX3_write_21 : decode cX3_write 21 = .ok (.getfield 19, 3) := by decide +kernel
theorem dX3_write_24 : decode cX3_write 24 = .ok (.aload_n 0, 1) := by decide +kernel
theorem dX3_write_25 : decode cX3_write 25 = .ok (.getfield 32, 3) := by decide +kernel
theorem dX3_write_28 : decode cX3_write 28 = .ok (.iload_n 1, 1) := by decide +kernel
theorem dX3_write_29 : decode cX3_write 29 = .ok (.invokevirtual 68, 3) := by decide +kernel
theorem dX3_write_32 : decode cX3_write 32 = .ok (.aload_n 0, 1) := by decide +kernel
theorem dX3_write_33 : decode cX3_write 33 = .ok (.getfield 19, 3) := by decide +kernel
theorem dX3_write_36 : decode cX3_write 36 = .ok (.invokevirtual 72, 3) := by decide +kernel
theorem dX3_write_39 : decode cX3_write 39 = .ok (.ireturn, 1) := by decide +kernel
theorem dX3_push_0 : decode cX3_push 0 = .ok (.aload_n 0, 1) := by decide +kernel
theorem dX3_push_1 : decode cX3_push 1 = .ok (.getfield 28, 3) := by decide +kernel
theorem dX3_push_4 : decode cX3_push 4 = .ok (.lload_n 1, 1) := by decide +kernel
theorem dX3_push_5 : decode cX3_push 5 = .ok (.invokevirtual 76, 3) := by decide +kernel
theorem dX3_push_8 : decode cX3_push 8 = .ok (.ireturn, 1) := by decide +kernel
theorem dX3_power_0 : decode cX3_power 0 = .ok (.iload_n 1, 1) := by decide +kernel
theorem dX3_power_1 : decode cX3_power 1 = .ok (.ifCond .lt 16, 3) := by decide +kernel
theorem dX3_power_4 : decode cX3_power 4 = .ok (.iload_n 2, 1) := by decide +kernel
theorem dX3_power_5 : decode cX3_power 5 = .ok (.ifCond .lt 12, 3) := by decide +kernel
theorem dX3_power_8 : decode cX3_power 8 = .ok (.aload_n 0, 1) := by decide +kernel
theorem dX3_power_9 : decode cX3_power 9 = .ok (.iload_n 1, 1) := by decide +kernel
theorem dX3_power_10 : decode cX3_power 10 = .ok (.iload_n 2, 1) := by decide +kernel
theorem dX3_power_11 : decode cX3_power 11 = .ok (.invokevirtual 79, 3) := by decide +kernel
theorem dX3_power_14 : decode cX3_power 14 = .ok (.ifCond .ne 5, 3) := by decide +kernel
theorem dX3_power_17 : decode cX3_power 17 = .ok (.iconst 0, 1) := by decide +kernel
theorem dX3_power_18 : decode cX3_power 18 = .ok (.ireturn, 1) := by decide +kernel
theorem dX3_power_19 : decode cX3_power 19 = .ok (.aload_n 0, 1) := by decide +kernel
theorem dX3_power_20 : decode cX3_power 20 = .ok (.getfield 28, 3) := by decide +kernel
theorem dX3_power_23 : decode cX3_power 23 = .ok (.aload_n 0, 1) := by decide +kernel
theorem dX3_power_24 : decode cX3_power 24 = .ok (.getfield 32, 3) := by decide +kernel
theorem dX3_power_27 : decode cX3_power 27 = .ok (.invokevirtual 64, 3) := by decide +kernel
theorem dX3_power_30 : decode cX3_power 30 = .ok (.iconst 1, 1) := by decide +kernel
theorem dX3_power_31 : decode cX3_power 31 = .ok (.ireturn, 1) := by decide +kernel
theorem dX3_add_0 : decode cX3_add 0 = .ok (.iload_n 1, 1) := by decide +kernel
theorem dX3_add_1 : decode cX3_add 1 = .ok (.ifCond .ge 16, 3) := by decide +kernel
theorem dX3_add_4 : decode cX3_add 4 = .ok (.aload_n 0, 1) := by decide +kernel
theorem dX3_add_5 : decode cX3_add 5 = .ok (.getfield 28, 3) := by decide +kernel
theorem dX3_add_8 : decode cX3_add 8 = .ok (.iload_n 1, 1) := by decide +kernel
theorem dX3_add_9 : decode cX3_add 9 = .ok (.i2l, 1) := by decide +kernel
theorem dX3_add_10 : decode cX3_add 10 = .ok (.lneg, 1) := by decide +kernel
theorem dX3_add_11 : decode cX3_add 11 = .ok (.invokevirtual 82, 3) := by decide +kernel
theorem dX3_add_14 : decode cX3_add 14 = .ok (.goto 12, 3) := by decide +kernel
theorem dX3_add_17 : decode cX3_add 17 = .ok (.aload_n 0, 1) := by decide +kernel
theorem dX3_add_18 : decode cX3_add 18 = .ok (.getfield 28, 3) := by decide +kernel
theorem dX3_add_21 : decode cX3_add 21 = .ok (.iload_n 1, 1) := by decide +kernel
theorem dX3_add_22 : decode cX3_add 22 = .ok (.i2l, 1) := by decide +kernel
theorem dX3_add_23 : decode cX3_add 23 = .ok (.invokevirtual 85, 3) := by decide +kernel
theorem dX3_add_26 : decode cX3_add 26 = .ok (.ireturn, 1) := by decide +kernel
theorem dX3_show_0 : decode cX3_show 0 = .ok (.iload_n 3, 1) := by decide +kernel
theorem dX3_show_1 : decode cX3_show 1 = .ok (.invokestatic 88, 3) := by decide +kernel
theorem dX3_show_4 : decode cX3_show 4 = .ok (.ifCond .eq 11, 3) := by decide +kernel
theorem dX3_show_7 : decode cX3_show 7 = .ok (.iload 4, 2) := by decide +kernel
theorem dX3_show_9 : decode cX3_show 9 = .ok (.invokestatic 53, 3) := by decide +kernel
theorem dX3_show_12 : decode cX3_show 12 = .ok (.ifCond .ne 5, 3) := by decide +kernel
theorem dX3_show_15 : decode cX3_show 15 = .ok (.iconst (-1), 1) := by decide +kernel
theorem dX3_show_16 : decode cX3_show 16 = .ok (.ireturn, 1) := by decide +kernel
theorem dX3_show_17 : decode cX3_show 17 = .ok (.lload_n 1, 1) := by decide +kernel
theorem dX3_show_18 : decode cX3_show 18 = .ok (.lstore 6, 2) := by decide +kernel
theorem dX3_show_20 : decode cX3_show 20 = .ok (.iload_n 3, 1) := by decide +kernel
theorem dX3_show_21 : decode cX3_show 21 = .ok (.bipush 32, 2) := by decide +kernel
theorem dX3_show_23 : decode cX3_show 23 = .ok (.if_icmp .ne 21, 3) := by decide +kernel
theorem dX3_show_26 : decode cX3_show 26 = .ok (.iload 5, 2) := by decide +kernel
theorem dX3_show_28 : decode cX3_show 28 = .ok (.ifCond .eq 9, 3) := by decide +kernel
theorem dX3_show_31 : decode cX3_show 31 = .ok (.lload_n 1, 1) := by decide +kernel
theorem dX3_show_32 : decode cX3_show 32 = .ok (.l2i, 1) := by decide +kernel
theorem dX3_show_33 : decode cX3_show 33 = .ok (.i2l, 1) := by decide +kernel
theorem dX3_show_34 : decode cX3_show 34 = .ok (.goto 8, 3) := by decide +kernel
theorem dX3_show_37 : decode cX3_show 37 = .ok (.lload_n 1, 1) := by decide +kernel
theorem dX3_show_38 : decode cX3_show 38 = .ok (.ldc2_w 91, 3) := by decide +kernel
theorem dX3_show_41 : decode cX3_show 41 = .ok (.land, 1) := by decide +kernel
theorem dX3_show_42 : decode cX3_show 42 = .ok (.lstore 6, 2) := by decide +kernel
theorem dX3_show_44 : decode cX3_show 44 = .ok (.iload 5, 2) := by decide +kernel
theorem dX3_show_46 : decode cX3_show 46 = .ok (.ifCond .eq 14, 3) := by decide +kernel
theorem dX3_show_49 : decode cX3_show 49 = .ok (.lload 6, 2) := by decide +kernel
theorem dX3_show_51 : decode cX3_show 51 = .ok (.lconst 0, 1) := by decide +kernel
theorem dX3_show_52 : decode cX3_show 52 = .ok (.lcmp, 1) := by decide +kernel
theorem dX3_show_53 : decode cX3_show 53 = .ok (.ifCond .ge 7, 3) := by decide +kernel
theorem dX3_show_56 : decode cX3_show 56 = .ok (.iconst 1, 1) := by decide +kernel
theorem dX3_show_57 : decode cX3_show 57 = .ok (.goto 4, 3) := by decide +kernel
theorem dX3_show_60 : decode cX3_show 60 = .ok (.iconst 0, 1) := by decide +kernel
theorem dX3_show_61 : decode cX3_show 61 = .ok (.istore 8, 2) := by decide +kernel
theorem dX3_show_63 : decode cX3_show 63 = .ok (.aload_n 0, 1) := by decide +kernel
theorem dX3_show_64 : decode cX3_show 64 = .ok (.getfield 38, 3) := by decide +kernel
theorem dX3_show_67 : decode cX3_show 67 = .ok (.iload 8, 2) := by decide +kernel
theorem dX3_show_69 : decode cX3_show 69 = .ok (.ifCond .eq 9, 3) := by decide +kernel
theorem dX3_show_72 : decode cX3_show 72 = .ok (.lload 6, 2) := by decide +kernel
theorem dX3_show_74 : decode cX3_show 74 = .ok (.lneg, 1) := by decide +kernel
theorem dX3_show_75 : decode cX3_show 75 = .ok (.goto 5, 3) := by decide +kernel
theorem dX3_show_78 : decode cX3_show 78 = .ok (.lload 6, 2) := by decide +kernel
theorem dX3_show_80 : decode cX3_show 80 = .ok (.invokevirtual 93, 3) := by decide +kernel
theorem dX3_show_83 : decode cX3_show 83 = .ok (.aload_n 0, 1) := by decide +kernel
theorem dX3_show_84 : decode cX3_show 84 = .ok (.getfield 19, 3) := by decide +kernel
theorem dX3_show_87 : decode cX3_show 87 = .ok (.aload_n 0, 1) := by decide +kernel
theorem dX3_show_88 : decode cX3_show 88 = .ok (.getfield 38, 3) := by decide +kernel
theorem dX3_show_91 : decode cX3_show 91 = .ok (.iload 4, 2) := by decide +kernel
theorem dX3_show_93 : decode cX3_show 93 = .ok (.invokevirtual 68, 3) := by decide +kernel
theorem dX3_show_96 : decode cX3_show 96 = .ok (.iload 8, 2) := by decide +kernel
theorem dX3_show_98 : decode cX3_show 98 = .ok (.ifCond .eq 12, 3) := by decide +kernel
theorem dX3_show_101 : decode cX3_show 101 = .ok (.aload_n 0, 1) := by decide +kernel
theorem dX3_show_102 : decode cX3_show 102 = .ok (.getfield 19, 3) := by decide +kernel
theorem dX3_show_105 : decode cX3_show 105 = .ok (.bipush 45, 2) := by decide +kernel
theorem dX3_show_107 : decode cX3_show 107 = .ok (.invokevirtual 97, 3) := by decide +kernel
theorem dX3_show_110 : decode cX3_show 110 = .ok (.aload_n 0, 1) := by decide +kernel
theorem dX3_show_111 : decode cX3_show 111 = .ok (.getfield 19, 3) := by decide +kernel
theorem dX3_show_114 : decode cX3_show 114 = .ok (.invokevirtual 72, 3) := by decide +kernel
theorem dX3_show_117 : decode cX3_show 117 = .ok (.ireturn, 1) := by decide +kernel
theorem dX3_parse_0 : decode cX3_parse 0 = .ok (.iload_n 1, 1) := by decide +kernel
theorem dX3_parse_1 : decode cX3_parse 1 = .ok (.invokestatic 88, 3) := by decide +kernel
theorem dX3_parse_4 : decode cX3_parse 4 = .ok (.ifCond .eq 10, 3) := by decide +kernel
theorem dX3_parse_7 : decode cX3_parse 7 = .ok (.iload_n 2, 1) := by decide +kernel
theorem dX3_parse_8 : decode cX3_parse 8 = .ok (.invokestatic 53, 3) := by decide +kernel
theorem dX3_parse_11 : decode cX3_parse 11 = .ok (.ifCond .ne 5, 3) := by decide +kernel
theorem dX3_parse_14 : decode cX3_parse 14 = .ok (.iconst 3, 1) := by decide +kernel
theorem dX3_parse_15 : decode cX3_parse 15 = .ok (.ireturn, 1) := by decide +kernel
theorem dX3_parse_16 : decode cX3_parse 16 = .ok (.aload_n 0, 1) := by decide +kernel
theorem dX3_parse_17 : decode cX3_parse 17 = .ok (.iload_n 1, 1) := by decide +kernel
theorem dX3_parse_18 : decode cX3_parse 18 = .ok (.iload_n 2, 1) := by decide +kernel
theorem dX3_parse_19 : decode cX3_parse 19 = .ok (.iload_n 3, 1) := by decide +kernel
theorem dX3_parse_20 : decode cX3_parse 20 = .ok (.invokevirtual 100, 3) := by decide +kernel
theorem dX3_parse_23 : decode cX3_parse 23 = .ok (.istore 4, 2) := by decide +kernel
theorem dX3_parse_25 : decode cX3_parse 25 = .ok (.aload_n 0, 1) := by decide +kernel
theorem dX3_parse_26 : decode cX3_parse 26 = .ok (.getfield 10, 3) := by decide +kernel
theorem dX3_parse_29 : decode cX3_parse 29 = .ok (.invokevirtual 61, 3) := by decide +kernel
theorem dX3_parse_32 : decode cX3_parse 32 = .ok (.iload 4, 2) := by decide +kernel
theorem dX3_parse_34 : decode cX3_parse 34 = .ok (.ireturn, 1) := by decide +kernel
theorem dX3_value_0 : decode cX3_value 0 = .ok (.aload_n 0, 1) := by decide +kernel
theorem dX3_value_1 : decode cX3_value 1 = .ok (.getfield 41, 3) := by decide +kernel
theorem dX3_value_4 : decode cX3_value 4 = .ok (.lreturn, 1) := by decide +kernel
theorem dX3_word_0 : decode cX3_word 0 = .ok (.aload_n 0, 1) := by decide +kernel
theorem dX3_word_1 : decode cX3_word 1 = .ok (.getfield 28, 3) := by decide +kernel
theorem dX3_word_4 : decode cX3_word 4 = .ok (.iload_n 1, 1) := by decide +kernel
theorem dX3_word_5 : decode cX3_word 5 = .ok (.invokevirtual 104, 3) := by decide +kernel
theorem dX3_word_8 : decode cX3_word 8 = .ok (.ireturn, 1) := by decide +kernel
theorem dX3_bits_0 : decode cX3_bits 0 = .ok (.aload_n 0, 1) := by decide +kernel
theorem dX3_bits_1 : decode cX3_bits 1 = .ok (.getfield 28, 3) := by decide +kernel
theorem dX3_bits_4 : decode cX3_bits 4 = .ok (.invokevirtual 107, 3) := by decide +kernel
theorem dX3_bits_7 : decode cX3_bits 7 = .ok (.ireturn, 1) := by decide +kernel
theorem dX3_characterAt_0 : decode cX3_characterAt 0 = .ok (.aload_n 0, 1) := by decide +kernel
theorem dX3_characterAt_1 : decode cX3_characterAt 1 = .ok (.getfield 19, 3) := by decide +kernel
theorem dX3_characterAt_4 : decode cX3_characterAt 4 = .ok (.iload_n 1, 1) := by decide +kernel
theorem dX3_characterAt_5 : decode cX3_characterAt 5 = .ok (.invokevirtual 110, 3) := by decide +kernel
theorem dX3_characterAt_8 : decode cX3_characterAt 8 = .ok (.ireturn, 1) := by decide +kernel
theorem dX3_typed_0 : decode cX3_typed 0 = .ok (.aload_n 0, 1) := by decide +kernel
theorem dX3_typed_1 : decode cX3_typed 1 = .ok (.getfield 10, 3) := by decide +kernel
theorem dX3_typed_4 : decode cX3_typed 4 = .ok (.invokevirtual 113, 3) := by decide +kernel
theorem dX3_typed_7 : decode cX3_typed 7 = .ok (.ireturn, 1) := by decide +kernel
theorem dX3_readNumber_0 : decode cX3_readNumber 0 = .ok (.aload_n 0, 1) := by decide +kernel
theorem dX3_readNumber_1 : decode cX3_readNumber 1 = .ok (.getfield 10, 3) := by decide +kernel
theorem dX3_readNumber_4 : decode cX3_readNumber 4 = .ok (.iconst 0, 1) := by decide +kernel
theorem dX3_readNumber_5 : decode cX3_readNumber 5 = .ok (.iload_n 1, 1) := by decide +kernel
theorem dX3_readNumber_6 : decode cX3_readNumber 6 = .ok (.invokevirtual 114, 3) := by decide +kernel
theorem dX3_readNumber_9 : decode cX3_readNumber 9 = .ok (.istore_n 2, 1) := by decide +kernel
theorem dX3_readNumber_10 : decode cX3_readNumber 10 = .ok (.aload_n 0, 1) := by decide +kernel
theorem dX3_readNumber_11 : decode cX3_readNumber 11 = .ok (.getfield 10, 3) := by decide +kernel
theorem dX3_readNumber_14 : decode cX3_readNumber 14 = .ok (.invokevirtual 113, 3) := by decide +kernel
theorem dX3_readNumber_17 : decode cX3_readNumber 17 = .ok (.ifCond .eq 14, 3) := by decide +kernel
theorem dX3_readNumber_20 : decode cX3_readNumber 20 = .ok (.iload_n 2, 1) := by decide +kernel
theorem dX3_readNumber_21 : decode cX3_readNumber 21 = .ok (.aload_n 0, 1) := by decide +kernel
theorem dX3_readNumber_22 : decode cX3_readNumber 22 = .ok (.getfield 10, 3) := by decide +kernel
theorem dX3_readNumber_25 : decode cX3_readNumber 25 = .ok (.invokevirtual 113, 3) := by decide +kernel
theorem dX3_readNumber_28 : decode cX3_readNumber 28 = .ok (.if_icmp .ge 5, 3) := by decide +kernel
theorem dX3_readNumber_31 : decode cX3_readNumber 31 = .ok (.iload_n 2, 1) := by decide +kernel
theorem dX3_readNumber_32 : decode cX3_readNumber 32 = .ok (.ireturn, 1) := by decide +kernel
theorem dX3_readNumber_33 : decode cX3_readNumber 33 = .ok (.aload_n 0, 1) := by decide +kernel
theorem dX3_readNumber_34 : decode cX3_readNumber 34 = .ok (.getfield 32, 3) := by decide +kernel
theorem dX3_readNumber_37 : decode cX3_readNumber 37 = .ok (.aload_n 0, 1) := by decide +kernel
theorem dX3_readNumber_38 : decode cX3_readNumber 38 = .ok (.getfield 10, 3) := by decide +kernel
theorem dX3_readNumber_41 : decode cX3_readNumber 41 = .ok (.iconst 0, 1) := by decide +kernel
theorem dX3_readNumber_42 : decode cX3_readNumber 42 = .ok (.iload_n 1, 1) := by decide +kernel
theorem dX3_readNumber_43 : decode cX3_readNumber 43 = .ok (.invokevirtual 118, 3) := by decide +kernel
theorem dX3_readNumber_46 : decode cX3_readNumber 46 = .ok (.ifCond .ne 6, 3) := by decide +kernel
theorem dX3_readNumber_49 : decode cX3_readNumber 49 = .ok (.bipush (-2), 2) := by decide +kernel
theorem dX3_readNumber_51 : decode cX3_readNumber 51 = .ok (.ireturn, 1) := by decide +kernel
theorem dX3_readNumber_52 : decode cX3_readNumber 52 = .ok (.aload_n 0, 1) := by decide +kernel
theorem dX3_readNumber_53 : decode cX3_readNumber 53 = .ok (.getfield 28, 3) := by decide +kernel
theorem dX3_readNumber_56 : decode cX3_readNumber 56 = .ok (.aload_n 0, 1) := by decide +kernel
theorem dX3_readNumber_57 : decode cX3_readNumber 57 = .ok (.getfield 32, 3) := by decide +kernel
theorem dX3_readNumber_60 : decode cX3_readNumber 60 = .ok (.invokevirtual 64, 3) := by decide +kernel
theorem dX3_readNumber_63 : decode cX3_readNumber 63 = .ok (.iconst (-1), 1) := by decide +kernel
theorem dX3_readNumber_64 : decode cX3_readNumber 64 = .ok (.ireturn, 1) := by decide +kernel
theorem dX3_parseValue_0 : decode cX3_parseValue 0 = .ok (.aload_n 0, 1) := by decide +kernel
theorem dX3_parseValue_1 : decode cX3_parseValue 1 = .ok (.getfield 10, 3) := by decide +kernel
theorem dX3_parseValue_4 : decode cX3_parseValue 4 = .ok (.iconst 0, 1) := by decide +kernel
theorem dX3_parseValue_5 : decode cX3_parseValue 5 = .ok (.invokevirtual 121, 3) := by decide +kernel
theorem dX3_parseValue_8 : decode cX3_parseValue 8 = .ok (.istore 4, 2) := by decide +kernel
theorem dX3_parseValue_10 : decode cX3_parseValue 10 = .ok (.iload_n 3, 1) := by decide +kernel
theorem dX3_parseValue_11 : decode cX3_parseValue 11 = .ok (.ifCond .eq 14, 3) := by decide +kernel
theorem dX3_parseValue_14 : decode cX3_parseValue 14 = .ok (.iload 4, 2) := by decide +kernel
theorem dX3_parseValue_16 : decode cX3_parseValue 16 = .ok (.bipush 45, 2) := by decide +kernel
theorem dX3_parseValue_18 : decode cX3_parseValue 18 = .ok (.if_icmp .ne 7, 3) := by decide +kernel
theorem dX3_parseValue_21 : decode cX3_parseValue 21 = .ok (.iconst 1, 1) := by decide +kernel
theorem dX3_parseValue_22 : decode cX3_parseValue 22 = .ok (.goto 4, 3) := by decide +kernel
theorem dX3_parseValue_25 : decode cX3_parseValue 25 = .ok (.iconst 0, 1) := by decide +kernel
theorem dX3_parseValue_26 : decode cX3_parseValue 26 = .ok (.istore 5, 2) := by decide +kernel
theorem dX3_parseValue_28 : decode cX3_parseValue 28 = .ok (.iload 5, 2) := by decide +kernel
theorem dX3_parseValue_30 : decode cX3_parseValue 30 = .ok (.ifCond .ne 10, 3) := by decide +kernel
theorem dX3_parseValue_33 : decode cX3_parseValue 33 = .ok (.iload 4, 2) := by decide +kernel
theorem dX3_parseValue_35 : decode cX3_parseValue 35 = .ok (.bipush 43, 2) := by decide +kernel
theorem dX3_parseValue_37 : decode cX3_parseValue 37 = .ok (.if_icmp .ne 7, 3) := by decide +kernel
theorem dX3_parseValue_40 : decode cX3_parseValue 40 = .ok (.iconst 1, 1) := by decide +kernel
theorem dX3_parseValue_41 : decode cX3_parseValue 41 = .ok (.goto 4, 3) := by decide +kernel
theorem dX3_parseValue_44 : decode cX3_parseValue 44 = .ok (.iconst 0, 1) := by decide +kernel
theorem dX3_parseValue_45 : decode cX3_parseValue 45 = .ok (.istore 6, 2) := by decide +kernel
theorem dX3_parseValue_47 : decode cX3_parseValue 47 = .ok (.iload 6, 2) := by decide +kernel
theorem dX3_parseValue_49 : decode cX3_parseValue 49 = .ok (.aload_n 0, 1) := by decide +kernel
theorem dX3_parseValue_50 : decode cX3_parseValue 50 = .ok (.getfield 10, 3) := by decide +kernel
theorem dX3_parseValue_53 : decode cX3_parseValue 53 = .ok (.invokevirtual 113, 3) := by decide +kernel
theorem dX3_parseValue_56 : decode cX3_parseValue 56 = .ok (.if_icmp .ge 23, 3) := by decide +kernel
theorem dX3_parseValue_59 : decode cX3_parseValue 59 = .ok (.aload_n 0, 1) := by decide +kernel
theorem dX3_parseValue_60 : decode cX3_parseValue 60 = .ok (.getfield 10, 3) := by decide +kernel
theorem dX3_parseValue_63 : decode cX3_parseValue 63 = .ok (.iload 6, 2) := by decide +kernel
theorem dX3_parseValue_65 : decode cX3_parseValue 65 = .ok (.iload_n 2, 1) := by decide +kernel
theorem dX3_parseValue_66 : decode cX3_parseValue 66 = .ok (.invokevirtual 114, 3) := by decide +kernel
theorem dX3_parseValue_69 : decode cX3_parseValue 69 = .ok (.aload_n 0, 1) := by decide +kernel
theorem dX3_parseValue_70 : decode cX3_parseValue 70 = .ok (.getfield 10, 3) := by decide +kernel
theorem dX3_parseValue_73 : decode cX3_parseValue 73 = .ok (.invokevirtual 113, 3) := by decide +kernel
theorem dX3_parseValue_76 : decode cX3_parseValue 76 = .ok (.if_icmp .ge 5, 3) := by decide +kernel
theorem dX3_parseValue_79 : decode cX3_parseValue 79 = .ok (.iconst 1, 1) := by decide +kernel
theorem dX3_parseValue_80 : decode cX3_parseValue 80 = .ok (.ireturn, 1) := by decide +kernel
theorem dX3_parseValue_81 : decode cX3_parseValue 81 = .ok (.aload_n 0, 1) := by decide +kernel
theorem dX3_parseValue_82 : decode cX3_parseValue 82 = .ok (.getfield 38, 3) := by decide +kernel
theorem dX3_parseValue_85 : decode cX3_parseValue 85 = .ok (.aload_n 0, 1) := by decide +kernel
theorem dX3_parseValue_86 : decode cX3_parseValue 86 = .ok (.getfield 10, 3) := by decide +kernel
theorem dX3_parseValue_89 : decode cX3_parseValue 89 = .ok (.iload 6, 2) := by decide +kernel
theorem dX3_parseValue_91 : decode cX3_parseValue 91 = .ok (.iload_n 2, 1) := by decide +kernel
theorem dX3_parseValue_92 : decode cX3_parseValue 92 = .ok (.invokevirtual 118, 3) := by decide +kernel
theorem dX3_parseValue_95 : decode cX3_parseValue 95 = .ok (.ifCond .eq 14, 3) := by decide +kernel
theorem dX3_parseValue_98 : decode cX3_parseValue 98 = .ok (.aload_n 0, 1) := by decide +kernel
theorem dX3_parseValue_99 : decode cX3_parseValue 99 = .ok (.iload_n 1, 1) := by decide +kernel
theorem dX3_parseValue_100 : decode cX3_parseValue 100 = .ok (.iload_n 3, 1) := by decide +kernel
theorem dX3_parseValue_101 : decode cX3_parseValue 101 = .ok (.iload 5, 2) := by decide +kernel
theorem dX3_parseValue_103 : decode cX3_parseValue 103 = .ok (.invokevirtual 122, 3) := by decide +kernel
theorem dX3_parseValue_106 : decode cX3_parseValue 106 = .ok (.ifCond .ne 5, 3) := by decide +kernel
theorem dX3_parseValue_109 : decode cX3_parseValue 109 = .ok (.iconst 2, 1) := by decide +kernel
theorem dX3_parseValue_110 : decode cX3_parseValue 110 = .ok (.ireturn, 1) := by decide +kernel
theorem dX3_parseValue_111 : decode cX3_parseValue 111 = .ok (.aload_n 0, 1) := by decide +kernel
theorem dX3_parseValue_112 : decode cX3_parseValue 112 = .ok (.iload 5, 2) := by decide +kernel
theorem dX3_parseValue_114 : decode cX3_parseValue 114 = .ok (.ifCond .eq 14, 3) := by decide +kernel
theorem dX3_parseValue_117 : decode cX3_parseValue 117 = .ok (.aload_n 0, 1) := by decide +kernel
theorem dX3_parseValue_118 : decode cX3_parseValue 118 = .ok (.getfield 38, 3) := by decide +kernel
theorem dX3_parseValue_121 : decode cX3_parseValue 121 = .ok (.invokevirtual 126, 3) := by decide +kernel
theorem dX3_parseValue_124 : decode cX3_parseValue 124 = .ok (.lneg, 1) := by decide +kernel
theorem dX3_parseValue_125 : decode cX3_parseValue 125 = .ok (.goto 10, 3) := by decide +kernel
theorem dX3_parseValue_128 : decode cX3_parseValue 128 = .ok (.aload_n 0, 1) := by decide +kernel
theorem dX3_parseValue_129 : decode cX3_parseValue 129 = .ok (.getfield 38, 3) := by decide +kernel
theorem dX3_parseValue_132 : decode cX3_parseValue 132 = .ok (.invokevirtual 126, 3) := by decide +kernel
theorem dX3_parseValue_135 : decode cX3_parseValue 135 = .ok (.putfield 41, 3) := by decide +kernel
theorem dX3_parseValue_138 : decode cX3_parseValue 138 = .ok (.iconst 0, 1) := by decide +kernel
theorem dX3_parseValue_139 : decode cX3_parseValue 139 = .ok (.ireturn, 1) := by decide +kernel
theorem dX3_smallHasWidth_0 : decode cX3_smallHasWidth 0 = .ok (.aload_n 0, 1) := by decide +kernel
theorem dX3_smallHasWidth_1 : decode cX3_smallHasWidth 1 = .ok (.getfield 38, 3) := by decide +kernel
theorem dX3_smallHasWidth_4 : decode cX3_smallHasWidth 4 = .ok (.invokevirtual 107, 3) := by decide +kernel
theorem dX3_smallHasWidth_7 : decode cX3_smallHasWidth 7 = .ok (.iload_n 2, 1) := by decide +kernel
theorem dX3_smallHasWidth_8 : decode cX3_smallHasWidth 8 = .ok (.ifCond .eq 9, 3) := by decide +kernel
theorem dX3_smallHasWidth_11 : decode cX3_smallHasWidth 11 = .ok (.iload_n 1, 1) := by decide +kernel
theorem dX3_smallHasWidth_12 : decode cX3_smallHasWidth 12 = .ok (.iconst 1, 1) := by decide +kernel
theorem dX3_smallHasWidth_13 : decode cX3_smallHasWidth 13 = .ok (.isub, 1) := by decide +kernel
theorem dX3_smallHasWidth_14 : decode cX3_smallHasWidth 14 = .ok (.goto 4, 3) := by decide +kernel
theorem dX3_smallHasWidth_17 : decode cX3_smallHasWidth 17 = .ok (.iload_n 1, 1) := by decide +kernel
theorem dX3_smallHasWidth_18 : decode cX3_smallHasWidth 18 = .ok (.if_icmp .gt 5, 3) := by decide +kernel
theorem dX3_smallHasWidth_21 : decode cX3_smallHasWidth 21 = .ok (.iconst 1, 1) := by decide +kernel
theorem dX3_smallHasWidth_22 : decode cX3_smallHasWidth 22 = .ok (.ireturn, 1) := by decide +kernel
theorem dX3_smallHasWidth_23 : decode cX3_smallHasWidth 23 = .ok (.iload_n 3, 1) := by decide +kernel
theorem dX3_smallHasWidth_24 : decode cX3_smallHasWidth 24 = .ok (.ifCond .eq 23, 3) := by decide +kernel
theorem dX3_smallHasWidth_27 : decode cX3_smallHasWidth 27 = .ok (.aload_n 0, 1) := by decide +kernel
theorem dX3_smallHasWidth_28 : decode cX3_smallHasWidth 28 = .ok (.getfield 38, 3) := by decide +kernel
theorem dX3_smallHasWidth_31 : decode cX3_smallHasWidth 31 = .ok (.invokevirtual 126, 3) := by decide +kernel
theorem dX3_smallHasWidth_34 : decode cX3_smallHasWidth 34 = .ok (.lconst 1, 1) := by decide +kernel
theorem dX3_smallHasWidth_35 : decode cX3_smallHasWidth 35 = .ok (.iload_n 1, 1) := by decide +kernel
theorem dX3_smallHasWidth_36 : decode cX3_smallHasWidth 36 = .ok (.iconst 1, 1) := by decide +kernel
theorem dX3_smallHasWidth_37 : decode cX3_smallHasWidth 37 = .ok (.isub, 1) := by decide +kernel
theorem dX3_smallHasWidth_38 : decode cX3_smallHasWidth 38 = .ok (.lshl, 1) := by decide +kernel
theorem dX3_smallHasWidth_39 : decode cX3_smallHasWidth 39 = .ok (.lcmp, 1) := by decide +kernel
theorem dX3_smallHasWidth_40 : decode cX3_smallHasWidth 40 = .ok (.ifCond .ne 7, 3) := by decide +kernel
theorem dX3_smallHasWidth_43 : decode cX3_smallHasWidth 43 = .ok (.iconst 1, 1) := by decide +kernel
theorem dX3_smallHasWidth_44 : decode cX3_smallHasWidth 44 = .ok (.goto 4, 3) := by decide +kernel
theorem dX3_smallHasWidth_47 : decode cX3_smallHasWidth 47 = .ok (.iconst 0, 1) := by decide +kernel
theorem dX3_smallHasWidth_48 : decode cX3_smallHasWidth 48 = .ok (.ireturn, 1) := by decide +kernel
theorem dX3_raiseInSpare_0 : decode cX3_raiseInSpare 0 = .ok (.iload_n 1, 1) := by decide +kernel
theorem dX3_raiseInSpare_1 : decode cX3_raiseInSpare 1 = .ok (.ifCond .ne 21, 3) := by decide +kernel
theorem dX3_raiseInSpare_4 : decode cX3_raiseInSpare 4 = .ok (.aload_n 0, 1) := by decide +kernel
theorem dX3_raiseInSpare_5 : decode cX3_raiseInSpare 5 = .ok (.getfield 32, 3) := by decide +kernel
theorem dX3_raiseInSpare_8 : decode cX3_raiseInSpare 8 = .ok (.iload_n 2, 1) := by decide +kernel
theorem dX3_raiseInSpare_9 : decode cX3_raiseInSpare 9 = .ok (.ifCond .ne 7, 3) := by decide +kernel
theorem dX3_raiseInSpare_12 : decode cX3_raiseInSpare 12 = .ok (.lconst 1, 1) := by decide +kernel
theorem dX3_raiseInSpare_13 : decode cX3_raiseInSpare 13 = .ok (.goto 4, 3) := by decide +kernel
theorem dX3_raiseInSpare_16 : decode cX3_raiseInSpare 16 = .ok (.lconst 0, 1) := by decide +kernel
theorem dX3_raiseInSpare_17 : decode cX3_raiseInSpare 17 = .ok (.invokevirtual 93, 3) := by decide +kernel
theorem dX3_raiseInSpare_20 : decode cX3_raiseInSpare 20 = .ok (.iconst 1, 1) := by decide +kernel
theorem dX3_raiseInSpare_21 : decode cX3_raiseInSpare 21 = .ok (.ireturn, 1) := by decide +kernel
theorem dX3_raiseInSpare_22 : decode cX3_raiseInSpare 22 = .ok (.aload_n 0, 1) := by decide +kernel
theorem dX3_raiseInSpare_23 : decode cX3_raiseInSpare 23 = .ok (.getfield 32, 3) := by decide +kernel
theorem dX3_raiseInSpare_26 : decode cX3_raiseInSpare 26 = .ok (.lconst 1, 1) := by decide +kernel
theorem dX3_raiseInSpare_27 : decode cX3_raiseInSpare 27 = .ok (.invokevirtual 93, 3) := by decide +kernel
theorem dX3_raiseInSpare_30 : decode cX3_raiseInSpare 30 = .ok (.bipush 31, 2) := by decide +kernel
theorem dX3_raiseInSpare_32 : decode cX3_raiseInSpare 32 = .ok (.iload_n 2, 1) := by decide +kernel
theorem dX3_raiseInSpare_33 : decode cX3_raiseInSpare 33 = .ok (.invokestatic 130, 3) := by decide +kernel
theorem dX3_raiseInSpare_36 : decode cX3_raiseInSpare 36 = .ok (.isub, 1) := by decide +kernel
theorem dX3_raiseInSpare_37 : decode cX3_raiseInSpare 37 = .ok (.istore_n 3, 1) := by decide +kernel
theorem dX3_raiseInSpare_38 : decode cX3_raiseInSpare 38 = .ok (.iload_n 3, 1) := by decide +kernel
theorem dX3_raiseInSpare_39 : decode cX3_raiseInSpare 39 = .ok (.ifCond .lt 60, 3) := by decide +kernel
theorem dX3_raiseInSpare_42 : decode cX3_raiseInSpare 42 = .ok (.aload_n 0, 1) := by decide +kernel
theorem dX3_raiseInSpare_43 : decode cX3_raiseInSpare 43 = .ok (.getfield 35, 3) := by decide +kernel
theorem dX3_raiseInSpare_46 : decode cX3_raiseInSpare 46 = .ok (.aload_n 0, 1) := by decide +kernel
theorem dX3_raiseInSpare_47 : decode cX3_raiseInSpare 47 = .ok (.getfield 32, 3) := by decide +kernel
theorem dX3_raiseInSpare_50 : decode cX3_raiseInSpare 50 = .ok (.invokevirtual 135, 3) := by decide +kernel
theorem dX3_raiseInSpare_53 : decode cX3_raiseInSpare 53 = .ok (.ifCond .ne 5, 3) := by decide +kernel
theorem dX3_raiseInSpare_56 : decode cX3_raiseInSpare 56 = .ok (.iconst 0, 1) := by decide +kernel
theorem dX3_raiseInSpare_57 : decode cX3_raiseInSpare 57 = .ok (.ireturn, 1) := by decide +kernel
theorem dX3_raiseInSpare_58 : decode cX3_raiseInSpare 58 = .ok (.aload_n 0, 1) := by decide +kernel
theorem dX3_raiseInSpare_59 : decode cX3_raiseInSpare 59 = .ok (.getfield 32, 3) := by decide +kernel
theorem dX3_raiseInSpare_62 : decode cX3_raiseInSpare 62 = .ok (.aload_n 0, 1) := by decide +kernel
theorem dX3_raiseInSpare_63 : decode cX3_raiseInSpare 63 = .ok (.getfield 35, 3) := by decide +kernel
theorem dX3_raiseInSpare_66 : decode cX3_raiseInSpare 66 = .ok (.invokevirtual 64, 3) := by decide +kernel
theorem dX3_raiseInSpare_69 : decode cX3_raiseInSpare 69 = .ok (.iload_n 2, 1) := by decide +kernel
theorem dX3_raiseInSpare_70 : decode cX3_raiseInSpare 70 = .ok (.iload_n 3, 1) := by decide +kernel
theorem dX3_raiseInSpare_71 : decode cX3_raiseInSpare 71 = .ok (.iushr, 1) := by decide +kernel
theorem dX3_raiseInSpare_72 : decode cX3_raiseInSpare 72 = .ok (.iconst 1, 1) := by decide +kernel
theorem dX3_raiseInSpare_73 : decode cX3_raiseInSpare 73 = .ok (.iand, 1) := by decide +kernel
theorem dX3_raiseInSpare_74 : decode cX3_raiseInSpare 74 = .ok (.iconst 1, 1) := by decide +kernel
theorem dX3_raiseInSpare_75 : decode cX3_raiseInSpare 75 = .ok (.if_icmp .ne 18, 3) := by decide +kernel
theorem dX3_raiseInSpare_78 : decode cX3_raiseInSpare 78 = .ok (.aload_n 0, 1) := by decide +kernel
theorem dX3_raiseInSpare_79 : decode cX3_raiseInSpare 79 = .ok (.getfield 32, 3) := by decide +kernel
theorem dX3_raiseInSpare_82 : decode cX3_raiseInSpare 82 = .ok (.iload_n 1, 1) := by decide +kernel
theorem dX3_raiseInSpare_83 : decode cX3_raiseInSpare 83 = .ok (.i2l, 1) := by decide +kernel
theorem dX3_raiseInSpare_84 : decode cX3_raiseInSpare 84 = .ok (.lconst 0, 1) := by decide +kernel
theorem dX3_raiseInSpare_85 : decode cX3_raiseInSpare 85 = .ok (.invokevirtual 139, 3) := by decide +kernel
theorem dX3_raiseInSpare_88 : decode cX3_raiseInSpare 88 = .ok (.ifCond .ne 5, 3) := by decide +kernel
theorem dX3_raiseInSpare_91 : decode cX3_raiseInSpare 91 = .ok (.iconst 0, 1) := by decide +kernel
theorem dX3_raiseInSpare_92 : decode cX3_raiseInSpare 92 = .ok (.ireturn, 1) := by decide +kernel
theorem dX3_raiseInSpare_93 : decode cX3_raiseInSpare 93 = .ok (.iinc 3 (-1), 3) := by decide +kernel
theorem dX3_raiseInSpare_96 : decode cX3_raiseInSpare 96 = .ok (.goto (-58), 3) := by decide +kernel
theorem dX3_raiseInSpare_99 : decode cX3_raiseInSpare 99 = .ok (.iconst 1, 1) := by decide +kernel
theorem dX3_raiseInSpare_100 : decode cX3_raiseInSpare 100 = .ok (.ireturn, 1) := by decide +kernel
theorem dX3_isRadix_0 : decode cX3_isRadix 0 = .ok (.iload_n 0, 1) := by decide +kernel
theorem dX3_isRadix_1 : decode cX3_isRadix 1 = .ok (.iconst 2, 1) := by decide +kernel
theorem dX3_isRadix_2 : decode cX3_isRadix 2 = .ok (.if_icmp .lt 13, 3) := by decide +kernel
theorem dX3_isRadix_5 : decode cX3_isRadix 5 = .ok (.iload_n 0, 1) := by decide +kernel
theorem dX3_isRadix_6 : decode cX3_isRadix 6 = .ok (.bipush 36, 2) := by decide +kernel
theorem dX3_isRadix_8 : decode cX3_isRadix 8 = .ok (.if_icmp .gt 7, 3) := by decide +kernel
theorem dX3_isRadix_11 : decode cX3_isRadix 11 = .ok (.iconst 1, 1) := by decide +kernel
theorem dX3_isRadix_12 : decode cX3_isRadix 12 = .ok (.goto 4, 3) := by decide +kernel
theorem dX3_isRadix_15 : decode cX3_isRadix 15 = .ok (.iconst 0, 1) := by decide +kernel
theorem dX3_isRadix_16 : decode cX3_isRadix 16 = .ok (.ireturn, 1) := by decide +kernel
theorem dX3_isWidth_0 : decode cX3_isWidth 0 = .ok (.iload_n 0, 1) := by decide +kernel
theorem dX3_isWidth_1 : decode cX3_isWidth 1 = .ok (.bipush 32, 2) := by decide +kernel
theorem dX3_isWidth_3 : decode cX3_isWidth 3 = .ok (.if_icmp .eq 9, 3) := by decide +kernel
theorem dX3_isWidth_6 : decode cX3_isWidth 6 = .ok (.iload_n 0, 1) := by decide +kernel
theorem dX3_isWidth_7 : decode cX3_isWidth 7 = .ok (.bipush 64, 2) := by decide +kernel
theorem dX3_isWidth_9 : decode cX3_isWidth 9 = .ok (.if_icmp .ne 7, 3) := by decide +kernel
theorem dX3_isWidth_12 : decode cX3_isWidth 12 = .ok (.iconst 1, 1) := by decide +kernel
theorem dX3_isWidth_13 : decode cX3_isWidth 13 = .ok (.goto 4, 3) := by decide +kernel
theorem dX3_isWidth_16 : decode cX3_isWidth 16 = .ok (.iconst 0, 1) := by decide +kernel
theorem dX3_isWidth_17 : decode cX3_isWidth 17 = .ok (.ireturn, 1) := by decide +kernel
theorem dX3_digitOf_0 : decode cX3_digitOf 0 = .ok (.iload_n 0, 1) := by decide +kernel
theorem dX3_digitOf_1 : decode cX3_digitOf 1 = .ok (.bipush 48, 2) := by decide +kernel
theorem dX3_digitOf_3 : decode cX3_digitOf 3 = .ok (.if_icmp .lt 14, 3) := by decide +kernel
theorem dX3_digitOf_6 : decode cX3_digitOf 6 = .ok (.iload_n 0, 1) := by decide +kernel
theorem dX3_digitOf_7 : decode cX3_digitOf 7 = .ok (.bipush 57, 2) := by decide +kernel
theorem dX3_digitOf_9 : decode cX3_digitOf 9 = .ok (.if_icmp .gt 8, 3) := by decide +kernel
theorem dX3_digitOf_12 : decode cX3_digitOf 12 = .ok (.iload_n 0, 1) := by decide +kernel
theorem dX3_digitOf_13 : decode cX3_digitOf 13 = .ok (.bipush 48, 2) := by decide +kernel
theorem dX3_digitOf_15 : decode cX3_digitOf 15 = .ok (.isub, 1) := by decide +kernel
theorem dX3_digitOf_16 : decode cX3_digitOf 16 = .ok (.ireturn, 1) := by decide +kernel
theorem dX3_digitOf_17 : decode cX3_digitOf 17 = .ok (.iload_n 0, 1) := by decide +kernel
theorem dX3_digitOf_18 : decode cX3_digitOf 18 = .ok (.bipush 97, 2) := by decide +kernel
theorem dX3_digitOf_20 : decode cX3_digitOf 20 = .ok (.if_icmp .lt 17, 3) := by decide +kernel
theorem dX3_digitOf_23 : decode cX3_digitOf 23 = .ok (.iload_n 0, 1) := by decide +kernel
theorem dX3_digitOf_24 : decode cX3_digitOf 24 = .ok (.bipush 122, 2) := by decide +kernel
theorem dX3_digitOf_26 : decode cX3_digitOf 26 = .ok (.if_icmp .gt 11, 3) := by decide +kernel
theorem dX3_digitOf_29 : decode cX3_digitOf 29 = .ok (.iload_n 0, 1) := by decide +kernel
theorem dX3_digitOf_30 : decode cX3_digitOf 30 = .ok (.bipush 97, 2) := by decide +kernel
theorem dX3_digitOf_32 : decode cX3_digitOf 32 = .ok (.isub, 1) := by decide +kernel
theorem dX3_digitOf_33 : decode cX3_digitOf 33 = .ok (.bipush 10, 2) := by decide +kernel
theorem dX3_digitOf_35 : decode cX3_digitOf 35 = .ok (.iadd, 1) := by decide +kernel
theorem dX3_digitOf_36 : decode cX3_digitOf 36 = .ok (.ireturn, 1) := by decide +kernel
theorem dX3_digitOf_37 : decode cX3_digitOf 37 = .ok (.iload_n 0, 1) := by decide +kernel
theorem dX3_digitOf_38 : decode cX3_digitOf 38 = .ok (.bipush 65, 2) := by decide +kernel
theorem dX3_digitOf_40 : decode cX3_digitOf 40 = .ok (.if_icmp .lt 17, 3) := by decide +kernel
theorem dX3_digitOf_43 : decode cX3_digitOf 43 = .ok (.iload_n 0, 1) := by decide +kernel
theorem dX3_digitOf_44 : decode cX3_digitOf 44 = .ok (.bipush 90, 2) := by decide +kernel
theorem dX3_digitOf_46 : decode cX3_digitOf 46 = .ok (.if_icmp .gt 11, 3) := by decide +kernel
theorem dX3_digitOf_49 : decode cX3_digitOf 49 = .ok (.iload_n 0, 1) := by decide +kernel
theorem dX3_digitOf_50 : decode cX3_digitOf 50 = .ok (.bipush 65, 2) := by decide +kernel
theorem dX3_digitOf_52 : decode cX3_digitOf 52 = .ok (.isub, 1) := by decide +kernel
theorem dX3_digitOf_53 : decode cX3_digitOf 53 = .ok (.bipush 10, 2) := by decide +kernel
theorem dX3_digitOf_55 : decode cX3_digitOf 55 = .ok (.iadd, 1) := by decide +kernel
theorem dX3_digitOf_56 : decode cX3_digitOf 56 = .ok (.ireturn, 1) := by decide +kernel
theorem dX3_digitOf_57 : decode cX3_digitOf 57 = .ok (.bipush 36, 2) := by decide +kernel
theorem dX3_digitOf_59 : decode cX3_digitOf 59 = .ok (.ireturn, 1) := by decide +kernel
theorem dX3_codeOf_0 : decode cX3_codeOf 0 = .ok (.iload_n 0, 1) := by decide +kernel
theorem dX3_codeOf_1 : decode cX3_codeOf 1 = .ok (.bipush 10, 2) := by decide +kernel
theorem dX3_codeOf_3 : decode cX3_codeOf 3 = .ok (.if_icmp .ge 10, 3) := by decide +kernel
theorem dX3_codeOf_6 : decode cX3_codeOf 6 = .ok (.bipush 48, 2) := by decide +kernel
theorem dX3_codeOf_8 : decode cX3_codeOf 8 = .ok (.iload_n 0, 1) := by decide +kernel
theorem dX3_codeOf_9 : decode cX3_codeOf 9 = .ok (.iadd, 1) := by decide +kernel
theorem dX3_codeOf_10 : decode cX3_codeOf 10 = .ok (.goto 10, 3) := by decide +kernel
theorem dX3_codeOf_13 : decode cX3_codeOf 13 = .ok (.bipush 97, 2) := by decide +kernel
theorem dX3_codeOf_15 : decode cX3_codeOf 15 = .ok (.iload_n 0, 1) := by decide +kernel
theorem dX3_codeOf_16 : decode cX3_codeOf 16 = .ok (.iadd, 1) := by decide +kernel
theorem dX3_codeOf_17 : decode cX3_codeOf 17 = .ok (.bipush 10, 2) := by decide +kernel
theorem dX3_codeOf_19 : decode cX3_codeOf 19 = .ok (.isub, 1) := by decide +kernel
theorem dX3_codeOf_20 : decode cX3_codeOf 20 = .ok (.ireturn, 1) := by decide +kernel
theorem dX4_init_0 : decode cX4_init 0 = .ok (.aload_n 0, 1) := by decide +kernel
theorem dX4_init_1 : decode cX4_init 1 = .ok (.invokespecial 1, 3) := by decide +kernel
theorem dX4_init_4 : decode cX4_init 4 = .ok (.aload_n 0, 1) := by decide +kernel
theorem dX4_init_5 : decode cX4_init 5 = .ok (.ldc 7, 2) := by decide +kernel
theorem dX4_init_7 : decode cX4_init 7 = .ok (.newarray .char, 2) := by decide +kernel
theorem dX4_init_9 : decode cX4_init 9 = .ok (.putfield 8, 3) := by decide +kernel
theorem dX4_init_12 : decode cX4_init 12 = .ok (.aload_n 0, 1) := by decide +kernel
theorem dX4_init_13 : decode cX4_init 13 = .ok (.ldc 7, 2) := by decide +kernel
theorem dX4_init_15 : decode cX4_init 15 = .ok (.newarray .char, 2) := by decide +kernel
theorem dX4_init_17 : decode cX4_init 17 = .ok (.putfield 14, 3) := by decide +kernel
theorem dX4_init_20 : decode cX4_init 20 = .ok (.aload_n 0, 1) := by decide +kernel
theorem dX4_init_21 : decode cX4_init 21 = .ok (.sipush 4096, 3) := by decide +kernel
theorem dX4_init_24 : decode cX4_init 24 = .ok (.newarray .int, 2) := by decide +kernel
theorem dX4_init_26 : decode cX4_init 26 = .ok (.putfield 17, 3) := by decide +kernel
theorem dX4_init_29 : decode cX4_init 29 = .ok (.aload_n 0, 1) := by decide +kernel
theorem dX4_init_30 : decode cX4_init 30 = .ok (.sipush 4096, 3) := by decide +kernel
theorem dX4_init_33 : decode cX4_init 33 = .ok (.newarray .int, 2) := by decide +kernel
theorem dX4_init_35 : decode cX4_init 35 = .ok (.putfield 21, 3) := by decide +kernel
theorem dX4_init_38 : decode cX4_init 38 = .ok (.return_, 1) := by decide +kernel
theorem dX4_isRadix_0 : decode cX4_isRadix 0 = .ok (.iload_n 0, 1) := by decide +kernel
theorem dX4_isRadix_1 : decode cX4_isRadix 1 = .ok (.iconst 1, 1) := by decide +kernel
theorem dX4_isRadix_2 : decode cX4_isRadix 2 = .ok (.if_icmp .le 13, 3) := by decide +kernel
theorem dX4_isRadix_5 : decode cX4_isRadix 5 = .ok (.iload_n 0, 1) := by decide +kernel
theorem dX4_isRadix_6 : decode cX4_isRadix 6 = .ok (.bipush 37, 2) := by decide +kernel
theorem dX4_isRadix_8 : decode cX4_isRadix 8 = .ok (.if_icmp .ge 7, 3) := by decide +kernel
theorem dX4_isRadix_11 : decode cX4_isRadix 11 = .ok (.iconst 1, 1) := by decide +kernel
theorem dX4_isRadix_12 : decode cX4_isRadix 12 = .ok (.goto 4, 3) := by decide +kernel
theorem dX4_isRadix_15 : decode cX4_isRadix 15 = .ok (.iconst 0, 1) := by decide +kernel
theorem dX4_isRadix_16 : decode cX4_isRadix 16 = .ok (.ireturn, 1) := by decide +kernel
theorem dX4_isWidth_0 : decode cX4_isWidth 0 = .ok (.iload_n 0, 1) := by decide +kernel
theorem dX4_isWidth_1 : decode cX4_isWidth 1 = .ok (.bipush 32, 2) := by decide +kernel
theorem dX4_isWidth_3 : decode cX4_isWidth 3 = .ok (.if_icmp .eq 9, 3) := by decide +kernel
theorem dX4_isWidth_6 : decode cX4_isWidth 6 = .ok (.iload_n 0, 1) := by decide +kernel
theorem dX4_isWidth_7 : decode cX4_isWidth 7 = .ok (.bipush 64, 2) := by decide +kernel
theorem dX4_isWidth_9 : decode cX4_isWidth 9 = .ok (.if_icmp .ne 7, 3) := by decide +kernel
theorem dX4_isWidth_12 : decode cX4_isWidth 12 = .ok (.iconst 1, 1) := by decide +kernel
theorem dX4_isWidth_13 : decode cX4_isWidth 13 = .ok (.goto 4, 3) := by decide +kernel
theorem dX4_isWidth_16 : decode cX4_isWidth 16 = .ok (.iconst 0, 1) := by decide +kernel
theorem dX4_isWidth_17 : decode cX4_isWidth 17 = .ok (.ireturn, 1) := by decide +kernel
theorem dX4_digit_0 : decode cX4_digit 0 = .ok (.iload_n 0, 1) := by decide +kernel
theorem dX4_digit_1 : decode cX4_digit 1 = .ok (.bipush 48, 2) := by decide +kernel
theorem dX4_digit_3 : decode cX4_digit 3 = .ok (.if_icmp .lt 16, 3) := by decide +kernel
theorem dX4_digit_6 : decode cX4_digit 6 = .ok (.iload_n 0, 1) := by decide +kernel
theorem dX4_digit_7 : decode cX4_digit 7 = .ok (.bipush 57, 2) := by decide +kernel
theorem dX4_digit_9 : decode cX4_digit 9 = .ok (.if_icmp .gt 10, 3) := by decide +kernel
theorem dX4_digit_12 : decode cX4_digit 12 = .ok (.iload_n 0, 1) := by decide +kernel
theorem dX4_digit_13 : decode cX4_digit 13 = .ok (.bipush 48, 2) := by decide +kernel
theorem dX4_digit_15 : decode cX4_digit 15 = .ok (.isub, 1) := by decide +kernel
theorem dX4_digit_16 : decode cX4_digit 16 = .ok (.goto 49, 3) := by decide +kernel
theorem dX4_digit_19 : decode cX4_digit 19 = .ok (.iload_n 0, 1) := by decide +kernel
theorem dX4_digit_20 : decode cX4_digit 20 = .ok (.bipush 97, 2) := by decide +kernel
theorem dX4_digit_22 : decode cX4_digit 22 = .ok (.if_icmp .lt 19, 3) := by decide +kernel
theorem dX4_digit_25 : decode cX4_digit 25 = .ok (.iload_n 0, 1) := by decide +kernel
theorem dX4_digit_26 : decode cX4_digit 26 = .ok (.bipush 122, 2) := by decide +kernel
theorem dX4_digit_28 : decode cX4_digit 28 = .ok (.if_icmp .gt 13, 3) := by decide +kernel
theorem dX4_digit_31 : decode cX4_digit 31 = .ok (.iload_n 0, 1) := by decide +kernel
theorem dX4_digit_32 : decode cX4_digit 32 = .ok (.bipush 97, 2) := by decide +kernel
theorem dX4_digit_34 : decode cX4_digit 34 = .ok (.isub, 1) := by decide +kernel
theorem dX4_digit_35 : decode cX4_digit 35 = .ok (.bipush 10, 2) := by decide +kernel
theorem dX4_digit_37 : decode cX4_digit 37 = .ok (.iadd, 1) := by decide +kernel
theorem dX4_digit_38 : decode cX4_digit 38 = .ok (.goto 27, 3) := by decide +kernel
theorem dX4_digit_41 : decode cX4_digit 41 = .ok (.iload_n 0, 1) := by decide +kernel
theorem dX4_digit_42 : decode cX4_digit 42 = .ok (.bipush 65, 2) := by decide +kernel
theorem dX4_digit_44 : decode cX4_digit 44 = .ok (.if_icmp .lt 19, 3) := by decide +kernel
theorem dX4_digit_47 : decode cX4_digit 47 = .ok (.iload_n 0, 1) := by decide +kernel
theorem dX4_digit_48 : decode cX4_digit 48 = .ok (.bipush 90, 2) := by decide +kernel
theorem dX4_digit_50 : decode cX4_digit 50 = .ok (.if_icmp .gt 13, 3) := by decide +kernel
theorem dX4_digit_53 : decode cX4_digit 53 = .ok (.iload_n 0, 1) := by decide +kernel
theorem dX4_digit_54 : decode cX4_digit 54 = .ok (.bipush 65, 2) := by decide +kernel
theorem dX4_digit_56 : decode cX4_digit 56 = .ok (.isub, 1) := by decide +kernel
theorem dX4_digit_57 : decode cX4_digit 57 = .ok (.bipush 10, 2) := by decide +kernel
theorem dX4_digit_59 : decode cX4_digit 59 = .ok (.iadd, 1) := by decide +kernel
theorem dX4_digit_60 : decode cX4_digit 60 = .ok (.goto 5, 3) := by decide +kernel
theorem dX4_digit_63 : decode cX4_digit 63 = .ok (.bipush 99, 2) := by decide +kernel
theorem dX4_digit_65 : decode cX4_digit 65 = .ok (.ireturn, 1) := by decide +kernel
theorem dX4_character_0 : decode cX4_character 0 = .ok (.iload_n 0, 1) := by decide +kernel
theorem dX4_character_1 : decode cX4_character 1 = .ok (.bipush 10, 2) := by decide +kernel
theorem dX4_character_3 : decode cX4_character 3 = .ok (.if_icmp .ge 10, 3) := by decide +kernel
theorem dX4_character_6 : decode cX4_character 6 = .ok (.bipush 48, 2) := by decide +kernel
theorem dX4_character_8 : decode cX4_character 8 = .ok (.iload_n 0, 1) := by decide +kernel
theorem dX4_character_9 : decode cX4_character 9 = .ok (.iadd, 1) := by decide +kernel
theorem dX4_character_10 : decode cX4_character 10 = .ok (.goto 10, 3) := by decide +kernel
theorem dX4_character_13 : decode cX4_character 13 = .ok (.bipush 97, 2) := by decide +kernel
theorem dX4_character_15 : decode cX4_character 15 = .ok (.iload_n 0, 1) := by decide +kernel
theorem dX4_character_16 : decode cX4_character 16 = .ok (.iadd, 1) := by decide +kernel
theorem dX4_character_17 : decode cX4_character 17 = .ok (.bipush 10, 2) := by decide +kernel
theorem dX4_character_19 : decode cX4_character 19 = .ok (.isub, 1) := by decide +kernel
theorem dX4_character_20 : decode cX4_character 20 = .ok (.i2c, 1) := by decide +kernel
theorem dX4_character_21 : decode cX4_character 21 = .ok (.ireturn, 1) := by decide +kernel
theorem dX4_timesAdd_0 : decode cX4_timesAdd 0 = .ok (.iload_n 2, 1) := by decide +kernel
theorem dX4_timesAdd_1 : decode cX4_timesAdd 1 = .ok (.i2l, 1) := by decide +kernel
theorem dX4_timesAdd_2 : decode cX4_timesAdd 2 = .ok (.lstore_n 3, 1) := by decide +kernel
theorem dX4_timesAdd_3 : decode cX4_timesAdd 3 = .ok (.iconst 0, 1) := by decide +kernel
theorem dX4_timesAdd_4 : decode cX4_timesAdd 4 = .ok (.istore 5, 2) := by decide +kernel
theorem dX4_timesAdd_6 : decode cX4_timesAdd 6 = .ok (.iload 5, 2) := by decide +kernel
theorem dX4_timesAdd_8 : decode cX4_timesAdd 8 = .ok (.aload_n 0, 1) := by decide +kernel
theorem dX4_timesAdd_9 : decode cX4_timesAdd 9 = .ok (.getfield 28, 3) := by decide +kernel
theorem dX4_timesAdd_12 : decode cX4_timesAdd 12 = .ok (.if_icmp .ge 41, 3) := by decide +kernel
theorem dX4_timesAdd_15 : decode cX4_timesAdd 15 = .ok (.lload_n 3, 1) := by decide +kernel
theorem dX4_timesAdd_16 : decode cX4_timesAdd 16 = .ok (.aload_n 0, 1) := by decide +kernel
theorem dX4_timesAdd_17 : decode cX4_timesAdd 17 = .ok (.getfield 21, 3) := by decide +kernel
theorem dX4_timesAdd_20 : decode cX4_timesAdd 20 = .ok (.iload 5, 2) := by decide +kernel
theorem dX4_timesAdd_22 : decode cX4_timesAdd 22 = .ok (.iaload, 1) := by decide +kernel
theorem dX4_timesAdd_23 : decode cX4_timesAdd 23 = .ok (.i2l, 1) := by decide +kernel
theorem dX4_timesAdd_24 : decode cX4_timesAdd 24 = .ok (.iload_n 1, 1) := by decide +kernel
theorem dX4_timesAdd_25 : decode cX4_timesAdd 25 = .ok (.i2l, 1) := by decide +kernel
theorem dX4_timesAdd_26 : decode cX4_timesAdd 26 = .ok (.lmul, 1) := by decide +kernel
theorem dX4_timesAdd_27 : decode cX4_timesAdd 27 = .ok (.ladd, 1) := by decide +kernel
theorem dX4_timesAdd_28 : decode cX4_timesAdd 28 = .ok (.lstore_n 3, 1) := by decide +kernel
theorem dX4_timesAdd_29 : decode cX4_timesAdd 29 = .ok (.aload_n 0, 1) := by decide +kernel
theorem dX4_timesAdd_30 : decode cX4_timesAdd 30 = .ok (.getfield 21, 3) := by decide +kernel
theorem dX4_timesAdd_33 : decode cX4_timesAdd 33 = .ok (.iload 5, 2) := by decide +kernel
theorem dX4_timesAdd_35 : decode cX4_timesAdd 35 = .ok (.lload_n 3, 1) := by decide +kernel
theorem dX4_timesAdd_36 : decode cX4_timesAdd 36 = .ok (.ldc2_w 31, 3) := by decide +kernel
theorem dX4_timesAdd_39 : decode cX4_timesAdd 39 = .ok (.land, 1) := by decide +kernel
theorem dX4_timesAdd_40 : decode cX4_timesAdd 40 = .ok (.l2i, 1) := by decide +kernel
theorem dX4_timesAdd_41 : decode cX4_timesAdd 41 = .ok (.iastore, 1) := by decide +kernel
theorem dX4_timesAdd_42 : decode cX4_timesAdd 42 = .ok (.lload_n 3, 1) := by decide +kernel
theorem dX4_timesAdd_43 : decode cX4_timesAdd 43 = .ok (.bipush 16, 2) := by decide +kernel
theorem dX4_timesAdd_45 : decode cX4_timesAdd 45 = .ok (.lshr, 1) := by decide +kernel
theorem dX4_timesAdd_46 : decode cX4_timesAdd 46 = .ok (.lstore_n 3, 1) := by decide +kernel
theorem dX4_timesAdd_47 : decode cX4_timesAdd 47 = .ok (.iinc 5 1, 3) := by decide +kernel
theorem dX4_timesAdd_50 : decode cX4_timesAdd 50 = .ok (.goto (-44), 3) := by decide +kernel
theorem dX4_timesAdd_53 : decode cX4_timesAdd 53 = .ok (.lload_n 3, 1) := by decide +kernel
theorem dX4_timesAdd_54 : decode cX4_timesAdd 54 = .ok (.lconst 0, 1) := by decide +kernel
theorem dX4_timesAdd_55 : decode cX4_timesAdd 55 = .ok (.lcmp, 1) := by decide +kernel
theorem dX4_timesAdd_56 : decode cX4_timesAdd 56 = .ok (.ifCond .le 48, 3) := by decide +kernel
theorem dX4_timesAdd_59 : decode cX4_timesAdd 59 = .ok (.aload_n 0, 1) := by decide +kernel
theorem dX4_timesAdd_60 : decode cX4_timesAdd 60 = .ok (.getfield 28, 3) := by decide +kernel
theorem dX4_timesAdd_63 : decode cX4_timesAdd 63 = .ok (.sipush 4096, 3) := by decide +kernel
theorem dX4_timesAdd_66 : decode cX4_timesAdd 66 = .ok (.if_icmp .ne 5, 3) := by decide +kernel
theorem dX4_timesAdd_69 : decode cX4_timesAdd 69 = .ok (.iconst 0, 1) := by decide +kernel
theorem dX4_timesAdd_70 : decode cX4_timesAdd 70 = .ok (.ireturn, 1) := by decide +kernel
theorem dX4_timesAdd_71 : decode cX4_timesAdd 71 = .ok (.aload_n 0, 1) := by decide +kernel
theorem dX4_timesAdd_72 : decode cX4_timesAdd 72 = .ok (.getfield 21, 3) := by decide +kernel
theorem dX4_timesAdd_75 : decode cX4_timesAdd 75 = .ok (.aload_n 0, 1) := by decide +kernel
theorem dX4_timesAdd_76 : decode cX4_timesAdd 76 = .ok (.getfield 28, 3) := by decide +kernel
theorem dX4_timesAdd_79 : decode cX4_timesAdd 79 = .ok (.lload_n 3, 1) := by decide +kernel
theorem dX4_timesAdd_80 : decode cX4_timesAdd 80 = .ok (.ldc2_w 31, 3) := by decide +kernel
theorem dX4_timesAdd_83 : decode cX4_timesAdd 83 = .ok (.land, 1) := by decide +kernel
theorem dX4_timesAdd_84 : decode cX4_timesAdd 84 = .ok (.l2i, 1) := by decide +kernel
theorem dX4_timesAdd_85 : decode cX4_timesAdd 85 = .ok (.iastore, 1) := by decide +kernel
theorem dX4_timesAdd_86 : decode cX4_timesAdd 86 = .ok (.aload_n 0, 1) := by decide +kernel
theorem dX4_timesAdd_87 : decode cX4_timesAdd 87 = .ok (.dup, 1) := by decide +kernel
theorem dX4_timesAdd_88 : decode cX4_timesAdd 88 = .ok (.getfield 28, 3) := by decide +kernel
theorem dX4_timesAdd_91 : decode cX4_timesAdd 91 = .ok (.iconst 1, 1) := by decide +kernel
theorem dX4_timesAdd_92 : decode cX4_timesAdd 92 = .ok (.iadd, 1) := by decide +kernel
theorem dX4_timesAdd_93 : decode cX4_timesAdd 93 = .ok (.putfield 28, 3) := by decide +kernel
theorem dX4_timesAdd_96 : decode cX4_timesAdd 96 = .ok (.lload_n 3, 1) := by decide +kernel
theorem dX4_timesAdd_97 : decode cX4_timesAdd 97 = .ok (.bipush 16, 2) := by decide +kernel
theorem dX4_timesAdd_99 : decode cX4_timesAdd 99 = .ok (.lshr, 1) := by decide +kernel
theorem dX4_timesAdd_100 : decode cX4_timesAdd 100 = .ok (.lstore_n 3, 1) := by decide +kernel
theorem dX4_timesAdd_101 : decode cX4_timesAdd 101 = .ok (.goto (-48), 3) := by decide +kernel
theorem dX4_timesAdd_104 : decode cX4_timesAdd 104 = .ok (.iconst 1, 1) := by decide +kernel
theorem dX4_timesAdd_105 : decode cX4_timesAdd 105 = .ok (.ireturn, 1) := by decide +kernel
theorem dX4_divide_0 : decode cX4_divide 0 = .ok (.iconst 0, 1) := by decide +kernel
theorem dX4_divide_1 : decode cX4_divide 1 = .ok (.istore_n 2, 1) := by decide +kernel
theorem dX4_divide_2 : decode cX4_divide 2 = .ok (.aload_n 0, 1) := by decide +kernel
theorem dX4_divide_3 : decode cX4_divide 3 = .ok (.getfield 28, 3) := by decide +kernel
theorem dX4_divide_6 : decode cX4_divide 6 = .ok (.iconst 1, 1) := by decide +kernel
theorem dX4_divide_7 : decode cX4_divide 7 = .ok (.isub, 1) := by decide +kernel
theorem dX4_divide_8 : decode cX4_divide 8 = .ok (.istore_n 3, 1) := by decide +kernel
theorem dX4_divide_9 : decode cX4_divide 9 = .ok (.iload_n 3, 1) := by decide +kernel
theorem dX4_divide_10 : decode cX4_divide 10 = .ok (.ifCond .lt 37, 3) := by decide +kernel
theorem dX4_divide_13 : decode cX4_divide 13 = .ok (.iload_n 2, 1) := by decide +kernel
theorem dX4_divide_14 : decode cX4_divide 14 = .ok (.bipush 16, 2) := by decide +kernel
theorem dX4_divide_16 : decode cX4_divide 16 = .ok (.ishl, 1) := by decide +kernel
theorem dX4_divide_17 : decode cX4_divide 17 = .ok (.aload_n 0, 1) := by decide +kernel
theorem dX4_divide_18 : decode cX4_divide 18 = .ok (.getfield 21, 3) := by decide +kernel
theorem dX4_divide_21 : decode cX4_divide 21 = .ok (.iload_n 3, 1) := by decide +kernel
theorem dX4_divide_22 : decode cX4_divide 22 = .ok (.iaload, 1) := by decide +kernel
theorem dX4_divide_23 : decode cX4_divide 23 = .ok (.ior, 1) := by decide +kernel
theorem dX4_divide_24 : decode cX4_divide 24 = .ok (.istore 4, 2) := by decide +kernel
theorem dX4_divide_26 : decode cX4_divide 26 = .ok (.aload_n 0, 1) := by decide +kernel
theorem dX4_divide_27 : decode cX4_divide 27 = .ok (.getfield 21, 3) := by decide +kernel
theorem dX4_divide_30 : decode cX4_divide 30 = .ok (.iload_n 3, 1) := by decide +kernel
theorem dX4_divide_31 : decode cX4_divide 31 = .ok (.iload 4, 2) := by decide +kernel
theorem dX4_divide_33 : decode cX4_divide 33 = .ok (.iload_n 1, 1) := by decide +kernel
theorem dX4_divide_34 : decode cX4_divide 34 = .ok (.idiv, 1) := by decide +kernel
theorem dX4_divide_35 : decode cX4_divide 35 = .ok (.iastore, 1) := by decide +kernel
theorem dX4_divide_36 : decode cX4_divide 36 = .ok (.iload 4, 2) := by decide +kernel
theorem dX4_divide_38 : decode cX4_divide 38 = .ok (.iload_n 1, 1) := by decide +kernel
theorem dX4_divide_39 : decode cX4_divide 39 = .ok (.irem, 1) := by decide +kernel
theorem dX4_divide_40 : decode cX4_divide 40 = .ok (.istore_n 2, 1) := by decide +kernel
theorem dX4_divide_41 : decode cX4_divide 41 = .ok (.iinc 3 (-1), 3) := by decide +kernel
theorem dX4_divide_44 : decode cX4_divide 44 = .ok (.goto (-35), 3) := by decide +kernel
theorem dX4_divide_47 : decode cX4_divide 47 = .ok (.aload_n 0, 1) := by decide +kernel
theorem dX4_divide_48 : decode cX4_divide 48 = .ok (.getfield 28, 3) := by decide +kernel
theorem dX4_divide_51 : decode cX4_divide 51 = .ok (.ifCond .le 30, 3) := by decide +kernel
theorem dX4_divide_54 : decode cX4_divide 54 = .ok (.aload_n 0, 1) := by decide +kernel
theorem dX4_divide_55 : decode cX4_divide 55 = .ok (.getfield 21, 3) := by decide +kernel
theorem dX4_divide_58 : decode cX4_divide 58 = .ok (.aload_n 0, 1) := by decide +kernel
theorem dX4_divide_59 : decode cX4_divide 59 = .ok (.getfield 28, 3) := by decide +kernel
theorem dX4_divide_62 : decode cX4_divide 62 = .ok (.iconst 1, 1) := by decide +kernel
theorem dX4_divide_63 : decode cX4_divide 63 = .ok (.isub, 1) := by decide +kernel
theorem dX4_divide_64 : decode cX4_divide 64 = .ok (.iaload, 1) := by decide +kernel
theorem dX4_divide_65 : decode cX4_divide 65 = .ok (.ifCond .ne 16, 3) := by decide +kernel
theorem dX4_divide_68 : decode cX4_divide 68 = .ok (.aload_n 0, 1) := by decide +kernel
theorem dX4_divide_69 : decode cX4_divide 69 = .ok (.dup, 1) := by decide +kernel
theorem dX4_divide_70 : decode cX4_divide 70 = .ok (.getfield 28, 3) := by decide +kernel
theorem dX4_divide_73 : decode cX4_divide 73 = .ok (.iconst 1, 1) := by decide +kernel
theorem dX4_divide_74 : decode cX4_divide 74 = .ok (.isub, 1) := by decide +kernel
theorem dX4_divide_75 : decode cX4_divide 75 = .ok (.putfield 28, 3) := by decide +kernel
theorem dX4_divide_78 : decode cX4_divide 78 = .ok (.goto (-31), 3) := by decide +kernel
theorem dX4_divide_81 : decode cX4_divide 81 = .ok (.iload_n 2, 1) := by decide +kernel
theorem dX4_divide_82 : decode cX4_divide 82 = .ok (.ireturn, 1) := by decide +kernel
theorem dX4_take_0 : decode cX4_take 0 = .ok (.aload_n 0, 1) := by decide +kernel
theorem dX4_take_1 : decode cX4_take 1 = .ok (.aload_n 0, 1) := by decide +kernel
theorem dX4_take_2 : decode cX4_take 2 = .ok (.getfield 33, 3) := by decide +kernel
theorem dX4_take_5 : decode cX4_take 5 = .ok (.putfield 28, 3) := by decide +kernel
theorem dX4_take_8 : decode cX4_take 8 = .ok (.iconst 0, 1) := by decide +kernel
theorem dX4_take_9 : decode cX4_take 9 = .ok (.istore_n 1, 1) := by decide +kernel
theorem dX4_take_10 : decode cX4_take 10 = .ok (.iload_n 1, 1) := by decide +kernel
theorem dX4_take_11 : decode cX4_take 11 = .ok (.aload_n 0, 1) := by decide +kernel
theorem dX4_take_12 : decode cX4_take 12 = .ok (.getfield 33, 3) := by decide +kernel
theorem dX4_take_15 : decode cX4_take 15 = .ok (.if_icmp .ge 21, 3) := by decide +kernel
theorem dX4_take_18 : decode cX4_take 18 = .ok (.aload_n 0, 1) := by decide +kernel
theorem dX4_take_19 : decode cX4_take 19 = .ok (.getfield 21, 3) := by decide +kernel
theorem dX4_take_22 : decode cX4_take 22 = .ok (.iload_n 1, 1) := by decide +kernel
theorem dX4_take_23 : decode cX4_take 23 = .ok (.aload_n 0, 1) := by decide +kernel
theorem dX4_take_24 : decode cX4_take 24 = .ok (.getfield 17, 3) := by decide +kernel
theorem dX4_take_27 : decode cX4_take 27 = .ok (.iload_n 1, 1) := by decide +kernel
theorem dX4_take_28 : decode cX4_take 28 = .ok (.iaload, 1) := by decide +kernel
theorem dX4_take_29 : decode cX4_take 29 = .ok (.iastore, 1) := by decide +kernel
theorem dX4_take_30 : decode cX4_take 30 = .ok (.iinc 1 1, 3) := by decide +kernel
theorem dX4_take_33 : decode cX4_take 33 = .ok (.goto (-23), 3) := by decide +kernel
theorem dX4_take_36 : decode cX4_take 36 = .ok (.return_, 1) := by decide +kernel
theorem dX4_give_0 : decode cX4_give 0 = .ok (.aload_n 0, 1) := by decide +kernel
theorem dX4_give_1 : decode cX4_give 1 = .ok (.getfield 28, 3) := by decide +kernel
theorem dX4_give_4 : decode cX4_give 4 = .ok (.ifCond .le 30, 3) := by decide +kernel
theorem dX4_give_7 : decode cX4_give 7 = .ok (.aload_n 0, 1) := by decide +kernel
theorem dX4_give_8 : decode cX4_give 8 = .ok (.getfield 21, 3) := by decide +kernel
theorem dX4_give_11 : decode cX4_give 11 = .ok (.aload_n 0, 1) := by decide +kernel
theorem dX4_give_12 : decode cX4_give 12 = .ok (.getfield 28, 3) := by decide +kernel
theorem dX4_give_15 : decode cX4_give 15 = .ok (.iconst 1, 1) := by decide +kernel
theorem dX4_give_16 : decode cX4_give 16 = .ok (.isub, 1) := by decide +kernel
theorem dX4_give_17 : decode cX4_give 17 = .ok (.iaload, 1) := by decide +kernel
theorem dX4_give_18 : decode cX4_give 18 = .ok (.ifCond .ne 16, 3) := by decide +kernel
theorem dX4_give_21 : decode cX4_give 21 = .ok (.aload_n 0, 1) := by decide +kernel
theorem dX4_give_22 : decode cX4_give 22 = .ok (.dup, 1) := by decide +kernel
theorem dX4_give_23 : decode cX4_give 23 = .ok (.getfield 28, 3) := by decide +kernel
theorem dX4_give_26 : decode cX4_give 26 = .ok (.iconst 1, 1) := by decide +kernel
theorem dX4_give_27 : decode cX4_give 27 = .ok (.isub, 1) := by decide +kernel
theorem dX4_give_28 : decode cX4_give 28 = .ok (.putfield 28, 3) := by decide +kernel
theorem dX4_give_31 : decode cX4_give 31 = .ok (.goto (-31), 3) := by decide +kernel
theorem dX4_give_34 : decode cX4_give 34 = .ok (.aload_n 0, 1) := by decide +kernel
theorem dX4_give_35 : decode cX4_give 35 = .ok (.aload_n 0, 1) := by decide +kernel
theorem dX4_give_36 : decode cX4_give 36 = .ok (.getfield 28, 3) := by decide +kernel
theorem dX4_give_39 : decode cX4_give 39 = .ok (.putfield 33, 3) := by decide +kernel
theorem dX4_give_42 : decode cX4_give 42 = .ok (.iconst 0, 1) := by decide +kernel
theorem dX4_give_43 : decode cX4_give 43 = .ok (.istore_n 1, 1) := by decide +kernel
theorem dX4_give_44 : decode cX4_give 44 = .ok (.iload_n 1, 1) := by decide +kernel
theorem dX4_give_45 : decode cX4_give 45 = .ok (.aload_n 0, 1) := by decide +kernel
theorem dX4_give_46 : decode cX4_give 46 = .ok (.getfield 33, 3) := by decide +kernel
theorem dX4_give_49 : decode cX4_give 49 = .ok (.if_icmp .ge 21, 3) := by decide +kernel
theorem dX4_give_52 : decode cX4_give 52 = .ok (.aload_n 0, 1) := by decide +kernel
theorem dX4_give_53 : decode cX4_give 53 = .ok (.getfield 17, 3) := by decide +kernel
theorem dX4_give_56 : decode cX4_give 56 = .ok (.iload_n 1, 1) := by decide +kernel
theorem dX4_give_57 : decode cX4_give 57 = .ok (.aload_n 0, 1) := by decide +kernel
theorem dX4_give_58 : decode cX4_give 58 = .ok (.getfield 21, 3) := by decide +kernel
theorem dX4_give_61 : decode cX4_give 61 = .ok (.iload_n 1, 1) := by decide +kernel
theorem dX4_give_62 : decode cX4_give 62 = .ok (.iaload, 1) := by decide +kernel
theorem dX4_give_63 : decode cX4_give 63 = .ok (.iastore, 1) := by decide +kernel
theorem dX4_give_64 : decode cX4_give 64 = .ok (.iinc 1 1, 3) := by decide +kernel
theorem dX4_give_67 : decode cX4_give 67 = .ok (.goto (-23), 3) := by decide +kernel
theorem dX4_give_70 : decode cX4_give 70 = .ok (.return_, 1) := by decide +kernel
theorem dX4_type_0 : decode cX4_type 0 = .ok (.aload_n 0, 1) := by decide +kernel
theorem dX4_type_1 : decode cX4_type 1 = .ok (.iconst 0, 1) := by decide +kernel
theorem dX4_type_2 : decode cX4_type 2 = .ok (.putfield 24, 3) := by decide +kernel
theorem dX4_type_5 : decode cX4_type 5 = .ok (.iconst 0, 1) := by decide +kernel
theorem dX4_type_6 : decode cX4_type 6 = .ok (.istore_n 3, 1) := by decide +kernel
theorem dX4_type_7 : decode cX4_type 7 = .ok (.iconst 1, 1) := by decide +kernel
theorem dX4_type_8 : decode cX4_type 8 = .ok (.istore 4, 2) := by decide +kernel
theorem dX4_type_10 : decode cX4_type 10 = .ok (.iconst 0, 1) := by decide +kernel
theorem dX4_type_11 : decode cX4_type 11 = .ok (.istore 5, 2) := by decide +kernel
theorem dX4_type_13 : decode cX4_type 13 = .ok (.iload 5, 2) := by decide +kernel
theorem dX4_type_15 : decode cX4_type 15 = .ok (.bipush 8, 2) := by decide +kernel
theorem dX4_type_17 : decode cX4_type 17 = .ok (.if_icmp .ge 55, 3) := by decide +kernel
theorem dX4_type_20 : decode cX4_type 20 = .ok (.lload_n 1, 1) := by decide +kernel
theorem dX4_type_21 : decode cX4_type 21 = .ok (.bipush 8, 2) := by decide +kernel
theorem dX4_type_23 : decode cX4_type 23 = .ok (.iload 5, 2) := by decide +kernel
theorem dX4_type_25 : decode cX4_type 25 = .ok (.imul, 1) := by decide +kernel
theorem dX4_type_26 : decode cX4_type 26 = .ok (.lshr, 1) := by decide +kernel
theorem dX4_type_27 : decode cX4_type 27 = .ok (.ldc2_w 36, 3) := by decide +kernel
theorem dX4_type_30 : decode cX4_type 30 = .ok (.land, 1) := by decide +kernel
theorem dX4_type_31 : decode cX4_type 31 = .ok (.l2i, 1) := by decide +kernel
theorem dX4_type_32 : decode cX4_type 32 = .ok (.istore 6, 2) := by decide +kernel
theorem dX4_type_34 : decode cX4_type 34 = .ok (.iload_n 3, 1) := by decide +kernel
theorem dX4_type_35 : decode cX4_type 35 = .ok (.iload 6, 2) := by decide +kernel
theorem dX4_type_37 : decode cX4_type 37 = .ok (.ifCond .le 7, 3) := by decide +kernel
theorem dX4_type_40 : decode cX4_type 40 = .ok (.iconst 1, 1) := by decide +kernel
theorem dX4_type_41 : decode cX4_type 41 = .ok (.goto 4, 3) := by decide +kernel
theorem dX4_type_44 : decode cX4_type 44 = .ok (.iconst 0, 1) := by decide +kernel
theorem dX4_type_45 : decode cX4_type 45 = .ok (.iadd, 1) := by decide +kernel
theorem dX4_type_46 : decode cX4_type 46 = .ok (.istore_n 3, 1) := by decide +kernel
theorem dX4_type_47 : decode cX4_type 47 = .ok (.iload 4, 2) := by decide +kernel
theorem dX4_type_49 : decode cX4_type 49 = .ok (.ifCond .eq 14, 3) := by decide +kernel
theorem dX4_type_52 : decode cX4_type 52 = .ok (.iload 6, 2) := by decide +kernel
theorem dX4_type_54 : decode cX4_type 54 = .ok (.bipush 127, 2) := by decide +kernel
theorem dX4_type_56 : decode cX4_type 56 = .ok (.if_icmp .ge 7, 3) := by decide +kernel
theorem dX4_type_59 : decode cX4_type 59 = .ok (.iconst 1, 1) := by decide +kernel
theorem dX4_type_60 : decode cX4_type 60 = .ok (.goto 4, 3) := by decide +kernel
theorem dX4_type_63 : decode cX4_type 63 = .ok (.iconst 0, 1) := by decide +kernel
theorem dX4_type_64 : decode cX4_type 64 = .ok (.istore 4, 2) := by decide +kernel
theorem dX4_type_66 : decode cX4_type 66 = .ok (.iinc 5 1, 3) := by decide +kernel
theorem dX4_type_69 : decode cX4_type 69 = .ok (.goto (-56), 3) := by decide +kernel
theorem dX4_type_72 : decode cX4_type 72 = .ok (.iload 4, 2) := by decide +kernel
theorem dX4_type_74 : decode cX4_type 74 = .ok (.ifCond .eq 14, 3) := by decide +kernel
theorem dX4_type_77 : decode cX4_type 77 = .ok (.aload_n 0, 1) := by decide +kernel
theorem dX4_type_78 : decode cX4_type 78 = .ok (.getfield 38, 3) := by decide +kernel
theorem dX4_type_81 : decode cX4_type 81 = .ok (.iload_n 3, 1) := by decide +kernel
theorem dX4_type_82 : decode cX4_type 82 = .ok (.iadd, 1) := by decide +kernel
theorem dX4_type_83 : decode cX4_type 83 = .ok (.ldc 7, 2) := by decide +kernel
theorem dX4_type_85 : decode cX4_type 85 = .ok (.if_icmp .le 5, 3) := by decide +kernel
theorem dX4_type_88 : decode cX4_type 88 = .ok (.iconst 0, 1) := by decide +kernel
theorem dX4_type_89 : decode cX4_type 89 = .ok (.ireturn, 1) := by decide +kernel
theorem dX4_type_90 : decode cX4_type 90 = .ok (.bipush 7, 2) := by decide +kernel
theorem dX4_type_92 : decode cX4_type 92 = .ok (.istore 5, 2) := by decide +kernel
theorem dX4_type_94 : decode cX4_type 94 = .ok (.iload 5, 2) := by decide +kernel
theorem dX4_type_96 : decode cX4_type 96 = .ok (.ifCond .lt 53, 3) := by decide +kernel
theorem dX4_type_99 : decode cX4_type 99 = .ok (.lload_n 1, 1) := by decide +kernel
theorem dX4_type_100 : decode cX4_type 100 = .ok (.bipush 8, 2) := by decide +kernel
theorem dX4_type_102 : decode cX4_type 102 = .ok (.iload 5, 2) := by decide +kernel
theorem dX4_type_104 : decode cX4_type 104 = .ok (.imul, 1) := by decide +kernel
theorem dX4_type_105 : decode cX4_type 105 = .ok (.lshr, 1) := by decide +kernel
theorem dX4_type_106 : decode cX4_type 106 = .ok (.ldc2_w 36, 3) := by decide +kernel
theorem dX4_type_109 : decode cX4_type 109 = .ok (.land, 1) := by decide +kernel
theorem dX4_type_110 : decode cX4_type 110 = .ok (.l2i, 1) := by decide +kernel
theorem dX4_type_111 : decode cX4_type 111 = .ok (.istore 6, 2) := by decide +kernel
theorem dX4_type_113 : decode cX4_type 113 = .ok (.iload 6, 2) := by decide +kernel
theorem dX4_type_115 : decode cX4_type 115 = .ok (.ifCond .ne 6, 3) := by decide +kernel
theorem dX4_type_118 : decode cX4_type 118 = .ok (.goto 25, 3) := by decide +kernel
theorem dX4_type_121 : decode cX4_type 121 = .ok (.aload_n 0, 1) := by decide +kernel
theorem dX4_type_122 : decode cX4_type 122 = .ok (.getfield 8, 3) := by decide +kernel
theorem dX4_type_125 : decode cX4_type 125 = .ok (.aload_n 0, 1) := by decide +kernel
theorem dX4_type_126 : decode cX4_type 126 = .ok (.getfield 38, 3) := by decide +kernel
theorem dX4_type_129 : decode cX4_type 129 = .ok (.iload 6, 2) := by decide +kernel
theorem dX4_type_131 : decode cX4_type 131 = .ok (.i2c, 1) := by decide +kernel
theorem dX4_type_132 : decode cX4_type 132 = .ok (.castore, 1) := by decide +kernel
theorem dX4_type_133 : decode cX4_type 133 = .ok (.aload_n 0, 1) := by decide +kernel
theorem dX4_type_134 : decode cX4_type 134 = .ok (.dup, 1) := by decide +kernel
theorem dX4_type_135 : decode cX4_type 135 = .ok (.getfield 38, 3) := by decide +kernel
theorem dX4_type_138 : decode cX4_type 138 = .ok (.iconst 1, 1) := by decide +kernel
theorem dX4_type_139 : decode cX4_type 139 = .ok (.iadd, 1) := by decide +kernel
theorem dX4_type_140 : decode cX4_type 140 = .ok (.putfield 38, 3) := by decide +kernel
theorem dX4_type_143 : decode cX4_type 143 = .ok (.iinc 5 (-1), 3) := by decide +kernel
theorem dX4_type_146 : decode cX4_type 146 = .ok (.goto (-52), 3) := by decide +kernel
theorem dX4_type_149 : decode cX4_type 149 = .ok (.iconst 1, 1) := by decide +kernel
theorem dX4_type_150 : decode cX4_type 150 = .ok (.ireturn, 1) := by decide +kernel
theorem dX4_repeat_0 : decode cX4_repeat 0 = .ok (.aload_n 0, 1) := by decide +kernel
theorem dX4_repeat_1 : decode cX4_repeat 1 = .ok (.iconst 0, 1) := by decide +kernel
theorem dX4_repeat_2 : decode cX4_repeat 2 = .ok (.putfield 24, 3) := by decide +kernel
theorem dX4_repeat_5 : decode cX4_repeat 5 = .ok (.iload_n 1, 1) := by decide +kernel
theorem dX4_repeat_6 : decode cX4_repeat 6 = .ok (.iconst 1, 1) := by decide +kernel
theorem dX4_repeat_7 : decode cX4_repeat 7 = .ok (.if_icmp .lt 32, 3) := by decide +kernel
theorem dX4_repeat_10 : decode cX4_repeat 10 = .ok (.iload_n 1, 1) := by decide +kernel
theorem dX4_repeat_11 : decode cX4_repeat 11 = .ok (.aload_n 0, 1) := by decide +kernel
theorem dX4_repeat_12 : decode cX4_repeat 12 = .ok (.getfield 38, 3) := by decide +kernel
theorem dX4_repeat_15 : decode cX4_repeat 15 = .ok (.if_icmp .gt 24, 3) := by decide +kernel
theorem dX4_repeat_18 : decode cX4_repeat 18 = .ok (.iload_n 2, 1) := by decide +kernel
theorem dX4_repeat_19 : decode cX4_repeat 19 = .ok (.ifCond .lt 20, 3) := by decide +kernel
theorem dX4_repeat_22 : decode cX4_repeat 22 = .ok (.iload_n 1, 1) := by decide +kernel
theorem dX4_repeat_23 : decode cX4_repeat 23 = .ok (.i2l, 1) := by decide +kernel
theorem dX4_repeat_24 : decode cX4_repeat 24 = .ok (.iload_n 2, 1) := by decide +kernel
theorem dX4_repeat_25 : decode cX4_repeat 25 = .ok (.i2l, 1) := by decide +kernel
theorem dX4_repeat_26 : decode cX4_repeat 26 = .ok (.lmul, 1) := by decide +kernel
theorem dX4_repeat_27 : decode cX4_repeat 27 = .ok (.ldc 7, 2) := by decide +kernel
theorem dX4_repeat_29 : decode cX4_repeat 29 = .ok (.aload_n 0, 1) := by decide +kernel
theorem dX4_repeat_30 : decode cX4_repeat 30 = .ok (.getfield 38, 3) := by decide +kernel
theorem dX4_repeat_33 : decode cX4_repeat 33 = .ok (.isub, 1) := by decide +kernel
theorem dX4_repeat_34 : decode cX4_repeat 34 = .ok (.i2l, 1) := by decide +kernel
theorem dX4_repeat_35 : decode cX4_repeat 35 = .ok (.lcmp, 1) := by decide +kernel
theorem dX4_repeat_36 : decode cX4_repeat 36 = .ok (.ifCond .le 5, 3) := by decide +kernel
theorem dX4_repeat_39 : decode cX4_repeat 39 = .ok (.iconst 0, 1) := by decide +kernel
theorem dX4_repeat_40 : decode cX4_repeat 40 = .ok (.ireturn, 1) := by decide +kernel
theorem dX4_repeat_41 : decode cX4_repeat 41 = .ok (.iconst 0, 1) := by decide +kernel
theorem dX4_repeat_42 : decode cX4_repeat 42 = .ok (.istore_n 3, 1) := by decide +kernel
theorem dX4_repeat_43 : decode cX4_repeat 43 = .ok (.iload_n 3, 1) := by decide +kernel
theorem dX4_repeat_44 : decode cX4_repeat 44 = .ok (.iload_n 1, 1) := by decide +kernel
theorem dX4_repeat_45 : decode cX4_repeat 45 = .ok (.iload_n 2, 1) := by decide +kernel
theorem dX4_repeat_46 : decode cX4_repeat 46 = .ok (.imul, 1) := by decide +kernel
theorem dX4_repeat_47 : decode cX4_repeat 47 = .ok (.if_icmp .ge 39, 3) := by decide +kernel
theorem dX4_repeat_50 : decode cX4_repeat 50 = .ok (.aload_n 0, 1) := by decide +kernel
theorem dX4_repeat_51 : decode cX4_repeat 51 = .ok (.getfield 8, 3) := by decide +kernel
theorem dX4_repeat_54 : decode cX4_repeat 54 = .ok (.aload_n 0, 1) := by decide +kernel
theorem dX4_repeat_55 : decode cX4_repeat 55 = .ok (.getfield 38, 3) := by decide +kernel
theorem dX4_repeat_58 : decode cX4_repeat 58 = .ok (.aload_n 0, 1) := by decide +kernel
theorem dX4_repeat_59 : decode cX4_repeat 59 = .ok (.getfield 8, 3) := by decide +kernel
theorem dX4_repeat_62 : decode cX4_repeat 62 = .ok (.aload_n 0, 1) := by decide +kernel
theorem dX4_repeat_63 : decode cX4_repeat 63 = .ok (.getfield 38, 3) := by decide +kernel
theorem dX4_repeat_66 : decode cX4_repeat 66 = .ok (.iload_n 1, 1) := by decide +kernel
theorem dX4_repeat_67 : decode cX4_repeat 67 = .ok (.isub, 1) := by decide +kernel
theorem dX4_repeat_68 : decode cX4_repeat 68 = .ok (.caload, 1) := by decide +kernel
theorem dX4_repeat_69 : decode cX4_repeat 69 = .ok (.castore, 1) := by decide +kernel
theorem dX4_repeat_70 : decode cX4_repeat 70 = .ok (.aload_n 0, 1) := by decide +kernel
theorem dX4_repeat_71 : decode cX4_repeat 71 = .ok (.dup, 1) := by decide +kernel
theorem dX4_repeat_72 : decode cX4_repeat 72 = .ok (.getfield 38, 3) := by decide +kernel
theorem dX4_repeat_75 : decode cX4_repeat 75 = .ok (.iconst 1, 1) := by decide +kernel
theorem dX4_repeat_76 : decode cX4_repeat 76 = .ok (.iadd, 1) := by decide +kernel
theorem dX4_repeat_77 : decode cX4_repeat 77 = .ok (.putfield 38, 3) := by decide +kernel
theorem dX4_repeat_80 : decode cX4_repeat 80 = .ok (.iinc 3 1, 3) := by decide +kernel
theorem dX4_repeat_83 : decode cX4_repeat 83 = .ok (.goto (-40), 3) := by decide +kernel
theorem dX4_repeat_86 : decode cX4_repeat 86 = .ok (.iconst 1, 1) := by decide +kernel
theorem dX4_repeat_87 : decode cX4_repeat 87 = .ok (.ireturn, 1) := by decide +kernel
theorem dX4_read_0 : decode cX4_read 0 = .ok (.aload_n 0, 1) := by decide +kernel
theorem dX4_read_1 : decode cX4_read 1 = .ok (.iconst 0, 1) := by decide +kernel
theorem dX4_read_2 : decode cX4_read 2 = .ok (.putfield 24, 3) := by decide +kernel
theorem dX4_read_5 : decode cX4_read 5 = .ok (.iload_n 1, 1) := by decide +kernel
theorem dX4_read_6 : decode cX4_read 6 = .ok (.invokestatic 41, 3) := by decide +kernel
theorem dX4_read_9 : decode cX4_read 9 = .ok (.ifCond .ne 6, 3) := by decide +kernel
theorem dX4_read_12 : decode cX4_read 12 = .ok (.bipush (-3), 2) := by decide +kernel
theorem dX4_read_14 : decode cX4_read 14 = .ok (.ireturn, 1) := by decide +kernel
theorem dX4_read_15 : decode cX4_read 15 = .ok (.aload_n 0, 1) := by decide +kernel
theorem dX4_read_16 : decode cX4_read 16 = .ok (.getfield 38, 3) := by decide +kernel
theorem dX4_read_19 : decode cX4_read 19 = .ok (.istore_n 2, 1) := by decide +kernel
theorem dX4_read_20 : decode cX4_read 20 = .ok (.aload_n 0, 1) := by decide +kernel
theorem dX4_read_21 : decode cX4_read 21 = .ok (.iconst 0, 1) := by decide +kernel
theorem dX4_read_22 : decode cX4_read 22 = .ok (.putfield 38, 3) := by decide +kernel
theorem dX4_read_25 : decode cX4_read 25 = .ok (.aload_n 0, 1) := by decide +kernel
theorem dX4_read_26 : decode cX4_read 26 = .ok (.iconst 0, 1) := by decide +kernel
theorem dX4_read_27 : decode cX4_read 27 = .ok (.putfield 28, 3) := by decide +kernel
theorem dX4_read_30 : decode cX4_read 30 = .ok (.iconst 0, 1) := by decide +kernel
theorem dX4_read_31 : decode cX4_read 31 = .ok (.istore_n 3, 1) := by decide +kernel
theorem dX4_read_32 : decode cX4_read 32 = .ok (.iload_n 3, 1) := by decide +kernel
theorem dX4_read_33 : decode cX4_read 33 = .ok (.iload_n 2, 1) := by decide +kernel
theorem dX4_read_34 : decode cX4_read 34 = .ok (.if_icmp .ge 24, 3) := by decide +kernel
theorem dX4_read_37 : decode cX4_read 37 = .ok (.aload_n 0, 1) := by decide +kernel
theorem dX4_read_38 : decode cX4_read 38 = .ok (.getfield 8, 3) := by decide +kernel
theorem dX4_read_41 : decode cX4_read 41 = .ok (.iload_n 3, 1) := by decide +kernel
theorem dX4_read_42 : decode cX4_read 42 = .ok (.caload, 1) := by decide +kernel
theorem dX4_read_43 : decode cX4_read 43 = .ok (.invokestatic 45, 3) := by decide +kernel
theorem dX4_read_46 : decode cX4_read 46 = .ok (.iload_n 1, 1) := by decide +kernel
theorem dX4_read_47 : decode cX4_read 47 = .ok (.if_icmp .lt 5, 3) := by decide +kernel
theorem dX4_read_50 : decode cX4_read 50 = .ok (.iload_n 3, 1) := by decide +kernel
theorem dX4_read_51 : decode cX4_read 51 = .ok (.ireturn, 1) := by decide +kernel
theorem dX4_read_52 : decode cX4_read 52 = .ok (.iinc 3 1, 3) := by decide +kernel
theorem dX4_read_55 : decode cX4_read 55 = .ok (.goto (-23), 3) := by decide +kernel
theorem dX4_read_58 : decode cX4_read 58 = .ok (.iload_n 2, 1) := by decide +kernel
theorem dX4_read_59 : decode cX4_read 59 = .ok (.ifCond .ne 5, 3) := by decide +kernel
theorem dX4_read_62 : decode cX4_read 62 = .ok (.iconst 0, 1) := by decide +kernel
theorem dX4_read_63 : decode cX4_read 63 = .ok (.ireturn, 1) := by decide +kernel
theorem dX4_read_64 : decode cX4_read 64 = .ok (.iconst 0, 1) := by decide +kernel
theorem dX4_read_65 : decode cX4_read 65 = .ok (.istore_n 3, 1) := by decide +kernel
theorem dX4_read_66 : decode cX4_read 66 = .ok (.iload_n 3, 1) := by decide +kernel
theorem dX4_read_67 : decode cX4_read 67 = .ok (.iload_n 2, 1) := by decide +kernel
theorem dX4_read_68 : decode cX4_read 68 = .ok (.if_icmp .ge 29, 3) := by decide +kernel
theorem dX4_read_71 : decode cX4_read 71 = .ok (.aload_n 0, 1) := by decide +kernel
theorem dX4_read_72 : decode cX4_read 72 = .ok (.iload_n 1, 1) := by decide +kernel
theorem dX4_read_73 : decode cX4_read 73 = .ok (.aload_n 0, 1) := by decide +kernel
theorem dX4_read_74 : decode cX4_read 74 = .ok (.getfield 8, 3) := by decide +kernel
theorem dX4_read_77 : decode cX4_read 77 = .ok (.iload_n 3, 1) := by decide +kernel
theorem dX4_read_78 : decode cX4_read 78 = .ok (.caload, 1) := by decide +kernel
theorem dX4_read_79 : decode cX4_read 79 = .ok (.invokestatic 45, 3) := by decide +kernel
theorem dX4_read_82 : decode cX4_read 82 = .ok (.invokevirtual 49, 3) := by decide +kernel
theorem dX4_read_85 : decode cX4_read 85 = .ok (.ifCond .ne 6, 3) := by decide +kernel
theorem dX4_read_88 : decode cX4_read 88 = .ok (.bipush (-2), 2) := by decide +kernel
theorem dX4_read_90 : decode cX4_read 90 = .ok (.ireturn, 1) := by decide +kernel
theorem dX4_read_91 : decode cX4_read 91 = .ok (.iinc 3 1, 3) := by decide +kernel
theorem dX4_read_94 : decode cX4_read 94 = .ok (.goto (-28), 3) := by decide +kernel
theorem dX4_read_97 : decode cX4_read 97 = .ok (.aload_n 0, 1) := by decide +kernel
theorem dX4_read_98 : decode cX4_read 98 = .ok (.invokevirtual 53, 3) := by decide +kernel
theorem dX4_read_101 : decode cX4_read 101 = .ok (.iconst (-1), 1) := by decide +kernel
theorem dX4_read_102 : decode cX4_read 102 = .ok (.ireturn, 1) := by decide +kernel
theorem dX4_turnOut_0 : decode cX4_turnOut 0 = .ok (.iconst 0, 1) := by decide +kernel
theorem dX4_turnOut_1 : decode cX4_turnOut 1 = .ok (.istore_n 1, 1) := by decide +kernel
theorem dX4_turnOut_2 : decode cX4_turnOut 2 = .ok (.aload_n 0, 1) := by decide +kernel
theorem dX4_turnOut_3 : decode cX4_turnOut 3 = .ok (.getfield 56, 3) := by decide +kernel
theorem dX4_turnOut_6 : decode cX4_turnOut 6 = .ok (.iconst 1, 1) := by decide +kernel
theorem dX4_turnOut_7 : decode cX4_turnOut 7 = .ok (.isub, 1) := by decide +kernel
theorem dX4_turnOut_8 : decode cX4_turnOut 8 = .ok (.istore_n 2, 1) := by decide +kernel
theorem dX4_turnOut_9 : decode cX4_turnOut 9 = .ok (.iload_n 1, 1) := by decide +kernel
theorem dX4_turnOut_10 : decode cX4_turnOut 10 = .ok (.iload_n 2, 1) := by decide +kernel
theorem dX4_turnOut_11 : decode cX4_turnOut 11 = .ok (.if_icmp .ge 38, 3) := by decide +kernel
theorem dX4_turnOut_14 : decode cX4_turnOut 14 = .ok (.aload_n 0, 1) := by decide +kernel
theorem dX4_turnOut_15 : decode cX4_turnOut 15 = .ok (.getfield 14, 3) := by decide +kernel
theorem dX4_turnOut_18 : decode cX4_turnOut 18 = .ok (.iload_n 1, 1) := by decide +kernel
theorem dX4_turnOut_19 : decode cX4_turnOut 19 = .ok (.caload, 1) := by decide +kernel
theorem dX4_turnOut_20 : decode cX4_turnOut 20 = .ok (.istore_n 3, 1) := by decide +kernel
theorem dX4_turnOut_21 : decode cX4_turnOut 21 = .ok (.aload_n 0, 1) := by decide +kernel
theorem dX4_turnOut_22 : decode cX4_turnOut 22 = .ok (.getfield 14, 3) := by decide +kernel
theorem dX4_turnOut_25 : decode cX4_turnOut 25 = .ok (.iload_n 1, 1) := by decide +kernel
theorem dX4_turnOut_26 : decode cX4_turnOut 26 = .ok (.aload_n 0, 1) := by decide +kernel
theorem dX4_turnOut_27 : decode cX4_turnOut 27 = .ok (.getfield 14, 3) := by decide +kernel
theorem dX4_turnOut_30 : decode cX4_turnOut 30 = .ok (.iload_n 2, 1) := by decide +kernel
theorem dX4_turnOut_31 : decode cX4_turnOut 31 = .ok (.caload, 1) := by decide +kernel
theorem dX4_turnOut_32 : decode cX4_turnOut 32 = .ok (.castore, 1) := by decide +kernel
theorem dX4_turnOut_33 : decode cX4_turnOut 33 = .ok (.aload_n 0, 1) := by decide +kernel
theorem dX4_turnOut_34 : decode cX4_turnOut 34 = .ok (.getfield 14, 3) := by decide +kernel
theorem dX4_turnOut_37 : decode cX4_turnOut 37 = .ok (.iload_n 2, 1) := by decide +kernel
theorem dX4_turnOut_38 : decode cX4_turnOut 38 = .ok (.iload_n 3, 1) := by decide +kernel
theorem dX4_turnOut_39 : decode cX4_turnOut 39 = .ok (.castore, 1) := by decide +kernel
theorem dX4_turnOut_40 : decode cX4_turnOut 40 = .ok (.iinc 1 1, 3) := by decide +kernel
theorem dX4_turnOut_43 : decode cX4_turnOut 43 = .ok (.iinc 2 (-1), 3) := by decide +kernel
theorem dX4_turnOut_46 : decode cX4_turnOut 46 = .ok (.goto (-37), 3) := by decide +kernel
theorem dX4_turnOut_49 : decode cX4_turnOut 49 = .ok (.return_, 1) := by decide +kernel
theorem dX4_write_0 : decode cX4_write 0 = .ok (.aload_n 0, 1) := by decide +kernel
theorem dX4_write_1 : decode cX4_write 1 = .ok (.iconst 0, 1) := by decide +kernel
theorem dX4_write_2 : decode cX4_write 2 = .ok (.putfield 24, 3) := by decide +kernel
theorem dX4_write_5 : decode cX4_write 5 = .ok (.iload_n 1, 1) := by decide +kernel
theorem dX4_write_6 : decode cX4_write 6 = .ok (.invokestatic 41, 3) := by decide +kernel
theorem dX4_write_9 : decode cX4_write 9 = .ok (.ifCond .ne 5, 3) := by decide +kernel
theorem dX4_write_12 : decode cX4_write 12 = .ok (.iconst (-1), 1) := by decide +kernel
theorem dX4_write_13 : decode cX4_write 13 = .ok (.ireturn, 1) := by decide +kernel
theorem dX4_write_14 : decode cX4_write 14 = .ok (.aload_n 0, 1) := by decide +kernel
theorem dX4_write_15 : decode cX4_write 15 = .ok (.invokevirtual 59, 3) := by decide +kernel
theorem dX4_write_18 : decode cX4_write 18 = .ok (.aload_n 0, 1) := by decide +kernel
theorem dX4_write_19 : decode cX4_write 19 = .ok (.iconst 0, 1) := by decide +kernel
theorem dX4_write_20 : decode cX4_write 20 = .ok (.putfield 56, 3) := by decide +kernel
theorem dX4_write_23 : decode cX4_write 23 = .ok (.iconst 1, 1) := by decide +kernel
theorem dX4_write_24 : decode cX4_write 24 = .ok (.istore_n 2, 1) := by decide +kernel
theorem dX4_write_25 : decode cX4_write 25 = .ok (.iload_n 1, 1) := by decide +kernel
theorem dX4_write_26 : decode cX4_write 26 = .ok (.istore_n 3, 1) := by decide +kernel
theorem dX4_write_27 : decode cX4_write 27 = .ok (.iload_n 3, 1) := by decide +kernel
theorem dX4_write_28 : decode cX4_write 28 = .ok (.iload_n 1, 1) := by decide +kernel
theorem dX4_write_29 : decode cX4_write 29 = .ok (.imul, 1) := by decide +kernel
theorem dX4_write_30 : decode cX4_write 30 = .ok (.ldc 62, 2) := by decide +kernel
theorem dX4_write_32 : decode cX4_write 32 = .ok (.if_icmp .ge 13, 3) := by decide +kernel
theorem dX4_write_35 : decode cX4_write 35 = .ok (.iload_n 3, 1) := by decide +kernel
theorem dX4_write_36 : decode cX4_write 36 = .ok (.iload_n 1, 1) := by decide +kernel
theorem dX4_write_37 : decode cX4_write 37 = .ok (.imul, 1) := by decide +kernel
theorem dX4_write_38 : decode cX4_write 38 = .ok (.istore_n 3, 1) := by decide +kernel
theorem dX4_write_39 : decode cX4_write 39 = .ok (.iinc 2 1, 3) := by decide +kernel
theorem dX4_write_42 : decode cX4_write 42 = .ok (.goto (-15), 3) := by decide +kernel
theorem dX4_write_45 : decode cX4_write 45 = .ok (.aload_n 0, 1) := by decide +kernel
theorem dX4_write_46 : decode cX4_write 46 = .ok (.getfield 28, 3) := by decide +kernel
theorem dX4_write_49 : decode cX4_write 49 = .ok (.ifCond .le 72, 3) := by decide +kernel
theorem dX4_write_52 : decode cX4_write 52 = .ok (.aload_n 0, 1) := by decide +kernel
theorem dX4_write_53 : decode cX4_write 53 = .ok (.iload_n 3, 1) := by decide +kernel
theorem dX4_write_54 : decode cX4_write 54 = .ok (.invokevirtual 63, 3) := by decide +kernel
theorem dX4_write_57 : decode cX4_write 57 = .ok (.istore 4, 2) := by decide +kernel
theorem dX4_write_59 : decode cX4_write 59 = .ok (.iconst 0, 1) := by decide +kernel
theorem dX4_write_60 : decode cX4_write 60 = .ok (.istore 5, 2) := by decide +kernel
theorem dX4_write_62 : decode cX4_write 62 = .ok (.iload 5, 2) := by decide +kernel
theorem dX4_write_64 : decode cX4_write 64 = .ok (.iload_n 2, 1) := by decide +kernel
theorem dX4_write_65 : decode cX4_write 65 = .ok (.if_icmp .ge 53, 3) := by decide +kernel
theorem dX4_write_68 : decode cX4_write 68 = .ok (.aload_n 0, 1) := by decide +kernel
theorem dX4_write_69 : decode cX4_write 69 = .ok (.getfield 28, 3) := by decide +kernel
theorem dX4_write_72 : decode cX4_write 72 = .ok (.ifCond .gt 8, 3) := by decide +kernel
theorem dX4_write_75 : decode cX4_write 75 = .ok (.iload 4, 2) := by decide +kernel
theorem dX4_write_77 : decode cX4_write 77 = .ok (.ifCond .le 41, 3) := by decide +kernel
theorem dX4_write_80 : decode cX4_write 80 = .ok (.aload_n 0, 1) := by decide +kernel
theorem dX4_write_81 : decode cX4_write 81 = .ok (.getfield 14, 3) := by decide +kernel
theorem dX4_write_84 : decode cX4_write 84 = .ok (.aload_n 0, 1) := by decide +kernel
theorem dX4_write_85 : decode cX4_write 85 = .ok (.getfield 56, 3) := by decide +kernel
theorem dX4_write_88 : decode cX4_write 88 = .ok (.iload 4, 2) := by decide +kernel
theorem dX4_write_90 : decode cX4_write 90 = .ok (.iload_n 1, 1) := by decide +kernel
theorem dX4_write_91 : decode cX4_write 91 = .ok (.irem, 1) := by decide +kernel
theorem dX4_write_92 : decode cX4_write 92 = .ok (.invokestatic 66, 3) := by decide +kernel
theorem dX4_write_95 : decode cX4_write 95 = .ok (.castore, 1) := by decide +kernel
theorem dX4_write_96 : decode cX4_write 96 = .ok (.aload_n 0, 1) := by decide +kernel
theorem dX4_write_97 : decode cX4_write 97 = .ok (.dup, 1) := by decide +kernel
theorem dX4_write_98 : decode cX4_write 98 = .ok (.getfield 56, 3) := by decide +kernel
theorem dX4_write_101 : decode cX4_write 101 = .ok (.iconst 1, 1) := by decide +kernel
theorem dX4_write_102 : decode cX4_write 102 = .ok (.iadd, 1) := by decide +kernel
theorem dX4_write_103 : decode cX4_write 103 = .ok (.putfield 56, 3) := by decide +kernel
theorem dX4_write_106 : decode cX4_write 106 = .ok (.iload 4, 2) := by decide +kernel
theorem dX4_write_108 : decode cX4_write 108 = .ok (.iload_n 1, 1) := by decide +kernel
theorem dX4_write_109 : decode cX4_write 109 = .ok (.idiv, 1) := by decide +kernel
theorem dX4_write_110 : decode cX4_write 110 = .ok (.istore 4, 2) := by decide +kernel
theorem dX4_write_112 : decode cX4_write 112 = .ok (.iinc 5 1, 3) := by decide +kernel
theorem dX4_write_115 : decode cX4_write 115 = .ok (.goto (-53), 3) := by decide +kernel
theorem dX4_write_118 : decode cX4_write 118 = .ok (.goto (-73), 3) := by decide +kernel
theorem dX4_write_121 : decode cX4_write 121 = .ok (.aload_n 0, 1) := by decide +kernel
theorem dX4_write_122 : decode cX4_write 122 = .ok (.getfield 56, 3) := by decide +kernel
theorem dX4_write_125 : decode cX4_write 125 = .ok (.ifCond .ne 16, 3) := by decide +kernel
theorem dX4_write_128 : decode cX4_write 128 = .ok (.aload_n 0, 1) := by decide +kernel
theorem dX4_write_129 : decode cX4_write 129 = .ok (.getfield 14, 3) := by decide +kernel
theorem dX4_write_132 : decode cX4_write 132 = .ok (.iconst 0, 1) := by decide +kernel
theorem dX4_write_133 : decode cX4_write 133 = .ok (.bipush 48, 2) := by decide +kernel
