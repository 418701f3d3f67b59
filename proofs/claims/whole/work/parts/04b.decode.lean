theorem dX6_shown_40 : decode cX6_shown 40 = .ok (.iconst 1, 1) := by decide +kernel
theorem dX6_shown_41 : decode cX6_shown 41 = .ok (.isub, 1) := by decide +kernel
theorem dX6_shown_42 : decode cX6_shown 42 = .ok (.invokevirtual 77, 3) := by decide +kernel
theorem dX6_shown_45 : decode cX6_shown 45 = .ok (.ireturn, 1) := by decide +kernel
theorem dX6_shown_46 : decode cX6_shown 46 = .ok (.iconst 1, 1) := by decide +kernel
theorem dX6_shown_47 : decode cX6_shown 47 = .ok (.istore 6, 2) := by decide +kernel
theorem dX6_shown_49 : decode cX6_shown 49 = .ok (.iload 6, 2) := by decide +kernel
theorem dX6_shown_51 : decode cX6_shown 51 = .ok (.iload 5, 2) := by decide +kernel
theorem dX6_shown_53 : decode cX6_shown 53 = .ok (.if_icmp .gt 46, 3) := by decide +kernel
theorem dX6_shown_56 : decode cX6_shown 56 = .ok (.aload_n 0, 1) := by decide +kernel
theorem dX6_shown_57 : decode cX6_shown 57 = .ok (.iload 4, 2) := by decide +kernel
theorem dX6_shown_59 : decode cX6_shown 59 = .ok (.iload 5, 2) := by decide +kernel
theorem dX6_shown_61 : decode cX6_shown 61 = .ok (.iload 6, 2) := by decide +kernel
theorem dX6_shown_63 : decode cX6_shown 63 = .ok (.isub, 1) := by decide +kernel
theorem dX6_shown_64 : decode cX6_shown 64 = .ok (.invokevirtual 77, 3) := by decide +kernel
theorem dX6_shown_67 : decode cX6_shown 67 = .ok (.istore 7, 2) := by decide +kernel
theorem dX6_shown_69 : decode cX6_shown 69 = .ok (.aload_n 0, 1) := by decide +kernel
theorem dX6_shown_70 : decode cX6_shown 70 = .ok (.getfield 24, 3) := by decide +kernel
theorem dX6_shown_73 : decode cX6_shown 73 = .ok (.iload 7, 2) := by decide +kernel
theorem dX6_shown_75 : decode cX6_shown 75 = .ok (.iload 6, 2) := by decide +kernel
theorem dX6_shown_77 : decode cX6_shown 77 = .ok (.iload_n 3, 1) := by decide +kernel
theorem dX6_shown_78 : decode cX6_shown 78 = .ok (.aload_n 0, 1) := by decide +kernel
theorem dX6_shown_79 : decode cX6_shown 79 = .ok (.getfield 9, 3) := by decide +kernel
theorem dX6_shown_82 : decode cX6_shown 82 = .ok (.iload_n 1, 1) := by decide +kernel
theorem dX6_shown_83 : decode cX6_shown 83 = .ok (.iaload, 1) := by decide +kernel
theorem dX6_shown_84 : decode cX6_shown 84 = .ok (.invokevirtual 114, 3) := by decide +kernel
theorem dX6_shown_87 : decode cX6_shown 87 = .ok (.ifCond .eq 6, 3) := by decide +kernel
theorem dX6_shown_90 : decode cX6_shown 90 = .ok (.iload 7, 2) := by decide +kernel
theorem dX6_shown_92 : decode cX6_shown 92 = .ok (.ireturn, 1) := by decide +kernel
theorem dX6_shown_93 : decode cX6_shown 93 = .ok (.iinc 6 1, 3) := by decide +kernel
theorem dX6_shown_96 : decode cX6_shown 96 = .ok (.goto (-47), 3) := by decide +kernel
theorem dX6_shown_99 : decode cX6_shown 99 = .ok (.iconst (-1), 1) := by decide +kernel
theorem dX6_shown_100 : decode cX6_shown 100 = .ok (.ireturn, 1) := by decide +kernel
theorem dX6_shownLines_0 : decode cX6_shownLines 0 = .ok (.iconst 0, 1) := by decide +kernel
theorem dX6_shownLines_1 : decode cX6_shownLines 1 = .ok (.istore_n 3, 1) := by decide +kernel
theorem dX6_shownLines_2 : decode cX6_shownLines 2 = .ok (.iconst 0, 1) := by decide +kernel
theorem dX6_shownLines_3 : decode cX6_shownLines 3 = .ok (.istore 4, 2) := by decide +kernel
theorem dX6_shownLines_5 : decode cX6_shownLines 5 = .ok (.iload 4, 2) := by decide +kernel
theorem dX6_shownLines_7 : decode cX6_shownLines 7 = .ok (.aload_n 0, 1) := by decide +kernel
theorem dX6_shownLines_8 : decode cX6_shownLines 8 = .ok (.getfield 24, 3) := by decide +kernel
theorem dX6_shownLines_11 : decode cX6_shownLines 11 = .ok (.getfield 52, 3) := by decide +kernel
theorem dX6_shownLines_14 : decode cX6_shownLines 14 = .ok (.iload_n 1, 1) := by decide +kernel
theorem dX6_shownLines_15 : decode cX6_shownLines 15 = .ok (.iaload, 1) := by decide +kernel
theorem dX6_shownLines_16 : decode cX6_shownLines 16 = .ok (.if_icmp .ge 28, 3) := by decide +kernel
theorem dX6_shownLines_19 : decode cX6_shownLines 19 = .ok (.aload_n 0, 1) := by decide +kernel
theorem dX6_shownLines_20 : decode cX6_shownLines 20 = .ok (.iload_n 1, 1) := by decide +kernel
theorem dX6_shownLines_21 : decode cX6_shownLines 21 = .ok (.iload 4, 2) := by decide +kernel
theorem dX6_shownLines_23 : decode cX6_shownLines 23 = .ok (.iload_n 2, 1) := by decide +kernel
theorem dX6_shownLines_24 : decode cX6_shownLines 24 = .ok (.invokevirtual 118, 3) := by decide +kernel
theorem dX6_shownLines_27 : decode cX6_shownLines 27 = .ok (.iconst (-1), 1) := by decide +kernel
theorem dX6_shownLines_28 : decode cX6_shownLines 28 = .ok (.if_icmp .eq 10, 3) := by decide +kernel
theorem dX6_shownLines_31 : decode cX6_shownLines 31 = .ok (.iload_n 3, 1) := by decide +kernel
theorem dX6_shownLines_32 : decode cX6_shownLines 32 = .ok (.iconst 1, 1) := by decide +kernel
theorem dX6_shownLines_33 : decode cX6_shownLines 33 = .ok (.iload 4, 2) := by decide +kernel
theorem dX6_shownLines_35 : decode cX6_shownLines 35 = .ok (.ishl, 1) := by decide +kernel
theorem dX6_shownLines_36 : decode cX6_shownLines 36 = .ok (.ior, 1) := by decide +kernel
theorem dX6_shownLines_37 : decode cX6_shownLines 37 = .ok (.istore_n 3, 1) := by decide +kernel
theorem dX6_shownLines_38 : decode cX6_shownLines 38 = .ok (.iinc 4 1, 3) := by decide +kernel
theorem dX6_shownLines_41 : decode cX6_shownLines 41 = .ok (.goto (-36), 3) := by decide +kernel
theorem dX6_shownLines_44 : decode cX6_shownLines 44 = .ok (.iload_n 3, 1) := by decide +kernel
theorem dX6_shownLines_45 : decode cX6_shownLines 45 = .ok (.ireturn, 1) := by decide +kernel
theorem dX6_shownTexts_0 : decode cX6_shownTexts 0 = .ok (.iconst 0, 1) := by decide +kernel
theorem dX6_shownTexts_1 : decode cX6_shownTexts 1 = .ok (.istore_n 2, 1) := by decide +kernel
theorem dX6_shownTexts_2 : decode cX6_shownTexts 2 = .ok (.iconst 0, 1) := by decide +kernel
theorem dX6_shownTexts_3 : decode cX6_shownTexts 3 = .ok (.istore_n 3, 1) := by decide +kernel
theorem dX6_shownTexts_4 : decode cX6_shownTexts 4 = .ok (.iload_n 3, 1) := by decide +kernel
theorem dX6_shownTexts_5 : decode cX6_shownTexts 5 = .ok (.aload_n 0, 1) := by decide +kernel
theorem dX6_shownTexts_6 : decode cX6_shownTexts 6 = .ok (.getfield 24, 3) := by decide +kernel
theorem dX6_shownTexts_9 : decode cX6_shownTexts 9 = .ok (.getfield 36, 3) := by decide +kernel
theorem dX6_shownTexts_12 : decode cX6_shownTexts 12 = .ok (.if_icmp .ge 59, 3) := by decide +kernel
theorem dX6_shownTexts_15 : decode cX6_shownTexts 15 = .ok (.iconst 0, 1) := by decide +kernel
theorem dX6_shownTexts_16 : decode cX6_shownTexts 16 = .ok (.istore 4, 2) := by decide +kernel
theorem dX6_shownTexts_18 : decode cX6_shownTexts 18 = .ok (.iload 4, 2) := by decide +kernel
theorem dX6_shownTexts_20 : decode cX6_shownTexts 20 = .ok (.aload_n 0, 1) := by decide +kernel
theorem dX6_shownTexts_21 : decode cX6_shownTexts 21 = .ok (.getfield 24, 3) := by decide +kernel
theorem dX6_shownTexts_24 : decode cX6_shownTexts 24 = .ok (.getfield 52, 3) := by decide +kernel
theorem dX6_shownTexts_27 : decode cX6_shownTexts 27 = .ok (.iload_n 3, 1) := by decide +kernel
theorem dX6_shownTexts_28 : decode cX6_shownTexts 28 = .ok (.iaload, 1) := by decide +kernel
theorem dX6_shownTexts_29 : decode cX6_shownTexts 29 = .ok (.if_icmp .ge 36, 3) := by decide +kernel
theorem dX6_shownTexts_32 : decode cX6_shownTexts 32 = .ok (.aload_n 0, 1) := by decide +kernel
theorem dX6_shownTexts_33 : decode cX6_shownTexts 33 = .ok (.iload_n 3, 1) := by decide +kernel
theorem dX6_shownTexts_34 : decode cX6_shownTexts 34 = .ok (.iload 4, 2) := by decide +kernel
theorem dX6_shownTexts_36 : decode cX6_shownTexts 36 = .ok (.iload_n 1, 1) := by decide +kernel
theorem dX6_shownTexts_37 : decode cX6_shownTexts 37 = .ok (.invokevirtual 118, 3) := by decide +kernel
theorem dX6_shownTexts_40 : decode cX6_shownTexts 40 = .ok (.istore 5, 2) := by decide +kernel
theorem dX6_shownTexts_42 : decode cX6_shownTexts 42 = .ok (.iload_n 2, 1) := by decide +kernel
theorem dX6_shownTexts_43 : decode cX6_shownTexts 43 = .ok (.iload 5, 2) := by decide +kernel
theorem dX6_shownTexts_45 : decode cX6_shownTexts 45 = .ok (.iconst (-1), 1) := by decide +kernel
theorem dX6_shownTexts_46 : decode cX6_shownTexts 46 = .ok (.if_icmp .ne 7, 3) := by decide +kernel
theorem dX6_shownTexts_49 : decode cX6_shownTexts 49 = .ok (.iconst 0, 1) := by decide +kernel
theorem dX6_shownTexts_50 : decode cX6_shownTexts 50 = .ok (.goto 7, 3) := by decide +kernel
theorem dX6_shownTexts_53 : decode cX6_shownTexts 53 = .ok (.iconst 1, 1) := by decide +kernel
theorem dX6_shownTexts_54 : decode cX6_shownTexts 54 = .ok (.iload 5, 2) := by decide +kernel
theorem dX6_shownTexts_56 : decode cX6_shownTexts 56 = .ok (.ishl, 1) := by decide +kernel
theorem dX6_shownTexts_57 : decode cX6_shownTexts 57 = .ok (.ior, 1) := by decide +kernel
theorem dX6_shownTexts_58 : decode cX6_shownTexts 58 = .ok (.istore_n 2, 1) := by decide +kernel
theorem dX6_shownTexts_59 : decode cX6_shownTexts 59 = .ok (.iinc 4 1, 3) := by decide +kernel
theorem dX6_shownTexts_62 : decode cX6_shownTexts 62 = .ok (.goto (-44), 3) := by decide +kernel
theorem dX6_shownTexts_65 : decode cX6_shownTexts 65 = .ok (.iinc 3 1, 3) := by decide +kernel
theorem dX6_shownTexts_68 : decode cX6_shownTexts 68 = .ok (.goto (-64), 3) := by decide +kernel
theorem dX6_shownTexts_71 : decode cX6_shownTexts 71 = .ok (.iload_n 2, 1) := by decide +kernel
theorem dX6_shownTexts_72 : decode cX6_shownTexts 72 = .ok (.ireturn, 1) := by decide +kernel
theorem dX6_made_0 : decode cX6_made 0 = .ok (.iconst 0, 1) := by decide +kernel
theorem dX6_made_1 : decode cX6_made 1 = .ok (.istore_n 3, 1) := by decide +kernel
theorem dX6_made_2 : decode cX6_made 2 = .ok (.iconst 0, 1) := by decide +kernel
theorem dX6_made_3 : decode cX6_made 3 = .ok (.istore 4, 2) := by decide +kernel
theorem dX6_made_5 : decode cX6_made 5 = .ok (.iload 4, 2) := by decide +kernel
theorem dX6_made_7 : decode cX6_made 7 = .ok (.aload_n 0, 1) := by decide +kernel
theorem dX6_made_8 : decode cX6_made 8 = .ok (.getfield 24, 3) := by decide +kernel
theorem dX6_made_11 : decode cX6_made 11 = .ok (.getfield 36, 3) := by decide +kernel
theorem dX6_made_14 : decode cX6_made 14 = .ok (.if_icmp .ge 49, 3) := by decide +kernel
theorem dX6_made_17 : decode cX6_made 17 = .ok (.iconst 0, 1) := by decide +kernel
theorem dX6_made_18 : decode cX6_made 18 = .ok (.istore 5, 2) := by decide +kernel
theorem dX6_made_20 : decode cX6_made 20 = .ok (.iload 5, 2) := by decide +kernel
theorem dX6_made_22 : decode cX6_made 22 = .ok (.aload_n 0, 1) := by decide +kernel
theorem dX6_made_23 : decode cX6_made 23 = .ok (.getfield 24, 3) := by decide +kernel
theorem dX6_made_26 : decode cX6_made 26 = .ok (.getfield 52, 3) := by decide +kernel
theorem dX6_made_29 : decode cX6_made 29 = .ok (.iload 4, 2) := by decide +kernel
theorem dX6_made_31 : decode cX6_made 31 = .ok (.iaload, 1) := by decide +kernel
theorem dX6_made_32 : decode cX6_made 32 = .ok (.if_icmp .ge 25, 3) := by decide +kernel
theorem dX6_made_35 : decode cX6_made 35 = .ok (.aload_n 0, 1) := by decide +kernel
theorem dX6_made_36 : decode cX6_made 36 = .ok (.iload 4, 2) := by decide +kernel
theorem dX6_made_38 : decode cX6_made 38 = .ok (.iload 5, 2) := by decide +kernel
theorem dX6_made_40 : decode cX6_made 40 = .ok (.iload_n 2, 1) := by decide +kernel
theorem dX6_made_41 : decode cX6_made 41 = .ok (.invokevirtual 118, 3) := by decide +kernel
theorem dX6_made_44 : decode cX6_made 44 = .ok (.iload_n 1, 1) := by decide +kernel
theorem dX6_made_45 : decode cX6_made 45 = .ok (.if_icmp .ne 6, 3) := by decide +kernel
theorem dX6_made_48 : decode cX6_made 48 = .ok (.iinc 3 1, 3) := by decide +kernel
theorem dX6_made_51 : decode cX6_made 51 = .ok (.iinc 5 1, 3) := by decide +kernel
theorem dX6_made_54 : decode cX6_made 54 = .ok (.goto (-34), 3) := by decide +kernel
theorem dX6_made_57 : decode cX6_made 57 = .ok (.iinc 4 1, 3) := by decide +kernel
theorem dX6_made_60 : decode cX6_made 60 = .ok (.goto (-55), 3) := by decide +kernel
theorem dX6_made_63 : decode cX6_made 63 = .ok (.iload_n 3, 1) := by decide +kernel
theorem dX6_made_64 : decode cX6_made 64 = .ok (.ireturn, 1) := by decide +kernel
theorem dX6_isWhole_0 : decode cX6_isWhole 0 = .ok (.aload_n 0, 1) := by decide +kernel
theorem dX6_isWhole_1 : decode cX6_isWhole 1 = .ok (.iload_n 2, 1) := by decide +kernel
theorem dX6_isWhole_2 : decode cX6_isWhole 2 = .ok (.invokevirtual 122, 3) := by decide +kernel
theorem dX6_isWhole_5 : decode cX6_isWhole 5 = .ok (.iload_n 1, 1) := by decide +kernel
theorem dX6_isWhole_6 : decode cX6_isWhole 6 = .ok (.ishr, 1) := by decide +kernel
theorem dX6_isWhole_7 : decode cX6_isWhole 7 = .ok (.iconst 1, 1) := by decide +kernel
theorem dX6_isWhole_8 : decode cX6_isWhole 8 = .ok (.iand, 1) := by decide +kernel
theorem dX6_isWhole_9 : decode cX6_isWhole 9 = .ok (.ifCond .eq 7, 3) := by decide +kernel
theorem dX6_isWhole_12 : decode cX6_isWhole 12 = .ok (.iconst 1, 1) := by decide +kernel
theorem dX6_isWhole_13 : decode cX6_isWhole 13 = .ok (.goto 4, 3) := by decide +kernel
theorem dX6_isWhole_16 : decode cX6_isWhole 16 = .ok (.iconst 0, 1) := by decide +kernel
theorem dX6_isWhole_17 : decode cX6_isWhole 17 = .ok (.ireturn, 1) := by decide +kernel
theorem dX6_wholeTexts_0 : decode cX6_wholeTexts 0 = .ok (.iconst 0, 1) := by decide +kernel
theorem dX6_wholeTexts_1 : decode cX6_wholeTexts 1 = .ok (.istore_n 2, 1) := by decide +kernel
theorem dX6_wholeTexts_2 : decode cX6_wholeTexts 2 = .ok (.iconst 0, 1) := by decide +kernel
theorem dX6_wholeTexts_3 : decode cX6_wholeTexts 3 = .ok (.istore_n 3, 1) := by decide +kernel
theorem dX6_wholeTexts_4 : decode cX6_wholeTexts 4 = .ok (.iload_n 3, 1) := by decide +kernel
theorem dX6_wholeTexts_5 : decode cX6_wholeTexts 5 = .ok (.aload_n 0, 1) := by decide +kernel
theorem dX6_wholeTexts_6 : decode cX6_wholeTexts 6 = .ok (.getfield 24, 3) := by decide +kernel
theorem dX6_wholeTexts_9 : decode cX6_wholeTexts 9 = .ok (.getfield 36, 3) := by decide +kernel
theorem dX6_wholeTexts_12 : decode cX6_wholeTexts 12 = .ok (.if_icmp .ge 97, 3) := by decide +kernel
theorem dX6_wholeTexts_15 : decode cX6_wholeTexts 15 = .ok (.iconst (-1), 1) := by decide +kernel
theorem dX6_wholeTexts_16 : decode cX6_wholeTexts 16 = .ok (.istore 4, 2) := by decide +kernel
theorem dX6_wholeTexts_18 : decode cX6_wholeTexts 18 = .ok (.iconst 0, 1) := by decide +kernel
theorem dX6_wholeTexts_19 : decode cX6_wholeTexts 19 = .ok (.istore 5, 2) := by decide +kernel
theorem dX6_wholeTexts_21 : decode cX6_wholeTexts 21 = .ok (.iconst 0, 1) := by decide +kernel
theorem dX6_wholeTexts_22 : decode cX6_wholeTexts 22 = .ok (.istore 6, 2) := by decide +kernel
theorem dX6_wholeTexts_24 : decode cX6_wholeTexts 24 = .ok (.iload 6, 2) := by decide +kernel
theorem dX6_wholeTexts_26 : decode cX6_wholeTexts 26 = .ok (.aload_n 0, 1) := by decide +kernel
theorem dX6_wholeTexts_27 : decode cX6_wholeTexts 27 = .ok (.getfield 24, 3) := by decide +kernel
theorem dX6_wholeTexts_30 : decode cX6_wholeTexts 30 = .ok (.getfield 52, 3) := by decide +kernel
theorem dX6_wholeTexts_33 : decode cX6_wholeTexts 33 = .ok (.iload_n 3, 1) := by decide +kernel
theorem dX6_wholeTexts_34 : decode cX6_wholeTexts 34 = .ok (.iaload, 1) := by decide +kernel
theorem dX6_wholeTexts_35 : decode cX6_wholeTexts 35 = .ok (.if_icmp .ge 68, 3) := by decide +kernel
theorem dX6_wholeTexts_38 : decode cX6_wholeTexts 38 = .ok (.aload_n 0, 1) := by decide +kernel
theorem dX6_wholeTexts_39 : decode cX6_wholeTexts 39 = .ok (.iload_n 3, 1) := by decide +kernel
theorem dX6_wholeTexts_40 : decode cX6_wholeTexts 40 = .ok (.iload 6, 2) := by decide +kernel
theorem dX6_wholeTexts_42 : decode cX6_wholeTexts 42 = .ok (.iload_n 1, 1) := by decide +kernel
theorem dX6_wholeTexts_43 : decode cX6_wholeTexts 43 = .ok (.invokevirtual 118, 3) := by decide +kernel
theorem dX6_wholeTexts_46 : decode cX6_wholeTexts 46 = .ok (.istore 7, 2) := by decide +kernel
theorem dX6_wholeTexts_48 : decode cX6_wholeTexts 48 = .ok (.iload 7, 2) := by decide +kernel
theorem dX6_wholeTexts_50 : decode cX6_wholeTexts 50 = .ok (.iload 4, 2) := by decide +kernel
theorem dX6_wholeTexts_52 : decode cX6_wholeTexts 52 = .ok (.if_icmp .ne 10, 3) := by decide +kernel
theorem dX6_wholeTexts_55 : decode cX6_wholeTexts 55 = .ok (.iload 5, 2) := by decide +kernel
theorem dX6_wholeTexts_57 : decode cX6_wholeTexts 57 = .ok (.iconst 1, 1) := by decide +kernel
theorem dX6_wholeTexts_58 : decode cX6_wholeTexts 58 = .ok (.iadd, 1) := by decide +kernel
theorem dX6_wholeTexts_59 : decode cX6_wholeTexts 59 = .ok (.goto 4, 3) := by decide +kernel
theorem dX6_wholeTexts_62 : decode cX6_wholeTexts 62 = .ok (.iconst 1, 1) := by decide +kernel
theorem dX6_wholeTexts_63 : decode cX6_wholeTexts 63 = .ok (.istore 5, 2) := by decide +kernel
theorem dX6_wholeTexts_65 : decode cX6_wholeTexts 65 = .ok (.iload 7, 2) := by decide +kernel
theorem dX6_wholeTexts_67 : decode cX6_wholeTexts 67 = .ok (.istore 4, 2) := by decide +kernel
theorem dX6_wholeTexts_69 : decode cX6_wholeTexts 69 = .ok (.iload 7, 2) := by decide +kernel
theorem dX6_wholeTexts_71 : decode cX6_wholeTexts 71 = .ok (.iconst (-1), 1) := by decide +kernel
theorem dX6_wholeTexts_72 : decode cX6_wholeTexts 72 = .ok (.if_icmp .eq 25, 3) := by decide +kernel
theorem dX6_wholeTexts_75 : decode cX6_wholeTexts 75 = .ok (.iload 5, 2) := by decide +kernel
theorem dX6_wholeTexts_77 : decode cX6_wholeTexts 77 = .ok (.aload_n 0, 1) := by decide +kernel
theorem dX6_wholeTexts_78 : decode cX6_wholeTexts 78 = .ok (.getfield 24, 3) := by decide +kernel
theorem dX6_wholeTexts_81 : decode cX6_wholeTexts 81 = .ok (.getfield 61, 3) := by decide +kernel
theorem dX6_wholeTexts_84 : decode cX6_wholeTexts 84 = .ok (.iload 7, 2) := by decide +kernel
theorem dX6_wholeTexts_86 : decode cX6_wholeTexts 86 = .ok (.iaload, 1) := by decide +kernel
theorem dX6_wholeTexts_87 : decode cX6_wholeTexts 87 = .ok (.if_icmp .lt 10, 3) := by decide +kernel
theorem dX6_wholeTexts_90 : decode cX6_wholeTexts 90 = .ok (.iload_n 2, 1) := by decide +kernel
theorem dX6_wholeTexts_91 : decode cX6_wholeTexts 91 = .ok (.iconst 1, 1) := by decide +kernel
theorem dX6_wholeTexts_92 : decode cX6_wholeTexts 92 = .ok (.iload 7, 2) := by decide +kernel
theorem dX6_wholeTexts_94 : decode cX6_wholeTexts 94 = .ok (.ishl, 1) := by decide +kernel
theorem dX6_wholeTexts_95 : decode cX6_wholeTexts 95 = .ok (.ior, 1) := by decide +kernel
theorem dX6_wholeTexts_96 : decode cX6_wholeTexts 96 = .ok (.istore_n 2, 1) := by decide +kernel
theorem dX6_wholeTexts_97 : decode cX6_wholeTexts 97 = .ok (.iinc 6 1, 3) := by decide +kernel
theorem dX6_wholeTexts_100 : decode cX6_wholeTexts 100 = .ok (.goto (-76), 3) := by decide +kernel
theorem dX6_wholeTexts_103 : decode cX6_wholeTexts 103 = .ok (.iinc 3 1, 3) := by decide +kernel
theorem dX6_wholeTexts_106 : decode cX6_wholeTexts 106 = .ok (.goto (-102), 3) := by decide +kernel
theorem dX6_wholeTexts_109 : decode cX6_wholeTexts 109 = .ok (.iload_n 2, 1) := by decide +kernel
theorem dX6_wholeTexts_110 : decode cX6_wholeTexts 110 = .ok (.ireturn, 1) := by decide +kernel
theorem dX6_textsLaid_0 : decode cX6_textsLaid 0 = .ok (.iconst 0, 1) := by decide +kernel
theorem dX6_textsLaid_1 : decode cX6_textsLaid 1 = .ok (.istore_n 1, 1) := by decide +kernel
theorem dX6_textsLaid_2 : decode cX6_textsLaid 2 = .ok (.iconst 0, 1) := by decide +kernel
theorem dX6_textsLaid_3 : decode cX6_textsLaid 3 = .ok (.istore_n 2, 1) := by decide +kernel
theorem dX6_textsLaid_4 : decode cX6_textsLaid 4 = .ok (.iload_n 2, 1) := by decide +kernel
theorem dX6_textsLaid_5 : decode cX6_textsLaid 5 = .ok (.bipush 18, 2) := by decide +kernel
theorem dX6_textsLaid_7 : decode cX6_textsLaid 7 = .ok (.if_icmp .ge 38, 3) := by decide +kernel
theorem dX6_textsLaid_10 : decode cX6_textsLaid 10 = .ok (.iconst 0, 1) := by decide +kernel
theorem dX6_textsLaid_11 : decode cX6_textsLaid 11 = .ok (.istore_n 3, 1) := by decide +kernel
theorem dX6_textsLaid_12 : decode cX6_textsLaid 12 = .ok (.iload_n 3, 1) := by decide +kernel
theorem dX6_textsLaid_13 : decode cX6_textsLaid 13 = .ok (.aload_n 0, 1) := by decide +kernel
theorem dX6_textsLaid_14 : decode cX6_textsLaid 14 = .ok (.getfield 18, 3) := by decide +kernel
theorem dX6_textsLaid_17 : decode cX6_textsLaid 17 = .ok (.iload_n 2, 1) := by decide +kernel
theorem dX6_textsLaid_18 : decode cX6_textsLaid 18 = .ok (.iaload, 1) := by decide +kernel
theorem dX6_textsLaid_19 : decode cX6_textsLaid 19 = .ok (.if_icmp .ge 20, 3) := by decide +kernel
theorem dX6_textsLaid_22 : decode cX6_textsLaid 22 = .ok (.iload_n 1, 1) := by decide +kernel
theorem dX6_textsLaid_23 : decode cX6_textsLaid 23 = .ok (.iconst 1, 1) := by decide +kernel
theorem dX6_textsLaid_24 : decode cX6_textsLaid 24 = .ok (.aload_n 0, 1) := by decide +kernel
theorem dX6_textsLaid_25 : decode cX6_textsLaid 25 = .ok (.iload_n 2, 1) := by decide +kernel
theorem dX6_textsLaid_26 : decode cX6_textsLaid 26 = .ok (.iload_n 3, 1) := by decide +kernel
theorem dX6_textsLaid_27 : decode cX6_textsLaid 27 = .ok (.invokevirtual 77, 3) := by decide +kernel
theorem dX6_textsLaid_30 : decode cX6_textsLaid 30 = .ok (.ishl, 1) := by decide +kernel
theorem dX6_textsLaid_31 : decode cX6_textsLaid 31 = .ok (.ior, 1) := by decide +kernel
theorem dX6_textsLaid_32 : decode cX6_textsLaid 32 = .ok (.istore_n 1, 1) := by decide +kernel
theorem dX6_textsLaid_33 : decode cX6_textsLaid 33 = .ok (.iinc 3 1, 3) := by decide +kernel
theorem dX6_textsLaid_36 : decode cX6_textsLaid 36 = .ok (.goto (-24), 3) := by decide +kernel
theorem dX6_textsLaid_39 : decode cX6_textsLaid 39 = .ok (.iinc 2 1, 3) := by decide +kernel
theorem dX6_textsLaid_42 : decode cX6_textsLaid 42 = .ok (.goto (-38), 3) := by decide +kernel
theorem dX6_textsLaid_45 : decode cX6_textsLaid 45 = .ok (.iload_n 1, 1) := by decide +kernel
theorem dX6_textsLaid_46 : decode cX6_textsLaid 46 = .ok (.ireturn, 1) := by decide +kernel
theorem dX6_textsOver_0 : decode cX6_textsOver 0 = .ok (.iconst 0, 1) := by decide +kernel
theorem dX6_textsOver_1 : decode cX6_textsOver 1 = .ok (.istore_n 2, 1) := by decide +kernel
theorem dX6_textsOver_2 : decode cX6_textsOver 2 = .ok (.iconst 0, 1) := by decide +kernel
theorem dX6_textsOver_3 : decode cX6_textsOver 3 = .ok (.istore_n 3, 1) := by decide +kernel
theorem dX6_textsOver_4 : decode cX6_textsOver 4 = .ok (.iload_n 3, 1) := by decide +kernel
theorem dX6_textsOver_5 : decode cX6_textsOver 5 = .ok (.bipush 18, 2) := by decide +kernel
theorem dX6_textsOver_7 : decode cX6_textsOver 7 = .ok (.if_icmp .ge 73, 3) := by decide +kernel
theorem dX6_textsOver_10 : decode cX6_textsOver 10 = .ok (.iconst 0, 1) := by decide +kernel
theorem dX6_textsOver_11 : decode cX6_textsOver 11 = .ok (.istore 4, 2) := by decide +kernel
theorem dX6_textsOver_13 : decode cX6_textsOver 13 = .ok (.iconst 0, 1) := by decide +kernel
theorem dX6_textsOver_14 : decode cX6_textsOver 14 = .ok (.istore 5, 2) := by decide +kernel
theorem dX6_textsOver_16 : decode cX6_textsOver 16 = .ok (.iload 5, 2) := by decide +kernel
theorem dX6_textsOver_18 : decode cX6_textsOver 18 = .ok (.aload_n 0, 1) := by decide +kernel
theorem dX6_textsOver_19 : decode cX6_textsOver 19 = .ok (.getfield 18, 3) := by decide +kernel
theorem dX6_textsOver_22 : decode cX6_textsOver 22 = .ok (.iload_n 3, 1) := by decide +kernel
theorem dX6_textsOver_23 : decode cX6_textsOver 23 = .ok (.iaload, 1) := by decide +kernel
theorem dX6_textsOver_24 : decode cX6_textsOver 24 = .ok (.if_icmp .ge 50, 3) := by decide +kernel
theorem dX6_textsOver_27 : decode cX6_textsOver 27 = .ok (.aload_n 0, 1) := by decide +kernel
theorem dX6_textsOver_28 : decode cX6_textsOver 28 = .ok (.iload_n 3, 1) := by decide +kernel
theorem dX6_textsOver_29 : decode cX6_textsOver 29 = .ok (.iload 5, 2) := by decide +kernel
theorem dX6_textsOver_31 : decode cX6_textsOver 31 = .ok (.invokevirtual 77, 3) := by decide +kernel
theorem dX6_textsOver_34 : decode cX6_textsOver 34 = .ok (.istore 6, 2) := by decide +kernel
theorem dX6_textsOver_36 : decode cX6_textsOver 36 = .ok (.iload_n 2, 1) := by decide +kernel
theorem dX6_textsOver_37 : decode cX6_textsOver 37 = .ok (.iload 4, 2) := by decide +kernel
theorem dX6_textsOver_39 : decode cX6_textsOver 39 = .ok (.ifCond .eq 10, 3) := by decide +kernel
theorem dX6_textsOver_42 : decode cX6_textsOver 42 = .ok (.iconst 1, 1) := by decide +kernel
theorem dX6_textsOver_43 : decode cX6_textsOver 43 = .ok (.iload 6, 2) := by decide +kernel
theorem dX6_textsOver_45 : decode cX6_textsOver 45 = .ok (.ishl, 1) := by decide +kernel
theorem dX6_textsOver_46 : decode cX6_textsOver 46 = .ok (.goto 4, 3) := by decide +kernel
theorem dX6_textsOver_49 : decode cX6_textsOver 49 = .ok (.iconst 0, 1) := by decide +kernel
theorem dX6_textsOver_50 : decode cX6_textsOver 50 = .ok (.ior, 1) := by decide +kernel
theorem dX6_textsOver_51 : decode cX6_textsOver 51 = .ok (.istore_n 2, 1) := by decide +kernel
theorem dX6_textsOver_52 : decode cX6_textsOver 52 = .ok (.iload 4, 2) := by decide +kernel
theorem dX6_textsOver_54 : decode cX6_textsOver 54 = .ok (.iload 6, 2) := by decide +kernel
theorem dX6_textsOver_56 : decode cX6_textsOver 56 = .ok (.iload_n 1, 1) := by decide +kernel
theorem dX6_textsOver_57 : decode cX6_textsOver 57 = .ok (.if_icmp .ne 7, 3) := by decide +kernel
theorem dX6_textsOver_60 : decode cX6_textsOver 60 = .ok (.iconst 1, 1) := by decide +kernel
theorem dX6_textsOver_61 : decode cX6_textsOver 61 = .ok (.goto 4, 3) := by decide +kernel
theorem dX6_textsOver_64 : decode cX6_textsOver 64 = .ok (.iconst 0, 1) := by decide +kernel
theorem dX6_textsOver_65 : decode cX6_textsOver 65 = .ok (.ior, 1) := by decide +kernel
theorem dX6_textsOver_66 : decode cX6_textsOver 66 = .ok (.istore 4, 2) := by decide +kernel
theorem dX6_textsOver_68 : decode cX6_textsOver 68 = .ok (.iinc 5 1, 3) := by decide +kernel
theorem dX6_textsOver_71 : decode cX6_textsOver 71 = .ok (.goto (-55), 3) := by decide +kernel
theorem dX6_textsOver_74 : decode cX6_textsOver 74 = .ok (.iinc 3 1, 3) := by decide +kernel
theorem dX6_textsOver_77 : decode cX6_textsOver 77 = .ok (.goto (-73), 3) := by decide +kernel
theorem dX6_textsOver_80 : decode cX6_textsOver 80 = .ok (.iload_n 2, 1) := by decide +kernel
theorem dX6_textsOver_81 : decode cX6_textsOver 81 = .ok (.ireturn, 1) := by decide +kernel
theorem dX6_pairsAlike_0 : decode cX6_pairsAlike 0 = .ok (.iconst 0, 1) := by decide +kernel
theorem dX6_pairsAlike_1 : decode cX6_pairsAlike 1 = .ok (.istore_n 1, 1) := by decide +kernel
theorem dX6_pairsAlike_2 : decode cX6_pairsAlike 2 = .ok (.iconst 0, 1) := by decide +kernel
theorem dX6_pairsAlike_3 : decode cX6_pairsAlike 3 = .ok (.istore_n 2, 1) := by decide +kernel
theorem dX6_pairsAlike_4 : decode cX6_pairsAlike 4 = .ok (.iload_n 2, 1) := by decide +kernel
theorem dX6_pairsAlike_5 : decode cX6_pairsAlike 5 = .ok (.bipush 18, 2) := by decide +kernel
theorem dX6_pairsAlike_7 : decode cX6_pairsAlike 7 = .ok (.if_icmp .ge 64, 3) := by decide +kernel
theorem dX6_pairsAlike_10 : decode cX6_pairsAlike 10 = .ok (.iconst 0, 1) := by decide +kernel
theorem dX6_pairsAlike_11 : decode cX6_pairsAlike 11 = .ok (.istore_n 3, 1) := by decide +kernel
theorem dX6_pairsAlike_12 : decode cX6_pairsAlike 12 = .ok (.iload_n 3, 1) := by decide +kernel
theorem dX6_pairsAlike_13 : decode cX6_pairsAlike 13 = .ok (.iload_n 2, 1) := by decide +kernel
theorem dX6_pairsAlike_14 : decode cX6_pairsAlike 14 = .ok (.if_icmp .ge 51, 3) := by decide +kernel
theorem dX6_pairsAlike_17 : decode cX6_pairsAlike 17 = .ok (.aload_n 0, 1) := by decide +kernel
theorem dX6_pairsAlike_18 : decode cX6_pairsAlike 18 = .ok (.getfield 18, 3) := by decide +kernel
theorem dX6_pairsAlike_21 : decode cX6_pairsAlike 21 = .ok (.iload_n 2, 1) := by decide +kernel
theorem dX6_pairsAlike_22 : decode cX6_pairsAlike 22 = .ok (.iaload, 1) := by decide +kernel
theorem dX6_pairsAlike_23 : decode cX6_pairsAlike 23 = .ok (.ifCond .le 36, 3) := by decide +kernel
theorem dX6_pairsAlike_26 : decode cX6_pairsAlike 26 = .ok (.aload_n 0, 1) := by decide +kernel
theorem dX6_pairsAlike_27 : decode cX6_pairsAlike 27 = .ok (.getfield 18, 3) := by decide +kernel
theorem dX6_pairsAlike_30 : decode cX6_pairsAlike 30 = .ok (.iload_n 2, 1) := by decide +kernel
theorem dX6_pairsAlike_31 : decode cX6_pairsAlike 31 = .ok (.iaload, 1) := by decide +kernel
theorem dX6_pairsAlike_32 : decode cX6_pairsAlike 32 = .ok (.aload_n 0, 1) := by decide +kernel
theorem dX6_pairsAlike_33 : decode cX6_pairsAlike 33 = .ok (.getfield 18, 3) := by decide +kernel
theorem dX6_pairsAlike_36 : decode cX6_pairsAlike 36 = .ok (.iload_n 3, 1) := by decide +kernel
theorem dX6_pairsAlike_37 : decode cX6_pairsAlike 37 = .ok (.iaload, 1) := by decide +kernel
theorem dX6_pairsAlike_38 : decode cX6_pairsAlike 38 = .ok (.if_icmp .ne 21, 3) := by decide +kernel
theorem dX6_pairsAlike_41 : decode cX6_pairsAlike 41 = .ok (.aload_n 0, 1) := by decide +kernel
theorem dX6_pairsAlike_42 : decode cX6_pairsAlike 42 = .ok (.getfield 21, 3) := by decide +kernel
theorem dX6_pairsAlike_45 : decode cX6_pairsAlike 45 = .ok (.iload_n 2, 1) := by decide +kernel
theorem dX6_pairsAlike_46 : decode cX6_pairsAlike 46 = .ok (.iaload, 1) := by decide +kernel
theorem dX6_pairsAlike_47 : decode cX6_pairsAlike 47 = .ok (.aload_n 0, 1) := by decide +kernel
theorem dX6_pairsAlike_48 : decode cX6_pairsAlike 48 = .ok (.getfield 21, 3) := by decide +kernel
theorem dX6_pairsAlike_51 : decode cX6_pairsAlike 51 = .ok (.iload_n 3, 1) := by decide +kernel
theorem dX6_pairsAlike_52 : decode cX6_pairsAlike 52 = .ok (.iaload, 1) := by decide +kernel
theorem dX6_pairsAlike_53 : decode cX6_pairsAlike 53 = .ok (.if_icmp .ne 6, 3) := by decide +kernel
theorem dX6_pairsAlike_56 : decode cX6_pairsAlike 56 = .ok (.iinc 1 1, 3) := by decide +kernel
theorem dX6_pairsAlike_59 : decode cX6_pairsAlike 59 = .ok (.iinc 3 1, 3) := by decide +kernel
theorem dX6_pairsAlike_62 : decode cX6_pairsAlike 62 = .ok (.goto (-50), 3) := by decide +kernel
theorem dX6_pairsAlike_65 : decode cX6_pairsAlike 65 = .ok (.iinc 2 1, 3) := by decide +kernel
theorem dX6_pairsAlike_68 : decode cX6_pairsAlike 68 = .ok (.goto (-64), 3) := by decide +kernel
theorem dX6_pairsAlike_71 : decode cX6_pairsAlike 71 = .ok (.iload_n 1, 1) := by decide +kernel
theorem dX6_pairsAlike_72 : decode cX6_pairsAlike 72 = .ok (.ireturn, 1) := by decide +kernel
theorem dX6_layersTogether_0 : decode cX6_layersTogether 0 = .ok (.iconst 0, 1) := by decide +kernel
theorem dX6_layersTogether_1 : decode cX6_layersTogether 1 = .ok (.istore_n 1, 1) := by decide +kernel
theorem dX6_layersTogether_2 : decode cX6_layersTogether 2 = .ok (.iconst 0, 1) := by decide +kernel
theorem dX6_layersTogether_3 : decode cX6_layersTogether 3 = .ok (.istore_n 2, 1) := by decide +kernel
theorem dX6_layersTogether_4 : decode cX6_layersTogether 4 = .ok (.iload_n 2, 1) := by decide +kernel
theorem dX6_layersTogether_5 : decode cX6_layersTogether 5 = .ok (.bipush 18, 2) := by decide +kernel
theorem dX6_layersTogether_7 : decode cX6_layersTogether 7 = .ok (.if_icmp .ge 18, 3) := by decide +kernel
theorem dX6_layersTogether_10 : decode cX6_layersTogether 10 = .ok (.iload_n 1, 1) := by decide +kernel
theorem dX6_layersTogether_11 : decode cX6_layersTogether 11 = .ok (.aload_n 0, 1) := by decide +kernel
theorem dX6_layersTogether_12 : decode cX6_layersTogether 12 = .ok (.getfield 18, 3) := by decide +kernel
theorem dX6_layersTogether_15 : decode cX6_layersTogether 15 = .ok (.iload_n 2, 1) := by decide +kernel
theorem dX6_layersTogether_16 : decode cX6_layersTogether 16 = .ok (.iaload, 1) := by decide +kernel
theorem dX6_layersTogether_17 : decode cX6_layersTogether 17 = .ok (.iadd, 1) := by decide +kernel
theorem dX6_layersTogether_18 : decode cX6_layersTogether 18 = .ok (.istore_n 1, 1) := by decide +kernel
theorem dX6_layersTogether_19 : decode cX6_layersTogether 19 = .ok (.iinc 2 1, 3) := by decide +kernel
theorem dX6_layersTogether_22 : decode cX6_layersTogether 22 = .ok (.goto (-18), 3) := by decide +kernel
theorem dX6_layersTogether_25 : decode cX6_layersTogether 25 = .ok (.iload_n 1, 1) := by decide +kernel
theorem dX6_layersTogether_26 : decode cX6_layersTogether 26 = .ok (.ireturn, 1) := by decide +kernel
theorem dX6_thickTogether_0 : decode cX6_thickTogether 0 = .ok (.iconst 0, 1) := by decide +kernel
theorem dX6_thickTogether_1 : decode cX6_thickTogether 1 = .ok (.istore_n 1, 1) := by decide +kernel
theorem dX6_thickTogether_2 : decode cX6_thickTogether 2 = .ok (.iconst 0, 1) := by decide +kernel
theorem dX6_thickTogether_3 : decode cX6_thickTogether 3 = .ok (.istore_n 2, 1) := by decide +kernel
theorem dX6_thickTogether_4 : decode cX6_thickTogether 4 = .ok (.iload_n 2, 1) := by decide +kernel
theorem dX6_thickTogether_5 : decode cX6_thickTogether 5 = .ok (.aload_n 0, 1) := by decide +kernel
theorem dX6_thickTogether_6 : decode cX6_thickTogether 6 = .ok (.getfield 24, 3) := by decide +kernel
theorem dX6_thickTogether_9 : decode cX6_thickTogether 9 = .ok (.getfield 36, 3) := by decide +kernel
theorem dX6_thickTogether_12 : decode cX6_thickTogether 12 = .ok (.if_icmp .ge 18, 3) := by decide +kernel
theorem dX6_thickTogether_15 : decode cX6_thickTogether 15 = .ok (.iload_n 1, 1) := by decide +kernel
theorem dX6_thickTogether_16 : decode cX6_thickTogether 16 = .ok (.aload_n 0, 1) := by decide +kernel
theorem dX6_thickTogether_17 : decode cX6_thickTogether 17 = .ok (.getfield 9, 3) := by decide +kernel
theorem dX6_thickTogether_20 : decode cX6_thickTogether 20 = .ok (.iload_n 2, 1) := by decide +kernel
theorem dX6_thickTogether_21 : decode cX6_thickTogether 21 = .ok (.iaload, 1) := by decide +kernel
theorem dX6_thickTogether_22 : decode cX6_thickTogether 22 = .ok (.iadd, 1) := by decide +kernel
theorem dX6_thickTogether_23 : decode cX6_thickTogether 23 = .ok (.istore_n 1, 1) := by decide +kernel
theorem dX6_thickTogether_24 : decode cX6_thickTogether 24 = .ok (.iinc 2 1, 3) := by decide +kernel
theorem dX6_thickTogether_27 : decode cX6_thickTogether 27 = .ok (.goto (-23), 3) := by decide +kernel
theorem dX6_thickTogether_30 : decode cX6_thickTogether 30 = .ok (.iload_n 1, 1) := by decide +kernel
theorem dX6_thickTogether_31 : decode cX6_thickTogether 31 = .ok (.ireturn, 1) := by decide +kernel
theorem dX6_goneSkins_0 : decode cX6_goneSkins 0 = .ok (.iconst 0, 1) := by decide +kernel
theorem dX6_goneSkins_1 : decode cX6_goneSkins 1 = .ok (.istore_n 1, 1) := by decide +kernel
theorem dX6_goneSkins_2 : decode cX6_goneSkins 2 = .ok (.iconst 0, 1) := by decide +kernel
theorem dX6_goneSkins_3 : decode cX6_goneSkins 3 = .ok (.istore_n 2, 1) := by decide +kernel
theorem dX6_goneSkins_4 : decode cX6_goneSkins 4 = .ok (.iload_n 2, 1) := by decide +kernel
theorem dX6_goneSkins_5 : decode cX6_goneSkins 5 = .ok (.aload_n 0, 1) := by decide +kernel
theorem dX6_goneSkins_6 : decode cX6_goneSkins 6 = .ok (.getfield 24, 3) := by decide +kernel
theorem dX6_goneSkins_9 : decode cX6_goneSkins 9 = .ok (.getfield 36, 3) := by decide +kernel
theorem dX6_goneSkins_12 : decode cX6_goneSkins 12 = .ok (.if_icmp .ge 28, 3) := by decide +kernel
theorem dX6_goneSkins_15 : decode cX6_goneSkins 15 = .ok (.iload_n 1, 1) := by decide +kernel
theorem dX6_goneSkins_16 : decode cX6_goneSkins 16 = .ok (.aload_n 0, 1) := by decide +kernel
theorem dX6_goneSkins_17 : decode cX6_goneSkins 17 = .ok (.getfield 9, 3) := by decide +kernel
theorem dX6_goneSkins_20 : decode cX6_goneSkins 20 = .ok (.iload_n 2, 1) := by decide +kernel
theorem dX6_goneSkins_21 : decode cX6_goneSkins 21 = .ok (.iaload, 1) := by decide +kernel
theorem dX6_goneSkins_22 : decode cX6_goneSkins 22 = .ok (.ifCond .ne 9, 3) := by decide +kernel
theorem dX6_goneSkins_25 : decode cX6_goneSkins 25 = .ok (.iconst 1, 1) := by decide +kernel
theorem dX6_goneSkins_26 : decode cX6_goneSkins 26 = .ok (.iload_n 2, 1) := by decide +kernel
theorem dX6_goneSkins_27 : decode cX6_goneSkins 27 = .ok (.ishl, 1) := by decide +kernel
theorem dX6_goneSkins_28 : decode cX6_goneSkins 28 = .ok (.goto 4, 3) := by decide +kernel
theorem dX6_goneSkins_31 : decode cX6_goneSkins 31 = .ok (.iconst 0, 1) := by decide +kernel
theorem dX6_goneSkins_32 : decode cX6_goneSkins 32 = .ok (.ior, 1) := by decide +kernel
theorem dX6_goneSkins_33 : decode cX6_goneSkins 33 = .ok (.istore_n 1, 1) := by decide +kernel
theorem dX6_goneSkins_34 : decode cX6_goneSkins 34 = .ok (.iinc 2 1, 3) := by decide +kernel
theorem dX6_goneSkins_37 : decode cX6_goneSkins 37 = .ok (.goto (-33), 3) := by decide +kernel
theorem dX6_goneSkins_40 : decode cX6_goneSkins 40 = .ok (.iload_n 1, 1) := by decide +kernel
theorem dX6_goneSkins_41 : decode cX6_goneSkins 41 = .ok (.ireturn, 1) := by decide +kernel
theorem dX7_init_0 : decode cX7_init 0 = .ok (.aload_n 0, 1) := by decide +kernel
theorem dX7_init_1 : decode cX7_init 1 = .ok (.invokespecial 1, 3) := by decide +kernel
theorem dX7_init_4 : decode cX7_init 4 = .ok (.aload_n 0, 1) := by decide +kernel
theorem dX7_init_5 : decode cX7_init 5 = .ok (.sipush 1000, 3) := by decide +kernel
theorem dX7_init_8 : decode cX7_init 8 = .ok (.newarray .byte, 2) := by decide +kernel
theorem dX7_init_10 : decode cX7_init 10 = .ok (.putfield 9, 3) := by decide +kernel
theorem dX7_init_13 : decode cX7_init 13 = .ok (.return_, 1) := by decide +kernel
theorem dX7_clear_0 : decode cX7_clear 0 = .ok (.aload_n 0, 1) := by decide +kernel
theorem dX7_clear_1 : decode cX7_clear 1 = .ok (.iconst 0, 1) := by decide +kernel
theorem dX7_clear_2 : decode cX7_clear 2 = .ok (.putfield 13, 3) := by decide +kernel
theorem dX7_clear_5 : decode cX7_clear 5 = .ok (.return_, 1) := by decide +kernel
theorem dX7_addBytes_0 : decode cX7_addBytes 0 = .ok (.bipush 56, 2) := by decide +kernel
theorem dX7_addBytes_2 : decode cX7_addBytes 2 = .ok (.istore_n 3, 1) := by decide +kernel
theorem dX7_addBytes_3 : decode cX7_addBytes 3 = .ok (.iload_n 3, 1) := by decide +kernel
theorem dX7_addBytes_4 : decode cX7_addBytes 4 = .ok (.ifCond .lt 72, 3) := by decide +kernel
theorem dX7_addBytes_7 : decode cX7_addBytes 7 = .ok (.lload_n 1, 1) := by decide +kernel
theorem dX7_addBytes_8 : decode cX7_addBytes 8 = .ok (.iload_n 3, 1) := by decide +kernel
theorem dX7_addBytes_9 : decode cX7_addBytes 9 = .ok (.lushr, 1) := by decide +kernel
theorem dX7_addBytes_10 : decode cX7_addBytes 10 = .ok (.l2i, 1) := by decide +kernel
theorem dX7_addBytes_11 : decode cX7_addBytes 11 = .ok (.sipush 255, 3) := by decide +kernel
theorem dX7_addBytes_14 : decode cX7_addBytes 14 = .ok (.iand, 1) := by decide +kernel
theorem dX7_addBytes_15 : decode cX7_addBytes 15 = .ok (.istore 4, 2) := by decide +kernel
theorem dX7_addBytes_17 : decode cX7_addBytes 17 = .ok (.aload_n 0, 1) := by decide +kernel
theorem dX7_addBytes_18 : decode cX7_addBytes 18 = .ok (.getfield 13, 3) := by decide +kernel
theorem dX7_addBytes_21 : decode cX7_addBytes 21 = .ok (.sipush 1000, 3) := by decide +kernel
theorem dX7_addBytes_24 : decode cX7_addBytes 24 = .ok (.if_icmp .ge 46, 3) := by decide +kernel
theorem dX7_addBytes_27 : decode cX7_addBytes 27 = .ok (.iload 4, 2) := by decide +kernel
theorem dX7_addBytes_29 : decode cX7_addBytes 29 = .ok (.bipush 10, 2) := by decide +kernel
theorem dX7_addBytes_31 : decode cX7_addBytes 31 = .ok (.if_icmp .eq 17, 3) := by decide +kernel
theorem dX7_addBytes_34 : decode cX7_addBytes 34 = .ok (.iload 4, 2) := by decide +kernel
theorem dX7_addBytes_36 : decode cX7_addBytes 36 = .ok (.bipush 32, 2) := by decide +kernel
theorem dX7_addBytes_38 : decode cX7_addBytes 38 = .ok (.if_icmp .lt 32, 3) := by decide +kernel
theorem dX7_addBytes_41 : decode cX7_addBytes 41 = .ok (.iload 4, 2) := by decide +kernel
theorem dX7_addBytes_43 : decode cX7_addBytes 43 = .ok (.bipush 126, 2) := by decide +kernel
theorem dX7_addBytes_45 : decode cX7_addBytes 45 = .ok (.if_icmp .gt 25, 3) := by decide +kernel
theorem dX7_addBytes_48 : decode cX7_addBytes 48 = .ok (.aload_n 0, 1) := by decide +kernel
theorem dX7_addBytes_49 : decode cX7_addBytes 49 = .ok (.getfield 9, 3) := by decide +kernel
theorem dX7_addBytes_52 : decode cX7_addBytes 52 = .ok (.aload_n 0, 1) := by decide +kernel
theorem dX7_addBytes_53 : decode cX7_addBytes 53 = .ok (.getfield 13, 3) := by decide +kernel
theorem dX7_addBytes_56 : decode cX7_addBytes 56 = .ok (.iload 4, 2) := by decide +kernel
theorem dX7_addBytes_58 : decode cX7_addBytes 58 = .ok (.i2b, 1) := by decide +kernel
theorem dX7_addBytes_59 : decode cX7_addBytes 59 = .ok (.bastore, 1) := by decide +kernel
theorem dX7_addBytes_60 : decode cX7_addBytes 60 = .ok (.aload_n 0, 1) := by decide +kernel
theorem dX7_addBytes_61 : decode cX7_addBytes 61 = .ok (.dup, 1) := by decide +kernel
theorem dX7_addBytes_62 : decode cX7_addBytes 62 = .ok (.getfield 13, 3) := by decide +kernel
theorem dX7_addBytes_65 : decode cX7_addBytes 65 = .ok (.iconst 1, 1) := by decide +kernel
theorem dX7_addBytes_66 : decode cX7_addBytes 66 = .ok (.iadd, 1) := by decide +kernel
theorem dX7_addBytes_67 : decode cX7_addBytes 67 = .ok (.putfield 13, 3) := by decide +kernel
theorem dX7_addBytes_70 : decode cX7_addBytes 70 = .ok (.iinc 3 (-8), 3) := by decide +kernel
theorem dX7_addBytes_73 : decode cX7_addBytes 73 = .ok (.goto (-70), 3) := by decide +kernel
theorem dX7_addBytes_76 : decode cX7_addBytes 76 = .ok (.return_, 1) := by decide +kernel
theorem dX7_rewind_0 : decode cX7_rewind 0 = .ok (.aload_n 0, 1) := by decide +kernel
theorem dX7_rewind_1 : decode cX7_rewind 1 = .ok (.iconst 0, 1) := by decide +kernel
theorem dX7_rewind_2 : decode cX7_rewind 2 = .ok (.putfield 17, 3) := by decide +kernel
theorem dX7_rewind_5 : decode cX7_rewind 5 = .ok (.aload_n 0, 1) := by decide +kernel
theorem dX7_rewind_6 : decode cX7_rewind 6 = .ok (.iconst 0, 1) := by decide +kernel
theorem dX7_rewind_7 : decode cX7_rewind 7 = .ok (.putfield 20, 3) := by decide +kernel
theorem dX7_rewind_10 : decode cX7_rewind 10 = .ok (.aload_n 0, 1) := by decide +kernel
theorem dX7_rewind_11 : decode cX7_rewind 11 = .ok (.invokevirtual 23, 3) := by decide +kernel
theorem dX7_rewind_14 : decode cX7_rewind 14 = .ok (.return_, 1) := by decide +kernel
theorem dX7_isSound_0 : decode cX7_isSound 0 = .ok (.aload_n 0, 1) := by decide +kernel
theorem dX7_isSound_1 : decode cX7_isSound 1 = .ok (.getfield 20, 3) := by decide +kernel
theorem dX7_isSound_4 : decode cX7_isSound 4 = .ok (.ifCond .ne 7, 3) := by decide +kernel
theorem dX7_isSound_7 : decode cX7_isSound 7 = .ok (.iconst 1, 1) := by decide +kernel
theorem dX7_isSound_8 : decode cX7_isSound 8 = .ok (.goto 4, 3) := by decide +kernel
theorem dX7_isSound_11 : decode cX7_isSound 11 = .ok (.iconst 0, 1) := by decide +kernel
theorem dX7_isSound_12 : decode cX7_isSound 12 = .ok (.ireturn, 1) := by decide +kernel
theorem dX7_isAtEnd_0 : decode cX7_isAtEnd 0 = .ok (.aload_n 0, 1) := by decide +kernel
theorem dX7_isAtEnd_1 : decode cX7_isAtEnd 1 = .ok (.getfield 26, 3) := by decide +kernel
theorem dX7_isAtEnd_4 : decode cX7_isAtEnd 4 = .ok (.ifCond .ne 7, 3) := by decide +kernel
theorem dX7_isAtEnd_7 : decode cX7_isAtEnd 7 = .ok (.iconst 1, 1) := by decide +kernel
theorem dX7_isAtEnd_8 : decode cX7_isAtEnd 8 = .ok (.goto 4, 3) := by decide +kernel
theorem dX7_isAtEnd_11 : decode cX7_isAtEnd 11 = .ok (.iconst 0, 1) := by decide +kernel
theorem dX7_isAtEnd_12 : decode cX7_isAtEnd 12 = .ok (.ireturn, 1) := by decide +kernel
theorem dX7_fail_0 : decode cX7_fail 0 = .ok (.aload_n 0, 1) := by decide +kernel
theorem dX7_fail_1 : decode cX7_fail 1 = .ok (.getfield 20, 3) := by decide +kernel
theorem dX7_fail_4 : decode cX7_fail 4 = .ok (.ifCond .ne 16, 3) := by decide +kernel
theorem dX7_fail_7 : decode cX7_fail 7 = .ok (.aload_n 0, 1) := by decide +kernel
theorem dX7_fail_8 : decode cX7_fail 8 = .ok (.iload_n 1, 1) := by decide +kernel
theorem dX7_fail_9 : decode cX7_fail 9 = .ok (.bipush 16, 2) := by decide +kernel
theorem dX7_fail_11 : decode cX7_fail 11 = .ok (.aload_n 0, 1) := by decide +kernel
theorem dX7_fail_12 : decode cX7_fail 12 = .ok (.getfield 29, 3) := by decide +kernel
theorem dX7_fail_15 : decode cX7_fail 15 = .ok (.imul, 1) := by decide +kernel
theorem dX7_fail_16 : decode cX7_fail 16 = .ok (.iadd, 1) := by decide +kernel
theorem dX7_fail_17 : decode cX7_fail 17 = .ok (.putfield 20, 3) := by decide +kernel
theorem dX7_fail_20 : decode cX7_fail 20 = .ok (.return_, 1) := by decide +kernel
theorem dX7_next_0 : decode cX7_next 0 = .ok (.aload_n 0, 1) := by decide +kernel
theorem dX7_next_1 : decode cX7_next 1 = .ok (.getfield 20, 3) := by decide +kernel
theorem dX7_next_4 : decode cX7_next 4 = .ok (.ifCond .eq 4, 3) := by decide +kernel
theorem dX7_next_7 : decode cX7_next 7 = .ok (.return_, 1) := by decide +kernel
theorem dX7_next_8 : decode cX7_next 8 = .ok (.aload_n 0, 1) := by decide +kernel
theorem dX7_next_9 : decode cX7_next 9 = .ok (.aload_n 0, 1) := by decide +kernel
theorem dX7_next_10 : decode cX7_next 10 = .ok (.getfield 17, 3) := by decide +kernel
theorem dX7_next_13 : decode cX7_next 13 = .ok (.putfield 29, 3) := by decide +kernel
theorem dX7_next_16 : decode cX7_next 16 = .ok (.aload_n 0, 1) := by decide +kernel
theorem dX7_next_17 : decode cX7_next 17 = .ok (.getfield 29, 3) := by decide +kernel
theorem dX7_next_20 : decode cX7_next 20 = .ok (.aload_n 0, 1) := by decide +kernel
theorem dX7_next_21 : decode cX7_next 21 = .ok (.getfield 13, 3) := by decide +kernel
theorem dX7_next_24 : decode cX7_next 24 = .ok (.if_icmp .ge 44, 3) := by decide +kernel
theorem dX7_next_27 : decode cX7_next 27 = .ok (.aload_n 0, 1) := by decide +kernel
theorem dX7_next_28 : decode cX7_next 28 = .ok (.getfield 9, 3) := by decide +kernel
theorem dX7_next_31 : decode cX7_next 31 = .ok (.aload_n 0, 1) := by decide +kernel
theorem dX7_next_32 : decode cX7_next 32 = .ok (.getfield 29, 3) := by decide +kernel
theorem dX7_next_35 : decode cX7_next 35 = .ok (.baload, 1) := by decide +kernel
theorem dX7_next_36 : decode cX7_next 36 = .ok (.bipush 10, 2) := by decide +kernel
theorem dX7_next_38 : decode cX7_next 38 = .ok (.if_icmp .eq 17, 3) := by decide +kernel
theorem dX7_next_41 : decode cX7_next 41 = .ok (.aload_n 0, 1) := by decide +kernel
theorem dX7_next_42 : decode cX7_next 42 = .ok (.getfield 9, 3) := by decide +kernel
theorem dX7_next_45 : decode cX7_next 45 = .ok (.aload_n 0, 1) := by decide +kernel
theorem dX7_next_46 : decode cX7_next 46 = .ok (.getfield 29, 3) := by decide +kernel
theorem dX7_next_49 : decode cX7_next 49 = .ok (.baload, 1) := by decide +kernel
theorem dX7_next_50 : decode cX7_next 50 = .ok (.bipush 32, 2) := by decide +kernel
theorem dX7_next_52 : decode cX7_next 52 = .ok (.if_icmp .ne 16, 3) := by decide +kernel
theorem dX7_next_55 : decode cX7_next 55 = .ok (.aload_n 0, 1) := by decide +kernel
theorem dX7_next_56 : decode cX7_next 56 = .ok (.dup, 1) := by decide +kernel
theorem dX7_next_57 : decode cX7_next 57 = .ok (.getfield 29, 3) := by decide +kernel
theorem dX7_next_60 : decode cX7_next 60 = .ok (.iconst 1, 1) := by decide +kernel
theorem dX7_next_61 : decode cX7_next 61 = .ok (.iadd, 1) := by decide +kernel
theorem dX7_next_62 : decode cX7_next 62 = .ok (.putfield 29, 3) := by decide +kernel
theorem dX7_next_65 : decode cX7_next 65 = .ok (.goto (-49), 3) := by decide +kernel
theorem dX7_next_68 : decode cX7_next 68 = .ok (.aload_n 0, 1) := by decide +kernel
theorem dX7_next_69 : decode cX7_next 69 = .ok (.aload_n 0, 1) := by decide +kernel
theorem dX7_next_70 : decode cX7_next 70 = .ok (.getfield 29, 3) := by decide +kernel
theorem dX7_next_73 : decode cX7_next 73 = .ok (.putfield 17, 3) := by decide +kernel
theorem dX7_next_76 : decode cX7_next 76 = .ok (.aload_n 0, 1) := by decide +kernel
theorem dX7_next_77 : decode cX7_next 77 = .ok (.getfield 29, 3) := by decide +kernel
theorem dX7_next_80 : decode cX7_next 80 = .ok (.aload_n 0, 1) := by decide +kernel
theorem dX7_next_81 : decode cX7_next 81 = .ok (.getfield 13, 3) := by decide +kernel
theorem dX7_next_84 : decode cX7_next 84 = .ok (.if_icmp .lt 9, 3) := by decide +kernel
theorem dX7_next_87 : decode cX7_next 87 = .ok (.aload_n 0, 1) := by decide +kernel
theorem dX7_next_88 : decode cX7_next 88 = .ok (.iconst 0, 1) := by decide +kernel
theorem dX7_next_89 : decode cX7_next 89 = .ok (.putfield 26, 3) := by decide +kernel
theorem dX7_next_92 : decode cX7_next 92 = .ok (.return_, 1) := by decide +kernel
theorem dX7_next_93 : decode cX7_next 93 = .ok (.aload_n 0, 1) := by decide +kernel
theorem dX7_next_94 : decode cX7_next 94 = .ok (.getfield 9, 3) := by decide +kernel
theorem dX7_next_97 : decode cX7_next 97 = .ok (.aload_n 0, 1) := by decide +kernel
theorem dX7_next_98 : decode cX7_next 98 = .ok (.getfield 29, 3) := by decide +kernel
theorem dX7_next_101 : decode cX7_next 101 = .ok (.baload, 1) := by decide +kernel
theorem dX7_next_102 : decode cX7_next 102 = .ok (.istore_n 1, 1) := by decide +kernel
theorem dX7_next_103 : decode cX7_next 103 = .ok (.iload_n 1, 1) := by decide +kernel
theorem dX7_next_104 : decode cX7_next 104 = .ok (.bipush 97, 2) := by decide +kernel
theorem dX7_next_106 : decode cX7_next 106 = .ok (.if_icmp .lt 16, 3) := by decide +kernel
theorem dX7_next_109 : decode cX7_next 109 = .ok (.iload_n 1, 1) := by decide +kernel
theorem dX7_next_110 : decode cX7_next 110 = .ok (.bipush 122, 2) := by decide +kernel
theorem dX7_next_112 : decode cX7_next 112 = .ok (.if_icmp .gt 10, 3) := by decide +kernel
theorem dX7_next_115 : decode cX7_next 115 = .ok (.aload_n 0, 1) := by decide +kernel
theorem dX7_next_116 : decode cX7_next 116 = .ok (.invokevirtual 32, 3) := by decide +kernel
theorem dX7_next_119 : decode cX7_next 119 = .ok (.goto 51, 3) := by decide +kernel
theorem dX7_next_122 : decode cX7_next 122 = .ok (.iload_n 1, 1) := by decide +kernel
theorem dX7_next_123 : decode cX7_next 123 = .ok (.bipush 48, 2) := by decide +kernel
theorem dX7_next_125 : decode cX7_next 125 = .ok (.if_icmp .lt 16, 3) := by decide +kernel
theorem dX7_next_128 : decode cX7_next 128 = .ok (.iload_n 1, 1) := by decide +kernel
theorem dX7_next_129 : decode cX7_next 129 = .ok (.bipush 57, 2) := by decide +kernel
theorem dX7_next_131 : decode cX7_next 131 = .ok (.if_icmp .gt 10, 3) := by decide +kernel
theorem dX7_next_134 : decode cX7_next 134 = .ok (.aload_n 0, 1) := by decide +kernel
theorem dX7_next_135 : decode cX7_next 135 = .ok (.invokevirtual 35, 3) := by decide +kernel
theorem dX7_next_138 : decode cX7_next 138 = .ok (.goto 32, 3) := by decide +kernel
theorem dX7_next_141 : decode cX7_next 141 = .ok (.aload_n 0, 1) := by decide +kernel
theorem dX7_next_142 : decode cX7_next 142 = .ok (.ldc 38, 2) := by decide +kernel
theorem dX7_next_144 : decode cX7_next 144 = .ok (.iload_n 1, 1) := by decide +kernel
theorem dX7_next_145 : decode cX7_next 145 = .ok (.i2c, 1) := by decide +kernel
theorem dX7_next_146 : decode cX7_next 146 = .ok (.invokevirtual 40, 3) := by decide +kernel
theorem dX7_next_149 : decode cX7_next 149 = .ok (.ifCond .lt 7, 3) := by decide +kernel
theorem dX7_next_152 : decode cX7_next 152 = .ok (.iconst 3, 1) := by decide +kernel
theorem dX7_next_153 : decode cX7_next 153 = .ok (.goto 4, 3) := by decide +kernel
theorem dX7_next_156 : decode cX7_next 156 = .ok (.iconst 4, 1) := by decide +kernel
theorem dX7_next_157 : decode cX7_next 157 = .ok (.putfield 26, 3) := by decide +kernel
theorem dX7_next_160 : decode cX7_next 160 = .ok (.aload_n 0, 1) := by decide +kernel
theorem dX7_next_161 : decode cX7_next 161 = .ok (.aload_n 0, 1) := by decide +kernel
theorem dX7_next_162 : decode cX7_next 162 = .ok (.getfield 29, 3) := by decide +kernel
theorem dX7_next_165 : decode cX7_next 165 = .ok (.iconst 1, 1) := by decide +kernel
theorem dX7_next_166 : decode cX7_next 166 = .ok (.iadd, 1) := by decide +kernel
theorem dX7_next_167 : decode cX7_next 167 = .ok (.putfield 17, 3) := by decide +kernel
theorem dX7_next_170 : decode cX7_next 170 = .ok (.return_, 1) := by decide +kernel
theorem dX7_takeLetters_0 : decode cX7_takeLetters 0 = .ok (.aload_n 0, 1) := by decide +kernel
theorem dX7_takeLetters_1 : decode cX7_takeLetters 1 = .ok (.lconst 0, 1) := by decide +kernel
theorem dX7_takeLetters_2 : decode cX7_takeLetters 2 = .ok (.putfield 46, 3) := by decide +kernel
theorem dX7_takeLetters_5 : decode cX7_takeLetters 5 = .ok (.aload_n 0, 1) := by decide +kernel
theorem dX7_takeLetters_6 : decode cX7_takeLetters 6 = .ok (.getfield 17, 3) := by decide +kernel
theorem dX7_takeLetters_9 : decode cX7_takeLetters 9 = .ok (.aload_n 0, 1) := by decide +kernel
theorem dX7_takeLetters_10 : decode cX7_takeLetters 10 = .ok (.getfield 13, 3) := by decide +kernel
theorem dX7_takeLetters_13 : decode cX7_takeLetters 13 = .ok (.if_icmp .ge 72, 3) := by decide +kernel
theorem dX7_takeLetters_16 : decode cX7_takeLetters 16 = .ok (.aload_n 0, 1) := by decide +kernel
theorem dX7_takeLetters_17 : decode cX7_takeLetters 17 = .ok (.getfield 9, 3) := by decide +kernel
theorem dX7_takeLetters_20 : decode cX7_takeLetters 20 = .ok (.aload_n 0, 1) := by decide +kernel
theorem dX7_takeLetters_21 : decode cX7_takeLetters 21 = .ok (.getfield 17, 3) := by decide +kernel
theorem dX7_takeLetters_24 : decode cX7_takeLetters 24 = .ok (.baload, 1) := by decide +kernel
theorem dX7_takeLetters_25 : decode cX7_takeLetters 25 = .ok (.bipush 97, 2) := by decide +kernel
theorem dX7_takeLetters_27 : decode cX7_takeLetters 27 = .ok (.if_icmp .lt 58, 3) := by decide +kernel
theorem dX7_takeLetters_30 : decode cX7_takeLetters 30 = .ok (.aload_n 0, 1) := by decide +kernel
theorem dX7_takeLetters_31 : decode cX7_takeLetters 31 = .ok (.getfield 9, 3) := by decide +kernel
theorem dX7_takeLetters_34 : decode cX7_takeLetters 34 = .ok (.aload_n 0, 1) := by decide +kernel
theorem dX7_takeLetters_35 : decode cX7_takeLetters 35 = .ok (.getfield 17, 3) := by decide +kernel
theorem dX7_takeLetters_38 : decode cX7_takeLetters 38 = .ok (.baload, 1) := by decide +kernel
theorem dX7_takeLetters_39 : decode cX7_takeLetters 39 = .ok (.bipush 122, 2) := by decide +kernel
theorem dX7_takeLetters_41 : decode cX7_takeLetters 41 = .ok (.if_icmp .gt 44, 3) := by decide +kernel
theorem dX7_takeLetters_44 : decode cX7_takeLetters 44 = .ok (.aload_n 0, 1) := by decide +kernel
theorem dX7_takeLetters_45 : decode cX7_takeLetters 45 = .ok (.aload_n 0, 1) := by decide +kernel
theorem dX7_takeLetters_46 : decode cX7_takeLetters 46 = .ok (.getfield 46, 3) := by decide +kernel
theorem dX7_takeLetters_49 : decode cX7_takeLetters 49 = .ok (.ldc2_w 50, 3) := by decide +kernel
theorem dX7_takeLetters_52 : decode cX7_takeLetters 52 = .ok (.lmul, 1) := by decide +kernel
theorem dX7_takeLetters_53 : decode cX7_takeLetters 53 = .ok (.aload_n 0, 1) := by decide +kernel
theorem dX7_takeLetters_54 : decode cX7_takeLetters 54 = .ok (.getfield 9, 3) := by decide +kernel
theorem dX7_takeLetters_57 : decode cX7_takeLetters 57 = .ok (.aload_n 0, 1) := by decide +kernel
theorem dX7_takeLetters_58 : decode cX7_takeLetters 58 = .ok (.getfield 17, 3) := by decide +kernel
theorem dX7_takeLetters_61 : decode cX7_takeLetters 61 = .ok (.baload, 1) := by decide +kernel
theorem dX7_takeLetters_62 : decode cX7_takeLetters 62 = .ok (.bipush 97, 2) := by decide +kernel
theorem dX7_takeLetters_64 : decode cX7_takeLetters 64 = .ok (.isub, 1) := by decide +kernel
theorem dX7_takeLetters_65 : decode cX7_takeLetters 65 = .ok (.iconst 1, 1) := by decide +kernel
theorem dX7_takeLetters_66 : decode cX7_takeLetters 66 = .ok (.iadd, 1) := by decide +kernel
theorem dX7_takeLetters_67 : decode cX7_takeLetters 67 = .ok (.i2l, 1) := by decide +kernel
theorem dX7_takeLetters_68 : decode cX7_takeLetters 68 = .ok (.ladd, 1) := by decide +kernel
theorem dX7_takeLetters_69 : decode cX7_takeLetters 69 = .ok (.putfield 46, 3) := by decide +kernel
theorem dX7_takeLetters_72 : decode cX7_takeLetters 72 = .ok (.aload_n 0, 1) := by decide +kernel
theorem dX7_takeLetters_73 : decode cX7_takeLetters 73 = .ok (.dup, 1) := by decide +kernel
theorem dX7_takeLetters_74 : decode cX7_takeLetters 74 = .ok (.getfield 17, 3) := by decide +kernel
theorem dX7_takeLetters_77 : decode cX7_takeLetters 77 = .ok (.iconst 1, 1) := by decide +kernel
theorem dX7_takeLetters_78 : decode cX7_takeLetters 78 = .ok (.iadd, 1) := by decide +kernel
theorem dX7_takeLetters_79 : decode cX7_takeLetters 79 = .ok (.putfield 17, 3) := by decide +kernel
theorem dX7_takeLetters_82 : decode cX7_takeLetters 82 = .ok (.goto (-77), 3) := by decide +kernel
theorem dX7_takeLetters_85 : decode cX7_takeLetters 85 = .ok (.aload_n 0, 1) := by decide +kernel
theorem dX7_takeLetters_86 : decode cX7_takeLetters 86 = .ok (.aload_n 0, 1) := by decide +kernel
theorem dX7_takeLetters_87 : decode cX7_takeLetters 87 = .ok (.getfield 17, 3) := by decide +kernel
theorem dX7_takeLetters_90 : decode cX7_takeLetters 90 = .ok (.aload_n 0, 1) := by decide +kernel
theorem dX7_takeLetters_91 : decode cX7_takeLetters 91 = .ok (.getfield 29, 3) := by decide +kernel
theorem dX7_takeLetters_94 : decode cX7_takeLetters 94 = .ok (.isub, 1) := by decide +kernel
theorem dX7_takeLetters_95 : decode cX7_takeLetters 95 = .ok (.bipush 8, 2) := by decide +kernel
theorem dX7_takeLetters_97 : decode cX7_takeLetters 97 = .ok (.if_icmp .gt 7, 3) := by decide +kernel
theorem dX7_takeLetters_100 : decode cX7_takeLetters 100 = .ok (.iconst 1, 1) := by decide +kernel
theorem dX7_takeLetters_101 : decode cX7_takeLetters 101 = .ok (.goto 4, 3) := by decide +kernel
theorem dX7_takeLetters_104 : decode cX7_takeLetters 104 = .ok (.iconst 4, 1) := by decide +kernel
theorem dX7_takeLetters_105 : decode cX7_takeLetters 105 = .ok (.putfield 26, 3) := by decide +kernel
theorem dX7_takeLetters_108 : decode cX7_takeLetters 108 = .ok (.return_, 1) := by decide +kernel
theorem dX7_takeDigits_0 : decode cX7_takeDigits 0 = .ok (.aload_n 0, 1) := by decide +kernel
theorem dX7_takeDigits_1 : decode cX7_takeDigits 1 = .ok (.iconst 0, 1) := by decide +kernel
theorem dX7_takeDigits_2 : decode cX7_takeDigits 2 = .ok (.putfield 52, 3) := by decide +kernel
theorem dX7_takeDigits_5 : decode cX7_takeDigits 5 = .ok (.aload_n 0, 1) := by decide +kernel
theorem dX7_takeDigits_6 : decode cX7_takeDigits 6 = .ok (.getfield 17, 3) := by decide +kernel
theorem dX7_takeDigits_9 : decode cX7_takeDigits 9 = .ok (.aload_n 0, 1) := by decide +kernel
theorem dX7_takeDigits_10 : decode cX7_takeDigits 10 = .ok (.getfield 13, 3) := by decide +kernel
theorem dX7_takeDigits_13 : decode cX7_takeDigits 13 = .ok (.if_icmp .ge 68, 3) := by decide +kernel
theorem dX7_takeDigits_16 : decode cX7_takeDigits 16 = .ok (.aload_n 0, 1) := by decide +kernel
theorem dX7_takeDigits_17 : decode cX7_takeDigits 17 = .ok (.getfield 9, 3) := by decide +kernel
theorem dX7_takeDigits_20 : decode cX7_takeDigits 20 = .ok (.aload_n 0, 1) := by decide +kernel
theorem dX7_takeDigits_21 : decode cX7_takeDigits 21 = .ok (.getfield 17, 3) := by decide +kernel
theorem dX7_takeDigits_24 : decode cX7_takeDigits 24 = .ok (.baload, 1) := by decide +kernel
theorem dX7_takeDigits_25 : decode cX7_takeDigits 25 = .ok (.bipush 48, 2) := by decide +kernel
theorem dX7_takeDigits_27 : decode cX7_takeDigits 27 = .ok (.if_icmp .lt 54, 3) := by decide +kernel
theorem dX7_takeDigits_30 : decode cX7_takeDigits 30 = .ok (.aload_n 0, 1) := by decide +kernel
theorem dX7_takeDigits_31 : decode cX7_takeDigits 31 = .ok (.getfield 9, 3) := by decide +kernel
theorem dX7_takeDigits_34 : decode cX7_takeDigits 34 = .ok (.aload_n 0, 1) := by decide +kernel
theorem dX7_takeDigits_35 : decode cX7_takeDigits 35 = .ok (.getfield 17, 3) := by decide +kernel
theorem dX7_takeDigits_38 : decode cX7_takeDigits 38 = .ok (.baload, 1) := by decide +kernel
theorem dX7_takeDigits_39 : decode cX7_takeDigits 39 = .ok (.bipush 57, 2) := by decide +kernel
theorem dX7_takeDigits_41 : decode cX7_takeDigits 41 = .ok (.if_icmp .gt 40, 3) := by decide +kernel
theorem dX7_takeDigits_44 : decode cX7_takeDigits 44 = .ok (.aload_n 0, 1) := by decide +kernel
theorem dX7_takeDigits_45 : decode cX7_takeDigits 45 = .ok (.aload_n 0, 1) := by decide +kernel
theorem dX7_takeDigits_46 : decode cX7_takeDigits 46 = .ok (.getfield 52, 3) := by decide +kernel
theorem dX7_takeDigits_49 : decode cX7_takeDigits 49 = .ok (.bipush 10, 2) := by decide +kernel
theorem dX7_takeDigits_51 : decode cX7_takeDigits 51 = .ok (.imul, 1) := by decide +kernel
theorem dX7_takeDigits_52 : decode cX7_takeDigits 52 = .ok (.aload_n 0, 1) := by decide +kernel
theorem dX7_takeDigits_53 : decode cX7_takeDigits 53 = .ok (.getfield 9, 3) := by decide +kernel
theorem dX7_takeDigits_56 : decode cX7_takeDigits 56 = .ok (.aload_n 0, 1) := by decide +kernel
theorem dX7_takeDigits_57 : decode cX7_takeDigits 57 = .ok (.getfield 17, 3) := by decide +kernel
theorem dX7_takeDigits_60 : decode cX7_takeDigits 60 = .ok (.baload, 1) := by decide +kernel
theorem dX7_takeDigits_61 : decode cX7_takeDigits 61 = .ok (.bipush 48, 2) := by decide +kernel
theorem dX7_takeDigits_63 : decode cX7_takeDigits 63 = .ok (.isub, 1) := by decide +kernel
theorem dX7_takeDigits_64 : decode cX7_takeDigits 64 = .ok (.iadd, 1) := by decide +kernel
theorem dX7_takeDigits_65 : decode cX7_takeDigits 65 = .ok (.putfield 52, 3) := by decide +kernel
theorem dX7_takeDigits_68 : decode cX7_takeDigits 68 = .ok (.aload_n 0, 1) := by decide +kernel
theorem dX7_takeDigits_69 : decode cX7_takeDigits 69 = .ok (.dup, 1) := by decide +kernel
theorem dX7_takeDigits_70 : decode cX7_takeDigits 70 = .ok (.getfield 17, 3) := by decide +kernel
theorem dX7_takeDigits_73 : decode cX7_takeDigits 73 = .ok (.iconst 1, 1) := by decide +kernel
theorem dX7_takeDigits_74 : decode cX7_takeDigits 74 = .ok (.iadd, 1) := by decide +kernel
theorem dX7_takeDigits_75 : decode cX7_takeDigits 75 = .ok (.putfield 17, 3) := by decide +kernel
theorem dX7_takeDigits_78 : decode cX7_takeDigits 78 = .ok (.goto (-73), 3) := by decide +kernel
theorem dX7_takeDigits_81 : decode cX7_takeDigits 81 = .ok (.aload_n 0, 1) := by decide +kernel
theorem dX7_takeDigits_82 : decode cX7_takeDigits 82 = .ok (.aload_n 0, 1) := by decide +kernel
theorem dX7_takeDigits_83 : decode cX7_takeDigits 83 = .ok (.getfield 17, 3) := by decide +kernel
theorem dX7_takeDigits_86 : decode cX7_takeDigits 86 = .ok (.aload_n 0, 1) := by decide +kernel
theorem dX7_takeDigits_87 : decode cX7_takeDigits 87 = .ok (.getfield 29, 3) := by decide +kernel
theorem dX7_takeDigits_90 : decode cX7_takeDigits 90 = .ok (.isub, 1) := by decide +kernel
theorem dX7_takeDigits_91 : decode cX7_takeDigits 91 = .ok (.iconst 4, 1) := by decide +kernel
theorem dX7_takeDigits_92 : decode cX7_takeDigits 92 = .ok (.if_icmp .gt 7, 3) := by decide +kernel
theorem dX7_takeDigits_95 : decode cX7_takeDigits 95 = .ok (.iconst 2, 1) := by decide +kernel
theorem dX7_takeDigits_96 : decode cX7_takeDigits 96 = .ok (.goto 4, 3) := by decide +kernel
theorem dX7_takeDigits_99 : decode cX7_takeDigits 99 = .ok (.iconst 4, 1) := by decide +kernel
theorem dX7_takeDigits_100 : decode cX7_takeDigits 100 = .ok (.putfield 26, 3) := by decide +kernel
theorem dX7_takeDigits_103 : decode cX7_takeDigits 103 = .ok (.return_, 1) := by decide +kernel
theorem dX7_isNumber_0 : decode cX7_isNumber 0 = .ok (.aload_n 0, 1) := by decide +kernel
theorem dX7_isNumber_1 : decode cX7_isNumber 1 = .ok (.getfield 26, 3) := by decide +kernel
theorem dX7_isNumber_4 : decode cX7_isNumber 4 = .ok (.iconst 2, 1) := by decide +kernel
theorem dX7_isNumber_5 : decode cX7_isNumber 5 = .ok (.if_icmp .ne 7, 3) := by decide +kernel
theorem dX7_isNumber_8 : decode cX7_isNumber 8 = .ok (.iconst 1, 1) := by decide +kernel
theorem dX7_isNumber_9 : decode cX7_isNumber 9 = .ok (.goto 4, 3) := by decide +kernel
theorem dX7_isNumber_12 : decode cX7_isNumber 12 = .ok (.iconst 0, 1) := by decide +kernel
theorem dX7_isNumber_13 : decode cX7_isNumber 13 = .ok (.ireturn, 1) := by decide +kernel
theorem dX7_isSign_0 : decode cX7_isSign 0 = .ok (.aload_n 0, 1) := by decide +kernel
theorem dX7_isSign_1 : decode cX7_isSign 1 = .ok (.getfield 26, 3) := by decide +kernel
theorem dX7_isSign_4 : decode cX7_isSign 4 = .ok (.iconst 3, 1) := by decide +kernel
theorem dX7_isSign_5 : decode cX7_isSign 5 = .ok (.if_icmp .ne 31, 3) := by decide +kernel
theorem dX7_isSign_8 : decode cX7_isSign 8 = .ok (.aload_n 0, 1) := by decide +kernel
theorem dX7_isSign_9 : decode cX7_isSign 9 = .ok (.getfield 29, 3) := by decide +kernel
theorem dX7_isSign_12 : decode cX7_isSign 12 = .ok (.aload_n 0, 1) := by decide +kernel
theorem dX7_isSign_13 : decode cX7_isSign 13 = .ok (.getfield 13, 3) := by decide +kernel
theorem dX7_isSign_16 : decode cX7_isSign 16 = .ok (.if_icmp .ge 20, 3) := by decide +kernel
theorem dX7_isSign_19 : decode cX7_isSign 19 = .ok (.aload_n 0, 1) := by decide +kernel
theorem dX7_isSign_20 : decode cX7_isSign 20 = .ok (.getfield 9, 3) := by decide +kernel
theorem dX7_isSign_23 : decode cX7_isSign 23 = .ok (.aload_n 0, 1) := by decide +kernel
theorem dX7_isSign_24 : decode cX7_isSign 24 = .ok (.getfield 29, 3) := by decide +kernel
theorem dX7_isSign_27 : decode cX7_isSign 27 = .ok (.baload, 1) := by decide +kernel
theorem dX7_isSign_28 : decode cX7_isSign 28 = .ok (.iload_n 1, 1) := by decide +kernel
theorem dX7_isSign_29 : decode cX7_isSign 29 = .ok (.if_icmp .ne 7, 3) := by decide +kernel
theorem dX7_isSign_32 : decode cX7_isSign 32 = .ok (.iconst 1, 1) := by decide +kernel
theorem dX7_isSign_33 : decode cX7_isSign 33 = .ok (.goto 4, 3) := by decide +kernel
theorem dX7_isSign_36 : decode cX7_isSign 36 = .ok (.iconst 0, 1) := by decide +kernel
theorem dX7_isSign_37 : decode cX7_isSign 37 = .ok (.ireturn, 1) := by decide +kernel
theorem dX7_isWord_0 : decode cX7_isWord 0 = .ok (.aload_n 0, 1) := by decide +kernel
theorem dX7_isWord_1 : decode cX7_isWord 1 = .ok (.getfield 26, 3) := by decide +kernel
theorem dX7_isWord_4 : decode cX7_isWord 4 = .ok (.iconst 1, 1) := by decide +kernel
theorem dX7_isWord_5 : decode cX7_isWord 5 = .ok (.if_icmp .ne 30, 3) := by decide +kernel
theorem dX7_isWord_8 : decode cX7_isWord 8 = .ok (.aload_n 0, 1) := by decide +kernel
theorem dX7_isWord_9 : decode cX7_isWord 9 = .ok (.getfield 17, 3) := by decide +kernel
theorem dX7_isWord_12 : decode cX7_isWord 12 = .ok (.aload_n 0, 1) := by decide +kernel
theorem dX7_isWord_13 : decode cX7_isWord 13 = .ok (.getfield 29, 3) := by decide +kernel
theorem dX7_isWord_16 : decode cX7_isWord 16 = .ok (.isub, 1) := by decide +kernel
theorem dX7_isWord_17 : decode cX7_isWord 17 = .ok (.aload_n 1, 1) := by decide +kernel
theorem dX7_isWord_18 : decode cX7_isWord 18 = .ok (.invokevirtual 55, 3) := by decide +kernel
theorem dX7_isWord_21 : decode cX7_isWord 21 = .ok (.if_icmp .ne 14, 3) := by decide +kernel
theorem dX7_isWord_24 : decode cX7_isWord 24 = .ok (.aload_n 0, 1) := by decide +kernel
theorem dX7_isWord_25 : decode cX7_isWord 25 = .ok (.getfield 17, 3) := by decide +kernel
theorem dX7_isWord_28 : decode cX7_isWord 28 = .ok (.aload_n 0, 1) := by decide +kernel
theorem dX7_isWord_29 : decode cX7_isWord 29 = .ok (.getfield 13, 3) := by decide +kernel
theorem dX7_isWord_32 : decode cX7_isWord 32 = .ok (.if_icmp .le 5, 3) := by decide +kernel
theorem dX7_isWord_35 : decode cX7_isWord 35 = .ok (.iconst 0, 1) := by decide +kernel
theorem dX7_isWord_36 : decode cX7_isWord 36 = .ok (.ireturn, 1) := by decide +kernel
theorem dX7_isWord_37 : decode cX7_isWord 37 = .ok (.iconst 0, 1) := by decide +kernel
theorem dX7_isWord_38 : decode cX7_isWord 38 = .ok (.istore_n 2, 1) := by decide +kernel
theorem dX7_isWord_39 : decode cX7_isWord 39 = .ok (.iload_n 2, 1) := by decide +kernel
theorem dX7_isWord_40 : decode cX7_isWord 40 = .ok (.aload_n 1, 1) := by decide +kernel
theorem dX7_isWord_41 : decode cX7_isWord 41 = .ok (.invokevirtual 55, 3) := by decide +kernel
theorem dX7_isWord_44 : decode cX7_isWord 44 = .ok (.if_icmp .ge 30, 3) := by decide +kernel
theorem dX7_isWord_47 : decode cX7_isWord 47 = .ok (.aload_n 0, 1) := by decide +kernel
theorem dX7_isWord_48 : decode cX7_isWord 48 = .ok (.getfield 9, 3) := by decide +kernel
theorem dX7_isWord_51 : decode cX7_isWord 51 = .ok (.aload_n 0, 1) := by decide +kernel
theorem dX7_isWord_52 : decode cX7_isWord 52 = .ok (.getfield 29, 3) := by decide +kernel
theorem dX7_isWord_55 : decode cX7_isWord 55 = .ok (.iload_n 2, 1) := by decide +kernel
theorem dX7_isWord_56 : decode cX7_isWord 56 = .ok (.iadd, 1) := by decide +kernel
theorem dX7_isWord_57 : decode cX7_isWord 57 = .ok (.baload, 1) := by decide +kernel
theorem dX7_isWord_58 : decode cX7_isWord 58 = .ok (.aload_n 1, 1) := by decide +kernel
theorem dX7_isWord_59 : decode cX7_isWord 59 = .ok (.iload_n 2, 1) := by decide +kernel
theorem dX7_isWord_60 : decode cX7_isWord 60 = .ok (.invokevirtual 58, 3) := by decide +kernel
theorem dX7_isWord_63 : decode cX7_isWord 63 = .ok (.if_icmp .eq 5, 3) := by decide +kernel
theorem dX7_isWord_66 : decode cX7_isWord 66 = .ok (.iconst 0, 1) := by decide +kernel
theorem dX7_isWord_67 : decode cX7_isWord 67 = .ok (.ireturn, 1) := by decide +kernel
theorem dX7_isWord_68 : decode cX7_isWord 68 = .ok (.iinc 2 1, 3) := by decide +kernel
theorem dX7_isWord_71 : decode cX7_isWord 71 = .ok (.goto (-32), 3) := by decide +kernel
theorem dX7_isWord_74 : decode cX7_isWord 74 = .ok (.iconst 1, 1) := by decide +kernel
theorem dX7_isWord_75 : decode cX7_isWord 75 = .ok (.ireturn, 1) := by decide +kernel
theorem dX7_isName_0 : decode cX7_isName 0 = .ok (.aload_n 0, 1) := by decide +kernel
theorem dX7_isName_1 : decode cX7_isName 1 = .ok (.ldc 62, 2) := by decide +kernel
theorem dX7_isName_3 : decode cX7_isName 3 = .ok (.invokevirtual 64, 3) := by decide +kernel
theorem dX7_isName_6 : decode cX7_isName 6 = .ok (.ifCond .ne 174, 3) := by decide +kernel
theorem dX7_isName_9 : decode cX7_isName 9 = .ok (.aload_n 0, 1) := by decide +kernel
theorem dX7_isName_10 : decode cX7_isName 10 = .ok (.ldc 68, 2) := by decide +kernel
theorem dX7_isName_12 : decode cX7_isName 12 = .ok (.invokevirtual 64, 3) := by decide +kernel
theorem dX7_isName_15 : decode cX7_isName 15 = .ok (.ifCond .ne 165, 3) := by decide +kernel
theorem dX7_isName_18 : decode cX7_isName 18 = .ok (.aload_n 0, 1) := by decide +kernel
theorem dX7_isName_19 : decode cX7_isName 19 = .ok (.ldc 70, 2) := by decide +kernel
theorem dX7_isName_21 : decode cX7_isName 21 = .ok (.invokevirtual 64, 3) := by decide +kernel
theorem dX7_isName_24 : decode cX7_isName 24 = .ok (.ifCond .ne 156, 3) := by decide +kernel
theorem dX7_isName_27 : decode cX7_isName 27 = .ok (.aload_n 0, 1) := by decide +kernel
theorem dX7_isName_28 : decode cX7_isName 28 = .ok (.ldc 72, 2) := by decide +kernel
theorem dX7_isName_30 : decode cX7_isName 30 = .ok (.invokevirtual 64, 3) := by decide +kernel
theorem dX7_isName_33 : decode cX7_isName 33 = .ok (.ifCond .ne 147, 3) := by decide +kernel
theorem dX7_isName_36 : decode cX7_isName 36 = .ok (.aload_n 0, 1) := by decide +kernel
theorem dX7_isName_37 : decode cX7_isName 37 = .ok (.ldc 74, 2) := by decide +kernel
theorem dX7_isName_39 : decode cX7_isName 39 = .ok (.invokevirtual 64, 3) := by decide +kernel
theorem dX7_isName_42 : decode cX7_isName 42 = .ok (.ifCond .ne 138, 3) := by decide +kernel
theorem dX7_isName_45 : decode cX7_isName 45 = .ok (.aload_n 0, 1) := by decide +kernel
theorem dX7_isName_46 : decode cX7_isName 46 = .ok (.ldc 76, 2) := by decide +kernel
theorem dX7_isName_48 : decode cX7_isName 48 = .ok (.invokevirtual 64, 3) := by decide +kernel
theorem dX7_isName_51 : decode cX7_isName 51 = .ok (.ifCond .ne 129, 3) := by decide +kernel
theorem dX7_isName_54 : decode cX7_isName 54 = .ok (.aload_n 0, 1) := by decide +kernel
theorem dX7_isName_55 : decode cX7_isName 55 = .ok (.ldc 78, 2) := by decide +kernel
theorem dX7_isName_57 : decode cX7_isName 57 = .ok (.invokevirtual 64, 3) := by decide +kernel
theorem dX7_isName_60 : decode cX7_isName 60 = .ok (.ifCond .ne 120, 3) := by decide +kernel
theorem dX7_isName_63 : decode cX7_isName 63 = .ok (.aload_n 0, 1) := by decide +kernel
theorem dX7_isName_64 : decode cX7_isName 64 = .ok (.ldc 80, 2) := by decide +kernel
theorem dX7_isName_66 : decode cX7_isName 66 = .ok (.invokevirtual 64, 3) := by decide +kernel
theorem dX7_isName_69 : decode cX7_isName 69 = .ok (.ifCond .ne 111, 3) := by decide +kernel
theorem dX7_isName_72 : decode cX7_isName 72 = .ok (.aload_n 0, 1) := by decide +kernel
theorem dX7_isName_73 : decode cX7_isName 73 = .ok (.ldc 82, 2) := by decide +kernel
theorem dX7_isName_75 : decode cX7_isName 75 = .ok (.invokevirtual 64, 3) := by decide +kernel
theorem dX7_isName_78 : decode cX7_isName 78 = .ok (.ifCond .ne 102, 3) := by decide +kernel
theorem dX7_isName_81 : decode cX7_isName 81 = .ok (.aload_n 0, 1) := by decide +kernel
theorem dX7_isName_82 : decode cX7_isName 82 = .ok (.ldc 84, 2) := by decide +kernel
theorem dX7_isName_84 : decode cX7_isName 84 = .ok (.invokevirtual 64, 3) := by decide +kernel
theorem dX7_isName_87 : decode cX7_isName 87 = .ok (.ifCond .ne 93, 3) := by decide +kernel
theorem dX7_isName_90 : decode cX7_isName 90 = .ok (.aload_n 0, 1) := by decide +kernel
theorem dX7_isName_91 : decode cX7_isName 91 = .ok (.ldc 86, 2) := by decide +kernel
theorem dX7_isName_93 : decode cX7_isName 93 = .ok (.invokevirtual 64, 3) := by decide +kernel
theorem dX7_isName_96 : decode cX7_isName 96 = .ok (.ifCond .ne 84, 3) := by decide +kernel
theorem dX7_isName_99 : decode cX7_isName 99 = .ok (.aload_n 0, 1) := by decide +kernel
theorem dX7_isName_100 : decode cX7_isName 100 = .ok (.ldc 88, 2) := by decide +kernel
theorem dX7_isName_102 : decode cX7_isName 102 = .ok (.invokevirtual 64, 3) := by decide +kernel
theorem dX7_isName_105 : decode cX7_isName 105 = .ok (.ifCond .ne 75, 3) := by decide +kernel
theorem dX7_isName_108 : decode cX7_isName 108 = .ok (.aload_n 0, 1) := by decide +kernel
theorem dX7_isName_109 : decode cX7_isName 109 = .ok (.ldc 90, 2) := by decide +kernel
theorem dX7_isName_111 : decode cX7_isName 111 = .ok (.invokevirtual 64, 3) := by decide +kernel
theorem dX7_isName_114 : decode cX7_isName 114 = .ok (.ifCond .ne 66, 3) := by decide +kernel
theorem dX7_isName_117 : decode cX7_isName 117 = .ok (.aload_n 0, 1) := by decide +kernel
theorem dX7_isName_118 : decode cX7_isName 118 = .ok (.ldc 92, 2) := by decide +kernel
theorem dX7_isName_120 : decode cX7_isName 120 = .ok (.invokevirtual 64, 3) := by decide +kernel
theorem dX7_isName_123 : decode cX7_isName 123 = .ok (.ifCond .ne 57, 3) := by decide +kernel
theorem dX7_isName_126 : decode cX7_isName 126 = .ok (.aload_n 0, 1) := by decide +kernel
theorem dX7_isName_127 : decode cX7_isName 127 = .ok (.ldc 94, 2) := by decide +kernel
theorem dX7_isName_129 : decode cX7_isName 129 = .ok (.invokevirtual 64, 3) := by decide +kernel
theorem dX7_isName_132 : decode cX7_isName 132 = .ok (.ifCond .ne 48, 3) := by decide +kernel
theorem dX7_isName_135 : decode cX7_isName 135 = .ok (.aload_n 0, 1) := by decide +kernel
theorem dX7_isName_136 : decode cX7_isName 136 = .ok (.ldc 96, 2) := by decide +kernel
theorem dX7_isName_138 : decode cX7_isName 138 = .ok (.invokevirtual 64, 3) := by decide +kernel
theorem dX7_isName_141 : decode cX7_isName 141 = .ok (.ifCond .ne 39, 3) := by decide +kernel
theorem dX7_isName_144 : decode cX7_isName 144 = .ok (.aload_n 0, 1) := by decide +kernel
theorem dX7_isName_145 : decode cX7_isName 145 = .ok (.ldc 98, 2) := by decide +kernel
theorem dX7_isName_147 : decode cX7_isName 147 = .ok (.invokevirtual 64, 3) := by decide +kernel
theorem dX7_isName_150 : decode cX7_isName 150 = .ok (.ifCond .ne 30, 3) := by decide +kernel
theorem dX7_isName_153 : decode cX7_isName 153 = .ok (.aload_n 0, 1) := by decide +kernel
theorem dX7_isName_154 : decode cX7_isName 154 = .ok (.ldc 100, 2) := by decide +kernel
theorem dX7_isName_156 : decode cX7_isName 156 = .ok (.invokevirtual 64, 3) := by decide +kernel
theorem dX7_isName_159 : decode cX7_isName 159 = .ok (.ifCond .ne 21, 3) := by decide +kernel
theorem dX7_isName_162 : decode cX7_isName 162 = .ok (.aload_n 0, 1) := by decide +kernel
theorem dX7_isName_163 : decode cX7_isName 163 = .ok (.ldc 102, 2) := by decide +kernel
theorem dX7_isName_165 : decode cX7_isName 165 = .ok (.invokevirtual 64, 3) := by decide +kernel
theorem dX7_isName_168 : decode cX7_isName 168 = .ok (.ifCond .ne 12, 3) := by decide +kernel
theorem dX7_isName_171 : decode cX7_isName 171 = .ok (.aload_n 0, 1) := by decide +kernel
theorem dX7_isName_172 : decode cX7_isName 172 = .ok (.ldc 104, 2) := by decide +kernel
theorem dX7_isName_174 : decode cX7_isName 174 = .ok (.invokevirtual 64, 3) := by decide +kernel
theorem dX7_isName_177 : decode cX7_isName 177 = .ok (.ifCond .eq 7, 3) := by decide +kernel
theorem dX7_isName_180 : decode cX7_isName 180 = .ok (.iconst 1, 1) := by decide +kernel
theorem dX7_isName_181 : decode cX7_isName 181 = .ok (.goto 4, 3) := by decide +kernel
theorem dX7_isName_184 : decode cX7_isName 184 = .ok (.iconst 0, 1) := by decide +kernel
theorem dX7_isName_185 : decode cX7_isName 185 = .ok (.istore_n 1, 1) := by decide +kernel
theorem dX7_isName_186 : decode cX7_isName 186 = .ok (.aload_n 0, 1) := by decide +kernel
theorem dX7_isName_187 : decode cX7_isName 187 = .ok (.getfield 26, 3) := by decide +kernel
theorem dX7_isName_190 : decode cX7_isName 190 = .ok (.iconst 1, 1) := by decide +kernel
theorem dX7_isName_191 : decode cX7_isName 191 = .ok (.if_icmp .ne 11, 3) := by decide +kernel
theorem dX7_isName_194 : decode cX7_isName 194 = .ok (.iload_n 1, 1) := by decide +kernel
theorem dX7_isName_195 : decode cX7_isName 195 = .ok (.ifCond .ne 7, 3) := by decide +kernel
theorem dX7_isName_198 : decode cX7_isName 198 = .ok (.iconst 1, 1) := by decide +kernel
theorem dX7_isName_199 : decode cX7_isName 199 = .ok (.goto 4, 3) := by decide +kernel
theorem dX7_isName_202 : decode cX7_isName 202 = .ok (.iconst 0, 1) := by decide +kernel
theorem dX7_isName_203 : decode cX7_isName 203 = .ok (.ireturn, 1) := by decide +kernel
theorem dX7_takeWord_0 : decode cX7_takeWord 0 = .ok (.aload_n 0, 1) := by decide +kernel
theorem dX7_takeWord_1 : decode cX7_takeWord 1 = .ok (.aload_n 1, 1) := by decide +kernel
theorem dX7_takeWord_2 : decode cX7_takeWord 2 = .ok (.invokevirtual 64, 3) := by decide +kernel
theorem dX7_takeWord_5 : decode cX7_takeWord 5 = .ok (.ifCond .eq 10, 3) := by decide +kernel
theorem dX7_takeWord_8 : decode cX7_takeWord 8 = .ok (.aload_n 0, 1) := by decide +kernel
theorem dX7_takeWord_9 : decode cX7_takeWord 9 = .ok (.invokevirtual 23, 3) := by decide +kernel
theorem dX7_takeWord_12 : decode cX7_takeWord 12 = .ok (.goto 8, 3) := by decide +kernel
theorem dX7_takeWord_15 : decode cX7_takeWord 15 = .ok (.aload_n 0, 1) := by decide +kernel
theorem dX7_takeWord_16 : decode cX7_takeWord 16 = .ok (.iconst 1, 1) := by decide +kernel
theorem dX7_takeWord_17 : decode cX7_takeWord 17 = .ok (.invokevirtual 106, 3) := by decide +kernel
theorem dX7_takeWord_20 : decode cX7_takeWord 20 = .ok (.return_, 1) := by decide +kernel
theorem dX7_takeSign_0 : decode cX7_takeSign 0 = .ok (.aload_n 0, 1) := by decide +kernel
theorem dX7_takeSign_1 : decode cX7_takeSign 1 = .ok (.iload_n 1, 1) := by decide +kernel
theorem dX7_takeSign_2 : decode cX7_takeSign 2 = .ok (.invokevirtual 110, 3) := by decide +kernel
theorem dX7_takeSign_5 : decode cX7_takeSign 5 = .ok (.ifCond .eq 10, 3) := by decide +kernel
theorem dX7_takeSign_8 : decode cX7_takeSign 8 = .ok (.aload_n 0, 1) := by decide +kernel
theorem dX7_takeSign_9 : decode cX7_takeSign 9 = .ok (.invokevirtual 23, 3) := by decide +kernel
theorem dX7_takeSign_12 : decode cX7_takeSign 12 = .ok (.goto 8, 3) := by decide +kernel
theorem dX7_takeSign_15 : decode cX7_takeSign 15 = .ok (.aload_n 0, 1) := by decide +kernel
theorem dX7_takeSign_16 : decode cX7_takeSign 16 = .ok (.iconst 1, 1) := by decide +kernel
theorem dX7_takeSign_17 : decode cX7_takeSign 17 = .ok (.invokevirtual 106, 3) := by decide +kernel
theorem dX7_takeSign_20 : decode cX7_takeSign 20 = .ok (.return_, 1) := by decide +kernel
theorem dX7_isNumberWithin_0 : decode cX7_isNumberWithin 0 = .ok (.aload_n 0, 1) := by decide +kernel
theorem dX7_isNumberWithin_1 : decode cX7_isNumberWithin 1 = .ok (.getfield 26, 3) := by decide +kernel
theorem dX7_isNumberWithin_4 : decode cX7_isNumberWithin 4 = .ok (.iconst 2, 1) := by decide +kernel
theorem dX7_isNumberWithin_5 : decode cX7_isNumberWithin 5 = .ok (.if_icmp .eq 11, 3) := by decide +kernel
theorem dX7_isNumberWithin_8 : decode cX7_isNumberWithin 8 = .ok (.aload_n 0, 1) := by decide +kernel
theorem dX7_isNumberWithin_9 : decode cX7_isNumberWithin 9 = .ok (.iconst 1, 1) := by decide +kernel
theorem dX7_isNumberWithin_10 : decode cX7_isNumberWithin 10 = .ok (.invokevirtual 106, 3) := by decide +kernel
theorem dX7_isNumberWithin_13 : decode cX7_isNumberWithin 13 = .ok (.goto 24, 3) := by decide +kernel
theorem dX7_isNumberWithin_16 : decode cX7_isNumberWithin 16 = .ok (.aload_n 0, 1) := by decide +kernel
theorem dX7_isNumberWithin_17 : decode cX7_isNumberWithin 17 = .ok (.getfield 52, 3) := by decide +kernel
theorem dX7_isNumberWithin_20 : decode cX7_isNumberWithin 20 = .ok (.iload_n 1, 1) := by decide +kernel
theorem dX7_isNumberWithin_21 : decode cX7_isNumberWithin 21 = .ok (.if_icmp .lt 11, 3) := by decide +kernel
theorem dX7_isNumberWithin_24 : decode cX7_isNumberWithin 24 = .ok (.aload_n 0, 1) := by decide +kernel
theorem dX7_isNumberWithin_25 : decode cX7_isNumberWithin 25 = .ok (.getfield 52, 3) := by decide +kernel
theorem dX7_isNumberWithin_28 : decode cX7_isNumberWithin 28 = .ok (.iload_n 2, 1) := by decide +kernel
theorem dX7_isNumberWithin_29 : decode cX7_isNumberWithin 29 = .ok (.if_icmp .le 8, 3) := by decide +kernel
theorem dX7_isNumberWithin_32 : decode cX7_isNumberWithin 32 = .ok (.aload_n 0, 1) := by decide +kernel
theorem dX7_isNumberWithin_33 : decode cX7_isNumberWithin 33 = .ok (.iconst 4, 1) := by decide +kernel
theorem dX7_isNumberWithin_34 : decode cX7_isNumberWithin 34 = .ok (.invokevirtual 106, 3) := by decide +kernel
theorem dX7_isNumberWithin_37 : decode cX7_isNumberWithin 37 = .ok (.aload_n 0, 1) := by decide +kernel
theorem dX7_isNumberWithin_38 : decode cX7_isNumberWithin 38 = .ok (.getfield 20, 3) := by decide +kernel
theorem dX7_isNumberWithin_41 : decode cX7_isNumberWithin 41 = .ok (.ifCond .ne 7, 3) := by decide +kernel
theorem dX7_isNumberWithin_44 : decode cX7_isNumberWithin 44 = .ok (.iconst 1, 1) := by decide +kernel
theorem dX7_isNumberWithin_45 : decode cX7_isNumberWithin 45 = .ok (.goto 4, 3) := by decide +kernel
theorem dX7_isNumberWithin_48 : decode cX7_isNumberWithin 48 = .ok (.iconst 0, 1) := by decide +kernel
theorem dX7_isNumberWithin_49 : decode cX7_isNumberWithin 49 = .ok (.ireturn, 1) := by decide +kernel
theorem dX7_takeNumber_0 : decode cX7_takeNumber 0 = .ok (.aload_n 0, 1) := by decide +kernel
theorem dX7_takeNumber_1 : decode cX7_takeNumber 1 = .ok (.getfield 52, 3) := by decide +kernel
theorem dX7_takeNumber_4 : decode cX7_takeNumber 4 = .ok (.istore_n 3, 1) := by decide +kernel
theorem dX7_takeNumber_5 : decode cX7_takeNumber 5 = .ok (.aload_n 0, 1) := by decide +kernel
theorem dX7_takeNumber_6 : decode cX7_takeNumber 6 = .ok (.iload_n 1, 1) := by decide +kernel
theorem dX7_takeNumber_7 : decode cX7_takeNumber 7 = .ok (.iload_n 2, 1) := by decide +kernel
theorem dX7_takeNumber_8 : decode cX7_takeNumber 8 = .ok (.invokevirtual 114, 3) := by decide +kernel
theorem dX7_takeNumber_11 : decode cX7_takeNumber 11 = .ok (.ifCond .eq 7, 3) := by decide +kernel
theorem dX7_takeNumber_14 : decode cX7_takeNumber 14 = .ok (.aload_n 0, 1) := by decide +kernel
theorem dX7_takeNumber_15 : decode cX7_takeNumber 15 = .ok (.invokevirtual 23, 3) := by decide +kernel
theorem dX7_takeNumber_18 : decode cX7_takeNumber 18 = .ok (.iload_n 3, 1) := by decide +kernel
theorem dX7_takeNumber_19 : decode cX7_takeNumber 19 = .ok (.ireturn, 1) := by decide +kernel
theorem dX8_init_0 : decode cX8_init 0 = .ok (.aload_n 0, 1) := by decide +kernel
theorem dX8_init_1 : decode cX8_init 1 = .ok (.invokespecial 1, 3) := by decide +kernel
theorem dX8_init_4 : decode cX8_init 4 = .ok (.aload_n 0, 1) := by decide +kernel
theorem dX8_init_5 : decode cX8_init 5 = .ok (.bipush 16, 2) := by decide +kernel
theorem dX8_init_7 : decode cX8_init 7 = .ok (.anewarray 9, 3) := by decide +kernel
theorem dX8_init_10 : decode cX8_init 10 = .ok (.putfield 11, 3) := by decide +kernel
theorem dX8_init_13 : decode cX8_init 13 = .ok (.iconst 0, 1) := by decide +kernel
theorem dX8_init_14 : decode cX8_init 14 = .ok (.istore_n 2, 1) := by decide +kernel
theorem dX8_init_15 : decode cX8_init 15 = .ok (.iload_n 2, 1) := by decide +kernel
theorem dX8_init_16 : decode cX8_init 16 = .ok (.bipush 16, 2) := by decide +kernel
theorem dX8_init_18 : decode cX8_init 18 = .ok (.if_icmp .ge 23, 3) := by decide +kernel
theorem dX8_init_21 : decode cX8_init 21 = .ok (.aload_n 0, 1) := by decide +kernel
theorem dX8_init_22 : decode cX8_init 22 = .ok (.getfield 11, 3) := by decide +kernel
theorem dX8_init_25 : decode cX8_init 25 = .ok (.iload_n 2, 1) := by decide +kernel
theorem dX8_init_26 : decode cX8_init 26 = .ok (.new 9, 3) := by decide +kernel
theorem dX8_init_29 : decode cX8_init 29 = .ok (.dup, 1) := by decide +kernel
theorem dX8_init_30 : decode cX8_init 30 = .ok (.aload_n 1, 1) := by decide +kernel
theorem dX8_init_31 : decode cX8_init 31 = .ok (.invokespecial 15, 3) := by decide +kernel
theorem dX8_init_34 : decode cX8_init 34 = .ok (.aastore, 1) := by decide +kernel
theorem dX8_init_35 : decode cX8_init 35 = .ok (.iinc 2 1, 3) := by decide +kernel
theorem dX8_init_38 : decode cX8_init 38 = .ok (.goto (-23), 3) := by decide +kernel
theorem dX8_init_41 : decode cX8_init 41 = .ok (.return_, 1) := by decide +kernel
theorem dX8_clear_0 : decode cX8_clear 0 = .ok (.aload_n 0, 1) := by decide +kernel
theorem dX8_clear_1 : decode cX8_clear 1 = .ok (.iconst 0, 1) := by decide +kernel
theorem dX8_clear_2 : decode cX8_clear 2 = .ok (.putfield 18, 3) := by decide +kernel
theorem dX8_clear_5 : decode cX8_clear 5 = .ok (.return_, 1) := by decide +kernel
theorem dX8_keep_0 : decode cX8_keep 0 = .ok (.aload_n 0, 1) := by decide +kernel
theorem dX8_keep_1 : decode cX8_keep 1 = .ok (.getfield 11, 3) := by decide +kernel
theorem dX8_keep_4 : decode cX8_keep 4 = .ok (.aload_n 0, 1) := by decide +kernel
theorem dX8_keep_5 : decode cX8_keep 5 = .ok (.getfield 22, 3) := by decide +kernel
theorem dX8_keep_8 : decode cX8_keep 8 = .ok (.aaload, 1) := by decide +kernel
theorem dX8_keep_9 : decode cX8_keep 9 = .ok (.aload_n 1, 1) := by decide +kernel
theorem dX8_keep_10 : decode cX8_keep 10 = .ok (.invokevirtual 25, 3) := by decide +kernel
theorem dX8_keep_13 : decode cX8_keep 13 = .ok (.aload_n 0, 1) := by decide +kernel
theorem dX8_keep_14 : decode cX8_keep 14 = .ok (.aload_n 0, 1) := by decide +kernel
theorem dX8_keep_15 : decode cX8_keep 15 = .ok (.getfield 22, 3) := by decide +kernel
theorem dX8_keep_18 : decode cX8_keep 18 = .ok (.iconst 1, 1) := by decide +kernel
theorem dX8_keep_19 : decode cX8_keep 19 = .ok (.iadd, 1) := by decide +kernel
theorem dX8_keep_20 : decode cX8_keep 20 = .ok (.bipush 16, 2) := by decide +kernel
theorem dX8_keep_22 : decode cX8_keep 22 = .ok (.irem, 1) := by decide +kernel
theorem dX8_keep_23 : decode cX8_keep 23 = .ok (.putfield 22, 3) := by decide +kernel
theorem dX8_keep_26 : decode cX8_keep 26 = .ok (.aload_n 0, 1) := by decide +kernel
theorem dX8_keep_27 : decode cX8_keep 27 = .ok (.aload_n 0, 1) := by decide +kernel
theorem dX8_keep_28 : decode cX8_keep 28 = .ok (.getfield 18, 3) := by decide +kernel
theorem dX8_keep_31 : decode cX8_keep 31 = .ok (.iconst 1, 1) := by decide +kernel
theorem dX8_keep_32 : decode cX8_keep 32 = .ok (.iadd, 1) := by decide +kernel
theorem dX8_keep_33 : decode cX8_keep 33 = .ok (.bipush 16, 2) := by decide +kernel
theorem dX8_keep_35 : decode cX8_keep 35 = .ok (.invokestatic 29, 3) := by decide +kernel
theorem dX8_keep_38 : decode cX8_keep 38 = .ok (.putfield 18, 3) := by decide +kernel
theorem dX8_keep_41 : decode cX8_keep 41 = .ok (.return_, 1) := by decide +kernel
theorem dX8_takeBack_0 : decode cX8_takeBack 0 = .ok (.aload_n 0, 1) := by decide +kernel
theorem dX8_takeBack_1 : decode cX8_takeBack 1 = .ok (.getfield 18, 3) := by decide +kernel
theorem dX8_takeBack_4 : decode cX8_takeBack 4 = .ok (.ifCond .ne 5, 3) := by decide +kernel
theorem dX8_takeBack_7 : decode cX8_takeBack 7 = .ok (.iconst 0, 1) := by decide +kernel
theorem dX8_takeBack_8 : decode cX8_takeBack 8 = .ok (.ireturn, 1) := by decide +kernel
theorem dX8_takeBack_9 : decode cX8_takeBack 9 = .ok (.aload_n 0, 1) := by decide +kernel
theorem dX8_takeBack_10 : decode cX8_takeBack 10 = .ok (.dup, 1) := by decide +kernel
theorem dX8_takeBack_11 : decode cX8_takeBack 11 = .ok (.getfield 18, 3) := by decide +kernel
theorem dX8_takeBack_14 : decode cX8_takeBack 14 = .ok (.iconst 1, 1) := by decide +kernel
theorem dX8_takeBack_15 : decode cX8_takeBack 15 = .ok (.isub, 1) := by decide +kernel
theorem dX8_takeBack_16 : decode cX8_takeBack 16 = .ok (.putfield 18, 3) := by decide +kernel
theorem dX8_takeBack_19 : decode cX8_takeBack 19 = .ok (.aload_n 0, 1) := by decide +kernel
theorem dX8_takeBack_20 : decode cX8_takeBack 20 = .ok (.aload_n 0, 1) := by decide +kernel
theorem dX8_takeBack_21 : decode cX8_takeBack 21 = .ok (.getfield 22, 3) := by decide +kernel
theorem dX8_takeBack_24 : decode cX8_takeBack 24 = .ok (.bipush 16, 2) := by decide +kernel
theorem dX8_takeBack_26 : decode cX8_takeBack 26 = .ok (.iadd, 1) := by decide +kernel
theorem dX8_takeBack_27 : decode cX8_takeBack 27 = .ok (.iconst 1, 1) := by decide +kernel
theorem dX8_takeBack_28 : decode cX8_takeBack 28 = .ok (.isub, 1) := by decide +kernel
theorem dX8_takeBack_29 : decode cX8_takeBack 29 = .ok (.bipush 16, 2) := by decide +kernel
theorem dX8_takeBack_31 : decode cX8_takeBack 31 = .ok (.irem, 1) := by decide +kernel
theorem dX8_takeBack_32 : decode cX8_takeBack 32 = .ok (.putfield 22, 3) := by decide +kernel
theorem dX8_takeBack_35 : decode cX8_takeBack 35 = .ok (.aload_n 1, 1) := by decide +kernel
theorem dX8_takeBack_36 : decode cX8_takeBack 36 = .ok (.aload_n 0, 1) := by decide +kernel
theorem dX8_takeBack_37 : decode cX8_takeBack 37 = .ok (.getfield 11, 3) := by decide +kernel
theorem dX8_takeBack_40 : decode cX8_takeBack 40 = .ok (.aload_n 0, 1) := by decide +kernel
theorem dX8_takeBack_41 : decode cX8_takeBack 41 = .ok (.getfield 22, 3) := by decide +kernel
theorem dX8_takeBack_44 : decode cX8_takeBack 44 = .ok (.aaload, 1) := by decide +kernel
theorem dX8_takeBack_45 : decode cX8_takeBack 45 = .ok (.invokevirtual 25, 3) := by decide +kernel
theorem dX8_takeBack_48 : decode cX8_takeBack 48 = .ok (.iconst 1, 1) := by decide +kernel
theorem dX8_takeBack_49 : decode cX8_takeBack 49 = .ok (.ireturn, 1) := by decide +kernel
theorem dX9_init_0 : decode cX9_init 0 = .ok (.aload_n 0, 1) := by decide +kernel
theorem dX9_init_1 : decode cX9_init 1 = .ok (.invokespecial 3, 3) := by decide +kernel
theorem dX9_init_4 : decode cX9_init 4 = .ok (.aload_n 0, 1) := by decide +kernel
theorem dX9_init_5 : decode cX9_init 5 = .ok (.bipush 40, 2) := by decide +kernel
theorem dX9_init_7 : decode cX9_init 7 = .ok (.newarray .int, 2) := by decide +kernel
theorem dX9_init_9 : decode cX9_init 9 = .ok (.putfield 11, 3) := by decide +kernel
theorem dX9_init_12 : decode cX9_init 12 = .ok (.return_, 1) := by decide +kernel
theorem dX9_clear_0 : decode cX9_clear 0 = .ok (.aload_n 0, 1) := by decide +kernel
theorem dX9_clear_1 : decode cX9_clear 1 = .ok (.iconst 0, 1) := by decide +kernel
theorem dX9_clear_2 : decode cX9_clear 2 = .ok (.putfield 15, 3) := by decide +kernel
theorem dX9_clear_5 : decode cX9_clear 5 = .ok (.return_, 1) := by decide +kernel
theorem dX9_copyFrom_0 : decode cX9_copyFrom 0 = .ok (.aload_n 0, 1) := by decide +kernel
theorem dX9_copyFrom_1 : decode cX9_copyFrom 1 = .ok (.aload_n 1, 1) := by decide +kernel
theorem dX9_copyFrom_2 : decode cX9_copyFrom 2 = .ok (.getfield 15, 3) := by decide +kernel
theorem dX9_copyFrom_5 : decode cX9_copyFrom 5 = .ok (.putfield 15, 3) := by decide +kernel
theorem dX9_copyFrom_8 : decode cX9_copyFrom 8 = .ok (.aload_n 1, 1) := by decide +kernel
theorem dX9_copyFrom_9 : decode cX9_copyFrom 9 = .ok (.getfield 11, 3) := by decide +kernel
theorem dX9_copyFrom_12 : decode cX9_copyFrom 12 = .ok (.iconst 0, 1) := by decide +kernel
theorem dX9_copyFrom_13 : decode cX9_copyFrom 13 = .ok (.aload_n 0, 1) := by decide +kernel
theorem dX9_copyFrom_14 : decode cX9_copyFrom 14 = .ok (.getfield 11, 3) := by decide +kernel
theorem dX9_copyFrom_17 : decode cX9_copyFrom 17 = .ok (.iconst 0, 1) := by decide +kernel
theorem dX9_copyFrom_18 : decode cX9_copyFrom 18 = .ok (.bipush 40, 2) := by decide +kernel
theorem dX9_copyFrom_20 : decode cX9_copyFrom 20 = .ok (.invokestatic 19, 3) := by decide +kernel
theorem dX9_copyFrom_23 : decode cX9_copyFrom 23 = .ok (.return_, 1) := by decide +kernel
theorem dX9_readFrom_0 : decode cX9_readFrom 0 = .ok (.aload_n 0, 1) := by decide +kernel
theorem dX9_readFrom_1 : decode cX9_readFrom 1 = .ok (.iconst 0, 1) := by decide +kernel
theorem dX9_readFrom_2 : decode cX9_readFrom 2 = .ok (.putfield 15, 3) := by decide +kernel
theorem dX9_readFrom_5 : decode cX9_readFrom 5 = .ok (.aload_n 1, 1) := by decide +kernel
theorem dX9_readFrom_6 : decode cX9_readFrom 6 = .ok (.invokevirtual 25, 3) := by decide +kernel
theorem dX9_readFrom_9 : decode cX9_readFrom 9 = .ok (.iconst 0, 1) := by decide +kernel
theorem dX9_readFrom_10 : decode cX9_readFrom 10 = .ok (.istore_n 3, 1) := by decide +kernel
theorem dX9_readFrom_11 : decode cX9_readFrom 11 = .ok (.iload_n 3, 1) := by decide +kernel
theorem dX9_readFrom_12 : decode cX9_readFrom 12 = .ok (.bipush 40, 2) := by decide +kernel
theorem dX9_readFrom_14 : decode cX9_readFrom 14 = .ok (.if_icmp .gt 29, 3) := by decide +kernel
theorem dX9_readFrom_17 : decode cX9_readFrom 17 = .ok (.aload_n 1, 1) := by decide +kernel
theorem dX9_readFrom_18 : decode cX9_readFrom 18 = .ok (.invokevirtual 30, 3) := by decide +kernel
theorem dX9_readFrom_21 : decode cX9_readFrom 21 = .ok (.ifCond .eq 22, 3) := by decide +kernel
theorem dX9_readFrom_24 : decode cX9_readFrom 24 = .ok (.aload_n 1, 1) := by decide +kernel
theorem dX9_readFrom_25 : decode cX9_readFrom 25 = .ok (.invokevirtual 34, 3) := by decide +kernel
theorem dX9_readFrom_28 : decode cX9_readFrom 28 = .ok (.ifCond .ne 15, 3) := by decide +kernel
theorem dX9_readFrom_31 : decode cX9_readFrom 31 = .ok (.aload_n 0, 1) := by decide +kernel
theorem dX9_readFrom_32 : decode cX9_readFrom 32 = .ok (.aload_n 1, 1) := by decide +kernel
theorem dX9_readFrom_33 : decode cX9_readFrom 33 = .ok (.aload_n 2, 1) := by decide +kernel
theorem dX9_readFrom_34 : decode cX9_readFrom 34 = .ok (.invokevirtual 37, 3) := by decide +kernel
theorem dX9_readFrom_37 : decode cX9_readFrom 37 = .ok (.iinc 3 1, 3) := by decide +kernel
theorem dX9_readFrom_40 : decode cX9_readFrom 40 = .ok (.goto (-29), 3) := by decide +kernel
theorem dX9_readFrom_43 : decode cX9_readFrom 43 = .ok (.aload_n 1, 1) := by decide +kernel
theorem dX9_readFrom_44 : decode cX9_readFrom 44 = .ok (.getfield 41, 3) := by decide +kernel
theorem dX9_readFrom_47 : decode cX9_readFrom 47 = .ok (.ireturn, 1) := by decide +kernel
theorem dX9_readOne_0 : decode cX9_readOne 0 = .ok (.aload_n 1, 1) := by decide +kernel
theorem dX9_readOne_1 : decode cX9_readOne 1 = .ok (.invokestatic 44, 3) := by decide +kernel
theorem dX9_readOne_4 : decode cX9_readOne 4 = .ok (.istore_n 3, 1) := by decide +kernel
theorem dX9_readOne_5 : decode cX9_readOne 5 = .ok (.iload_n 3, 1) := by decide +kernel
theorem dX9_readOne_6 : decode cX9_readOne 6 = .ok (.iconst (-1), 1) := by decide +kernel
theorem dX9_readOne_7 : decode cX9_readOne 7 = .ok (.if_icmp .ne 9, 3) := by decide +kernel
theorem dX9_readOne_10 : decode cX9_readOne 10 = .ok (.aload_n 1, 1) := by decide +kernel
theorem dX9_readOne_11 : decode cX9_readOne 11 = .ok (.iconst 1, 1) := by decide +kernel
theorem dX9_readOne_12 : decode cX9_readOne 12 = .ok (.invokevirtual 48, 3) := by decide +kernel
theorem dX9_readOne_15 : decode cX9_readOne 15 = .ok (.return_, 1) := by decide +kernel
theorem dX9_readOne_16 : decode cX9_readOne 16 = .ok (.aload_n 0, 1) := by decide +kernel
theorem dX9_readOne_17 : decode cX9_readOne 17 = .ok (.getfield 15, 3) := by decide +kernel
theorem dX9_readOne_20 : decode cX9_readOne 20 = .ok (.bipush 40, 2) := by decide +kernel
theorem dX9_readOne_22 : decode cX9_readOne 22 = .ok (.if_icmp .lt 9, 3) := by decide +kernel
theorem dX9_readOne_25 : decode cX9_readOne 25 = .ok (.aload_n 1, 1) := by decide +kernel
theorem dX9_readOne_26 : decode cX9_readOne 26 = .ok (.iconst 5, 1) := by decide +kernel
theorem dX9_readOne_27 : decode cX9_readOne 27 = .ok (.invokevirtual 48, 3) := by decide +kernel
theorem dX9_readOne_30 : decode cX9_readOne 30 = .ok (.return_, 1) := by decide +kernel
theorem dX9_readOne_31 : decode cX9_readOne 31 = .ok (.aload_n 1, 1) := by decide +kernel
theorem dX9_readOne_32 : decode cX9_readOne 32 = .ok (.invokevirtual 52, 3) := by decide +kernel
theorem dX9_readOne_35 : decode cX9_readOne 35 = .ok (.sipush 1000, 3) := by decide +kernel
theorem dX9_readOne_38 : decode cX9_readOne 38 = .ok (.iload_n 3, 1) := by decide +kernel
theorem dX9_readOne_39 : decode cX9_readOne 39 = .ok (.imul, 1) := by decide +kernel
theorem dX9_readOne_40 : decode cX9_readOne 40 = .ok (.istore 4, 2) := by decide +kernel
theorem dX9_readOne_42 : decode cX9_readOne 42 = .ok (.iload_n 3, 1) := by decide +kernel
theorem dX9_readOne_43 : decode cX9_readOne 43 = .ok (.ifCond .ne 16, 3) := by decide +kernel
theorem dX9_readOne_46 : decode cX9_readOne 46 = .ok (.iload 4, 2) := by decide +kernel
theorem dX9_readOne_48 : decode cX9_readOne 48 = .ok (.bipush 100, 2) := by decide +kernel
theorem dX9_readOne_50 : decode cX9_readOne 50 = .ok (.aload_n 2, 1) := by decide +kernel
theorem dX9_readOne_51 : decode cX9_readOne 51 = .ok (.aload_n 1, 1) := by decide +kernel
theorem dX9_readOne_52 : decode cX9_readOne 52 = .ok (.invokevirtual 55, 3) := by decide +kernel
theorem dX9_readOne_55 : decode cX9_readOne 55 = .ok (.imul, 1) := by decide +kernel
theorem dX9_readOne_56 : decode cX9_readOne 56 = .ok (.iadd, 1) := by decide +kernel
theorem dX9_readOne_57 : decode cX9_readOne 57 = .ok (.istore 4, 2) := by decide +kernel
theorem dX9_readOne_59 : decode cX9_readOne 59 = .ok (.iload_n 3, 1) := by decide +kernel
theorem dX9_readOne_60 : decode cX9_readOne 60 = .ok (.iconst 3, 1) := by decide +kernel
theorem dX9_readOne_61 : decode cX9_readOne 61 = .ok (.if_icmp .eq 16, 3) := by decide +kernel
theorem dX9_readOne_64 : decode cX9_readOne 64 = .ok (.iload 4, 2) := by decide +kernel
theorem dX9_readOne_66 : decode cX9_readOne 66 = .ok (.bipush 10, 2) := by decide +kernel
theorem dX9_readOne_68 : decode cX9_readOne 68 = .ok (.aload_n 2, 1) := by decide +kernel
theorem dX9_readOne_69 : decode cX9_readOne 69 = .ok (.aload_n 1, 1) := by decide +kernel
theorem dX9_readOne_70 : decode cX9_readOne 70 = .ok (.invokevirtual 60, 3) := by decide +kernel
theorem dX9_readOne_73 : decode cX9_readOne 73 = .ok (.imul, 1) := by decide +kernel
theorem dX9_readOne_74 : decode cX9_readOne 74 = .ok (.iadd, 1) := by decide +kernel
theorem dX9_readOne_75 : decode cX9_readOne 75 = .ok (.istore 4, 2) := by decide +kernel
theorem dX9_readOne_77 : decode cX9_readOne 77 = .ok (.iload_n 3, 1) := by decide +kernel
theorem dX9_readOne_78 : decode cX9_readOne 78 = .ok (.ifCond .ne 14, 3) := by decide +kernel
theorem dX9_readOne_81 : decode cX9_readOne 81 = .ok (.iload 4, 2) := by decide +kernel
theorem dX9_readOne_83 : decode cX9_readOne 83 = .ok (.aload_n 1, 1) := by decide +kernel
theorem dX9_readOne_84 : decode cX9_readOne 84 = .ok (.iconst 0, 1) := by decide +kernel
theorem dX9_readOne_85 : decode cX9_readOne 85 = .ok (.iconst 5, 1) := by decide +kernel
theorem dX9_readOne_86 : decode cX9_readOne 86 = .ok (.invokevirtual 63, 3) := by decide +kernel
theorem dX9_readOne_89 : decode cX9_readOne 89 = .ok (.iadd, 1) := by decide +kernel
theorem dX9_readOne_90 : decode cX9_readOne 90 = .ok (.istore 4, 2) := by decide +kernel
theorem dX9_readOne_92 : decode cX9_readOne 92 = .ok (.aload_n 1, 1) := by decide +kernel
theorem dX9_readOne_93 : decode cX9_readOne 93 = .ok (.bipush 59, 2) := by decide +kernel
theorem dX9_readOne_95 : decode cX9_readOne 95 = .ok (.invokevirtual 67, 3) := by decide +kernel
theorem dX9_readOne_98 : decode cX9_readOne 98 = .ok (.aload_n 0, 1) := by decide +kernel
theorem dX9_readOne_99 : decode cX9_readOne 99 = .ok (.getfield 11, 3) := by decide +kernel
theorem dX9_readOne_102 : decode cX9_readOne 102 = .ok (.aload_n 0, 1) := by decide +kernel
theorem dX9_readOne_103 : decode cX9_readOne 103 = .ok (.getfield 15, 3) := by decide +kernel
theorem dX9_readOne_106 : decode cX9_readOne 106 = .ok (.iload 4, 2) := by decide +kernel
theorem dX9_readOne_108 : decode cX9_readOne 108 = .ok (.iastore, 1) := by decide +kernel
theorem dX9_readOne_109 : decode cX9_readOne 109 = .ok (.aload_n 0, 1) := by decide +kernel
theorem dX9_readOne_110 : decode cX9_readOne 110 = .ok (.dup, 1) := by decide +kernel
theorem dX9_readOne_111 : decode cX9_readOne 111 = .ok (.getfield 15, 3) := by decide +kernel
theorem dX9_readOne_114 : decode cX9_readOne 114 = .ok (.iconst 1, 1) := by decide +kernel
theorem dX9_readOne_115 : decode cX9_readOne 115 = .ok (.iadd, 1) := by decide +kernel
theorem dX9_readOne_116 : decode cX9_readOne 116 = .ok (.putfield 15, 3) := by decide +kernel
theorem dX9_readOne_119 : decode cX9_readOne 119 = .ok (.return_, 1) := by decide +kernel
theorem dX9_actAt_0 : decode cX9_actAt 0 = .ok (.aload_n 0, 1) := by decide +kernel
theorem dX9_actAt_1 : decode cX9_actAt 1 = .ok (.ldc 71, 2) := by decide +kernel
theorem dX9_actAt_3 : decode cX9_actAt 3 = .ok (.invokevirtual 73, 3) := by decide +kernel
theorem dX9_actAt_6 : decode cX9_actAt 6 = .ok (.ifCond .eq 5, 3) := by decide +kernel
theorem dX9_actAt_9 : decode cX9_actAt 9 = .ok (.iconst 0, 1) := by decide +kernel
theorem dX9_actAt_10 : decode cX9_actAt 10 = .ok (.ireturn, 1) := by decide +kernel
theorem dX9_actAt_11 : decode cX9_actAt 11 = .ok (.aload_n 0, 1) := by decide +kernel
theorem dX9_actAt_12 : decode cX9_actAt 12 = .ok (.ldc 77, 2) := by decide +kernel
theorem dX9_actAt_14 : decode cX9_actAt 14 = .ok (.invokevirtual 73, 3) := by decide +kernel
theorem dX9_actAt_17 : decode cX9_actAt 17 = .ok (.ifCond .eq 5, 3) := by decide +kernel
theorem dX9_actAt_20 : decode cX9_actAt 20 = .ok (.iconst 1, 1) := by decide +kernel
theorem dX9_actAt_21 : decode cX9_actAt 21 = .ok (.ireturn, 1) := by decide +kernel
theorem dX9_actAt_22 : decode cX9_actAt 22 = .ok (.aload_n 0, 1) := by decide +kernel
theorem dX9_actAt_23 : decode cX9_actAt 23 = .ok (.ldc 79, 2) := by decide +kernel
theorem dX9_actAt_25 : decode cX9_actAt 25 = .ok (.invokevirtual 73, 3) := by decide +kernel
theorem dX9_actAt_28 : decode cX9_actAt 28 = .ok (.ifCond .eq 5, 3) := by decide +kernel
theorem dX9_actAt_31 : decode cX9_actAt 31 = .ok (.iconst 2, 1) := by decide +kernel
theorem dX9_actAt_32 : decode cX9_actAt 32 = .ok (.ireturn, 1) := by decide +kernel
theorem dX9_actAt_33 : decode cX9_actAt 33 = .ok (.aload_n 0, 1) := by decide +kernel
theorem dX9_actAt_34 : decode cX9_actAt 34 = .ok (.ldc 81, 2) := by decide +kernel
theorem dX9_actAt_36 : decode cX9_actAt 36 = .ok (.invokevirtual 73, 3) := by decide +kernel
theorem dX9_actAt_39 : decode cX9_actAt 39 = .ok (.ifCond .eq 7, 3) := by decide +kernel
theorem dX9_actAt_42 : decode cX9_actAt 42 = .ok (.iconst 3, 1) := by decide +kernel
theorem dX9_actAt_43 : decode cX9_actAt 43 = .ok (.goto 4, 3) := by decide +kernel
theorem dX9_actAt_46 : decode cX9_actAt 46 = .ok (.iconst (-1), 1) := by decide +kernel
theorem dX9_actAt_47 : decode cX9_actAt 47 = .ok (.ireturn, 1) := by decide +kernel
theorem dX10_init_0 : decode cX10_init 0 = .ok (.aload_n 0, 1) := by decide +kernel
theorem dX10_init_1 : decode cX10_init 1 = .ok (.invokespecial 3, 3) := by decide +kernel
theorem dX10_init_4 : decode cX10_init 4 = .ok (.aload_n 0, 1) := by decide +kernel
theorem dX10_init_5 : decode cX10_init 5 = .ok (.new 9, 3) := by decide +kernel
theorem dX10_init_8 : decode cX10_init 8 = .ok (.dup, 1) := by decide +kernel
theorem dX10_init_9 : decode cX10_init 9 = .ok (.invokespecial 11, 3) := by decide +kernel
theorem dX10_init_12 : decode cX10_init 12 = .ok (.putfield 12, 3) := by decide +kernel
theorem dX10_init_15 : decode cX10_init 15 = .ok (.aload_n 0, 1) := by decide +kernel
theorem dX10_init_16 : decode cX10_init 16 = .ok (.new 16, 3) := by decide +kernel
theorem dX10_init_19 : decode cX10_init 19 = .ok (.dup, 1) := by decide +kernel
theorem dX10_init_20 : decode cX10_init 20 = .ok (.invokespecial 18, 3) := by decide +kernel
theorem dX10_init_23 : decode cX10_init 23 = .ok (.putfield 19, 3) := by decide +kernel
theorem dX10_init_26 : decode cX10_init 26 = .ok (.aload_n 0, 1) := by decide +kernel
theorem dX10_init_27 : decode cX10_init 27 = .ok (.new 16, 3) := by decide +kernel
theorem dX10_init_30 : decode cX10_init 30 = .ok (.dup, 1) := by decide +kernel
theorem dX10_init_31 : decode cX10_init 31 = .ok (.invokespecial 18, 3) := by decide +kernel
theorem dX10_init_34 : decode cX10_init 34 = .ok (.putfield 23, 3) := by decide +kernel
theorem dX10_init_37 : decode cX10_init 37 = .ok (.aload_n 0, 1) := by decide +kernel
theorem dX10_init_38 : decode cX10_init 38 = .ok (.new 26, 3) := by decide +kernel
theorem dX10_init_41 : decode cX10_init 41 = .ok (.dup, 1) := by decide +kernel
theorem dX10_init_42 : decode cX10_init 42 = .ok (.aload_n 0, 1) := by decide +kernel
theorem dX10_init_43 : decode cX10_init 43 = .ok (.getfield 19, 3) := by decide +kernel
theorem dX10_init_46 : decode cX10_init 46 = .ok (.invokespecial 28, 3) := by decide +kernel
theorem dX10_init_49 : decode cX10_init 49 = .ok (.putfield 31, 3) := by decide +kernel
theorem dX10_init_52 : decode cX10_init 52 = .ok (.aload_n 0, 1) := by decide +kernel
theorem dX10_init_53 : decode cX10_init 53 = .ok (.new 26, 3) := by decide +kernel
theorem dX10_init_56 : decode cX10_init 56 = .ok (.dup, 1) := by decide +kernel
theorem dX10_init_57 : decode cX10_init 57 = .ok (.aload_n 0, 1) := by decide +kernel
theorem dX10_init_58 : decode cX10_init 58 = .ok (.getfield 19, 3) := by decide +kernel
theorem dX10_init_61 : decode cX10_init 61 = .ok (.invokespecial 28, 3) := by decide +kernel
theorem dX10_init_64 : decode cX10_init 64 = .ok (.putfield 35, 3) := by decide +kernel
theorem dX10_init_67 : decode cX10_init 67 = .ok (.aload_n 0, 1) := by decide +kernel
theorem dX10_init_68 : decode cX10_init 68 = .ok (.new 38, 3) := by decide +kernel
theorem dX10_init_71 : decode cX10_init 71 = .ok (.dup, 1) := by decide +kernel
theorem dX10_init_72 : decode cX10_init 72 = .ok (.invokespecial 40, 3) := by decide +kernel
theorem dX10_init_75 : decode cX10_init 75 = .ok (.putfield 41, 3) := by decide +kernel
theorem dX10_init_78 : decode cX10_init 78 = .ok (.aload_n 0, 1) := by decide +kernel
theorem dX10_init_79 : decode cX10_init 79 = .ok (.new 38, 3) := by decide +kernel
theorem dX10_init_82 : decode cX10_init 82 = .ok (.dup, 1) := by decide +kernel
theorem dX10_init_83 : decode cX10_init 83 = .ok (.invokespecial 40, 3) := by decide +kernel
theorem dX10_init_86 : decode cX10_init 86 = .ok (.putfield 45, 3) := by decide +kernel
theorem dX10_init_89 : decode cX10_init 89 = .ok (.aload_n 0, 1) := by decide +kernel
theorem dX10_init_90 : decode cX10_init 90 = .ok (.new 48, 3) := by decide +kernel
theorem dX10_init_93 : decode cX10_init 93 = .ok (.dup, 1) := by decide +kernel
theorem dX10_init_94 : decode cX10_init 94 = .ok (.invokespecial 50, 3) := by decide +kernel
theorem dX10_init_97 : decode cX10_init 97 = .ok (.putfield 51, 3) := by decide +kernel
theorem dX10_init_100 : decode cX10_init 100 = .ok (.aload_n 0, 1) := by decide +kernel
theorem dX10_init_101 : decode cX10_init 101 = .ok (.new 55, 3) := by decide +kernel
theorem dX10_init_104 : decode cX10_init 104 = .ok (.dup, 1) := by decide +kernel
theorem dX10_init_105 : decode cX10_init 105 = .ok (.aload_n 0, 1) := by decide +kernel
theorem dX10_init_106 : decode cX10_init 106 = .ok (.getfield 19, 3) := by decide +kernel
theorem dX10_init_109 : decode cX10_init 109 = .ok (.invokespecial 57, 3) := by decide +kernel
theorem dX10_init_112 : decode cX10_init 112 = .ok (.putfield 58, 3) := by decide +kernel
theorem dX10_init_115 : decode cX10_init 115 = .ok (.aload_n 0, 1) := by decide +kernel
theorem dX10_init_116 : decode cX10_init 116 = .ok (.new 62, 3) := by decide +kernel
theorem dX10_init_119 : decode cX10_init 119 = .ok (.dup, 1) := by decide +kernel
theorem dX10_init_120 : decode cX10_init 120 = .ok (.aload_n 0, 1) := by decide +kernel
theorem dX10_init_121 : decode cX10_init 121 = .ok (.getfield 19, 3) := by decide +kernel
theorem dX10_init_124 : decode cX10_init 124 = .ok (.invokespecial 64, 3) := by decide +kernel
theorem dX10_init_127 : decode cX10_init 127 = .ok (.putfield 65, 3) := by decide +kernel
theorem dX10_init_130 : decode cX10_init 130 = .ok (.aload_n 0, 1) := by decide +kernel
theorem dX10_init_131 : decode cX10_init 131 = .ok (.new 69, 3) := by decide +kernel
theorem dX10_init_134 : decode cX10_init 134 = .ok (.dup, 1) := by decide +kernel
theorem dX10_init_135 : decode cX10_init 135 = .ok (.invokespecial 71, 3) := by decide +kernel
theorem dX10_init_138 : decode cX10_init 138 = .ok (.putfield 72, 3) := by decide +kernel
theorem dX10_init_141 : decode cX10_init 141 = .ok (.aload_n 0, 1) := by decide +kernel
theorem dX10_init_142 : decode cX10_init 142 = .ok (.iconst 4, 1) := by decide +kernel
theorem dX10_init_143 : decode cX10_init 143 = .ok (.anewarray 76, 3) := by decide +kernel
theorem dX10_init_146 : decode cX10_init 146 = .ok (.putfield 78, 3) := by decide +kernel
theorem dX10_init_149 : decode cX10_init 149 = .ok (.iconst 0, 1) := by decide +kernel
theorem dX10_init_150 : decode cX10_init 150 = .ok (.istore_n 1, 1) := by decide +kernel
theorem dX10_init_151 : decode cX10_init 151 = .ok (.iload_n 1, 1) := by decide +kernel
theorem dX10_init_152 : decode cX10_init 152 = .ok (.iconst 4, 1) := by decide +kernel
theorem dX10_init_153 : decode cX10_init 153 = .ok (.if_icmp .ge 26, 3) := by decide +kernel
theorem dX10_init_156 : decode cX10_init 156 = .ok (.aload_n 0, 1) := by decide +kernel
theorem dX10_init_157 : decode cX10_init 157 = .ok (.getfield 78, 3) := by decide +kernel
theorem dX10_init_160 : decode cX10_init 160 = .ok (.iload_n 1, 1) := by decide +kernel
theorem dX10_init_161 : decode cX10_init 161 = .ok (.new 76, 3) := by decide +kernel
theorem dX10_init_164 : decode cX10_init 164 = .ok (.dup, 1) := by decide +kernel
theorem dX10_init_165 : decode cX10_init 165 = .ok (.aload_n 0, 1) := by decide +kernel
theorem dX10_init_166 : decode cX10_init 166 = .ok (.getfield 19, 3) := by decide +kernel
theorem dX10_init_169 : decode cX10_init 169 = .ok (.invokespecial 82, 3) := by decide +kernel
theorem dX10_init_172 : decode cX10_init 172 = .ok (.aastore, 1) := by decide +kernel
theorem dX10_init_173 : decode cX10_init 173 = .ok (.iinc 1 1, 3) := by decide +kernel
theorem dX10_init_176 : decode cX10_init 176 = .ok (.goto (-25), 3) := by decide +kernel
theorem dX10_init_179 : decode cX10_init 179 = .ok (.return_, 1) := by decide +kernel
theorem dX10_feed_0 : decode cX10_feed 0 = .ok (.aload_n 0, 1) := by decide +kernel
theorem dX10_feed_1 : decode cX10_feed 1 = .ok (.getfield 12, 3) := by decide +kernel
theorem dX10_feed_4 : decode cX10_feed 4 = .ok (.lload_n 1, 1) := by decide +kernel
theorem dX10_feed_5 : decode cX10_feed 5 = .ok (.invokevirtual 83, 3) := by decide +kernel
theorem dX10_feed_8 : decode cX10_feed 8 = .ok (.aload_n 0, 1) := by decide +kernel
theorem dX10_feed_9 : decode cX10_feed 9 = .ok (.getfield 12, 3) := by decide +kernel
theorem dX10_feed_12 : decode cX10_feed 12 = .ok (.lload_n 3, 1) := by decide +kernel
theorem dX10_feed_13 : decode cX10_feed 13 = .ok (.invokevirtual 83, 3) := by decide +kernel
theorem dX10_feed_16 : decode cX10_feed 16 = .ok (.aload_n 0, 1) := by decide +kernel
theorem dX10_feed_17 : decode cX10_feed 17 = .ok (.getfield 12, 3) := by decide +kernel
theorem dX10_feed_20 : decode cX10_feed 20 = .ok (.lload 5, 2) := by decide +kernel
theorem dX10_feed_22 : decode cX10_feed 22 = .ok (.invokevirtual 83, 3) := by decide +kernel
theorem dX10_feed_25 : decode cX10_feed 25 = .ok (.aload_n 0, 1) := by decide +kernel
theorem dX10_feed_26 : decode cX10_feed 26 = .ok (.getfield 12, 3) := by decide +kernel
theorem dX10_feed_29 : decode cX10_feed 29 = .ok (.getfield 87, 3) := by decide +kernel
theorem dX10_feed_32 : decode cX10_feed 32 = .ok (.ireturn, 1) := by decide +kernel
theorem dX10_library_0 : decode cX10_library 0 = .ok (.aload_n 0, 1) := by decide +kernel
theorem dX10_library_1 : decode cX10_library 1 = .ok (.getfield 23, 3) := by decide +kernel
theorem dX10_library_4 : decode cX10_library 4 = .ok (.aload_n 0, 1) := by decide +kernel
theorem dX10_library_5 : decode cX10_library 5 = .ok (.getfield 12, 3) := by decide +kernel
theorem dX10_library_8 : decode cX10_library 8 = .ok (.invokevirtual 91, 3) := by decide +kernel
theorem dX10_library_11 : decode cX10_library 11 = .ok (.istore_n 1, 1) := by decide +kernel
theorem dX10_library_12 : decode cX10_library 12 = .ok (.aload_n 0, 1) := by decide +kernel
theorem dX10_library_13 : decode cX10_library 13 = .ok (.getfield 12, 3) := by decide +kernel
theorem dX10_library_16 : decode cX10_library 16 = .ok (.invokevirtual 95, 3) := by decide +kernel
theorem dX10_library_19 : decode cX10_library 19 = .ok (.iload_n 1, 1) := by decide +kernel
theorem dX10_library_20 : decode cX10_library 20 = .ok (.ifCond .eq 5, 3) := by decide +kernel
theorem dX10_library_23 : decode cX10_library 23 = .ok (.iload_n 1, 1) := by decide +kernel
theorem dX10_library_24 : decode cX10_library 24 = .ok (.ireturn, 1) := by decide +kernel
theorem dX10_library_25 : decode cX10_library 25 = .ok (.aload_n 0, 1) := by decide +kernel
theorem dX10_library_26 : decode cX10_library 26 = .ok (.getfield 19, 3) := by decide +kernel
theorem dX10_library_29 : decode cX10_library 29 = .ok (.aload_n 0, 1) := by decide +kernel
theorem dX10_library_30 : decode cX10_library 30 = .ok (.getfield 23, 3) := by decide +kernel
theorem dX10_library_33 : decode cX10_library 33 = .ok (.invokevirtual 98, 3) := by decide +kernel
theorem dX10_library_36 : decode cX10_library 36 = .ok (.aload_n 0, 1) := by decide +kernel
theorem dX10_library_37 : decode cX10_library 37 = .ok (.getfield 31, 3) := by decide +kernel
theorem dX10_library_40 : decode cX10_library 40 = .ok (.invokevirtual 101, 3) := by decide +kernel
theorem dX10_library_43 : decode cX10_library 43 = .ok (.aload_n 0, 1) := by decide +kernel
theorem dX10_library_44 : decode cX10_library 44 = .ok (.getfield 41, 3) := by decide +kernel
theorem dX10_library_47 : decode cX10_library 47 = .ok (.invokevirtual 104, 3) := by decide +kernel
theorem dX10_library_50 : decode cX10_library 50 = .ok (.aload_n 0, 1) := by decide +kernel
theorem dX10_library_51 : decode cX10_library 51 = .ok (.getfield 51, 3) := by decide +kernel
theorem dX10_library_54 : decode cX10_library 54 = .ok (.invokevirtual 105, 3) := by decide +kernel
theorem dX10_library_57 : decode cX10_library 57 = .ok (.aload_n 0, 1) := by decide +kernel
theorem dX10_library_58 : decode cX10_library 58 = .ok (.getfield 58, 3) := by decide +kernel
theorem dX10_library_61 : decode cX10_library 61 = .ok (.invokevirtual 106, 3) := by decide +kernel
theorem dX10_library_64 : decode cX10_library 64 = .ok (.iconst 0, 1) := by decide +kernel
theorem dX10_library_65 : decode cX10_library 65 = .ok (.istore_n 2, 1) := by decide +kernel
theorem dX10_library_66 : decode cX10_library 66 = .ok (.iload_n 2, 1) := by decide +kernel
theorem dX10_library_67 : decode cX10_library 67 = .ok (.iconst 4, 1) := by decide +kernel
theorem dX10_library_68 : decode cX10_library 68 = .ok (.if_icmp .ge 19, 3) := by decide +kernel
theorem dX10_library_71 : decode cX10_library 71 = .ok (.aload_n 0, 1) := by decide +kernel
theorem dX10_library_72 : decode cX10_library 72 = .ok (.getfield 78, 3) := by decide +kernel
theorem dX10_library_75 : decode cX10_library 75 = .ok (.iload_n 2, 1) := by decide +kernel
theorem dX10_library_76 : decode cX10_library 76 = .ok (.aaload, 1) := by decide +kernel
theorem dX10_library_77 : decode cX10_library 77 = .ok (.iconst 0, 1) := by decide +kernel
theorem dX10_library_78 : decode cX10_library 78 = .ok (.putfield 107, 3) := by decide +kernel
theorem dX10_library_81 : decode cX10_library 81 = .ok (.iinc 2 1, 3) := by decide +kernel
theorem dX10_library_84 : decode cX10_library 84 = .ok (.goto (-18), 3) := by decide +kernel
theorem dX10_library_87 : decode cX10_library 87 = .ok (.iconst 0, 1) := by decide +kernel
theorem dX10_library_88 : decode cX10_library 88 = .ok (.ireturn, 1) := by decide +kernel
theorem dX10_year_0 : decode cX10_year 0 = .ok (.aload_n 0, 1) := by decide +kernel
theorem dX10_year_1 : decode cX10_year 1 = .ok (.getfield 45, 3) := by decide +kernel
theorem dX10_year_4 : decode cX10_year 4 = .ok (.aload_n 0, 1) := by decide +kernel
theorem dX10_year_5 : decode cX10_year 5 = .ok (.getfield 12, 3) := by decide +kernel
theorem dX10_year_8 : decode cX10_year 8 = .ok (.aload_n 0, 1) := by decide +kernel
theorem dX10_year_9 : decode cX10_year 9 = .ok (.getfield 19, 3) := by decide +kernel
theorem dX10_year_12 : decode cX10_year 12 = .ok (.invokevirtual 111, 3) := by decide +kernel
theorem dX10_year_15 : decode cX10_year 15 = .ok (.istore_n 1, 1) := by decide +kernel
theorem dX10_year_16 : decode cX10_year 16 = .ok (.aload_n 0, 1) := by decide +kernel
theorem dX10_year_17 : decode cX10_year 17 = .ok (.getfield 12, 3) := by decide +kernel
theorem dX10_year_20 : decode cX10_year 20 = .ok (.invokevirtual 95, 3) := by decide +kernel
theorem dX10_year_23 : decode cX10_year 23 = .ok (.iload_n 1, 1) := by decide +kernel
theorem dX10_year_24 : decode cX10_year 24 = .ok (.ifCond .ne 14, 3) := by decide +kernel
theorem dX10_year_27 : decode cX10_year 27 = .ok (.aload_n 0, 1) := by decide +kernel
theorem dX10_year_28 : decode cX10_year 28 = .ok (.getfield 41, 3) := by decide +kernel
theorem dX10_year_31 : decode cX10_year 31 = .ok (.aload_n 0, 1) := by decide +kernel
theorem dX10_year_32 : decode cX10_year 32 = .ok (.getfield 45, 3) := by decide +kernel
theorem dX10_year_35 : decode cX10_year 35 = .ok (.invokevirtual 114, 3) := by decide +kernel
theorem dX10_year_38 : decode cX10_year 38 = .ok (.iload_n 1, 1) := by decide +kernel
theorem dX10_year_39 : decode cX10_year 39 = .ok (.ireturn, 1) := by decide +kernel
theorem dX10_skin_0 : decode cX10_skin 0 = .ok (.aload_n 0, 1) := by decide +kernel
theorem dX10_skin_1 : decode cX10_skin 1 = .ok (.getfield 19, 3) := by decide +kernel
theorem dX10_skin_4 : decode cX10_skin 4 = .ok (.iload_n 1, 1) := by decide +kernel
theorem dX10_skin_5 : decode cX10_skin 5 = .ok (.invokevirtual 117, 3) := by decide +kernel
theorem dX10_skin_8 : decode cX10_skin 8 = .ok (.ifCond .ne 5, 3) := by decide +kernel
theorem dX10_skin_11 : decode cX10_skin 11 = .ok (.iconst (-1), 1) := by decide +kernel
theorem dX10_skin_12 : decode cX10_skin 12 = .ok (.ireturn, 1) := by decide +kernel
theorem dX10_skin_13 : decode cX10_skin 13 = .ok (.iload_n 2, 1) := by decide +kernel
theorem dX10_skin_14 : decode cX10_skin 14 = .ok (.tableswitch 90 0 4 #[34, 44, 54, 64, 74], 34) := by decide +kernel
theorem dX10_skin_48 : decode cX10_skin 48 = .ok (.aload_n 0, 1) := by decide +kernel
theorem dX10_skin_49 : decode cX10_skin 49 = .ok (.getfield 19, 3) := by decide +kernel
theorem dX10_skin_52 : decode cX10_skin 52 = .ok (.getfield 121, 3) := by decide +kernel
theorem dX10_skin_55 : decode cX10_skin 55 = .ok (.iload_n 1, 1) := by decide +kernel
theorem dX10_skin_56 : decode cX10_skin 56 = .ok (.iaload, 1) := by decide +kernel
theorem dX10_skin_57 : decode cX10_skin 57 = .ok (.ireturn, 1) := by decide +kernel
theorem dX10_skin_58 : decode cX10_skin 58 = .ok (.aload_n 0, 1) := by decide +kernel
theorem dX10_skin_59 : decode cX10_skin 59 = .ok (.getfield 31, 3) := by decide +kernel
theorem dX10_skin_62 : decode cX10_skin 62 = .ok (.getfield 125, 3) := by decide +kernel
theorem dX10_skin_65 : decode cX10_skin 65 = .ok (.iload_n 1, 1) := by decide +kernel
theorem dX10_skin_66 : decode cX10_skin 66 = .ok (.iaload, 1) := by decide +kernel
theorem dX10_skin_67 : decode cX10_skin 67 = .ok (.ireturn, 1) := by decide +kernel
theorem dX10_skin_68 : decode cX10_skin 68 = .ok (.aload_n 0, 1) := by decide +kernel
theorem dX10_skin_69 : decode cX10_skin 69 = .ok (.getfield 19, 3) := by decide +kernel
theorem dX10_skin_72 : decode cX10_skin 72 = .ok (.getfield 128, 3) := by decide +kernel
theorem dX10_skin_75 : decode cX10_skin 75 = .ok (.iload_n 1, 1) := by decide +kernel
theorem dX10_skin_76 : decode cX10_skin 76 = .ok (.iaload, 1) := by decide +kernel
theorem dX10_skin_77 : decode cX10_skin 77 = .ok (.ireturn, 1) := by decide +kernel
theorem dX10_skin_78 : decode cX10_skin 78 = .ok (.aload_n 0, 1) := by decide +kernel
theorem dX10_skin_79 : decode cX10_skin 79 = .ok (.getfield 31, 3) := by decide +kernel
theorem dX10_skin_82 : decode cX10_skin 82 = .ok (.getfield 131, 3) := by decide +kernel
theorem dX10_skin_85 : decode cX10_skin 85 = .ok (.iload_n 1, 1) := by decide +kernel
theorem dX10_skin_86 : decode cX10_skin 86 = .ok (.iaload, 1) := by decide +kernel
theorem dX10_skin_87 : decode cX10_skin 87 = .ok (.ireturn, 1) := by decide +kernel
theorem dX10_skin_88 : decode cX10_skin 88 = .ok (.aload_n 0, 1) := by decide +kernel
theorem dX10_skin_89 : decode cX10_skin 89 = .ok (.getfield 31, 3) := by decide +kernel
theorem dX10_skin_92 : decode cX10_skin 92 = .ok (.iload_n 1, 1) := by decide +kernel
theorem dX10_skin_93 : decode cX10_skin 93 = .ok (.aload_n 0, 1) := by decide +kernel
theorem dX10_skin_94 : decode cX10_skin 94 = .ok (.getfield 31, 3) := by decide +kernel
theorem dX10_skin_97 : decode cX10_skin 97 = .ok (.invokevirtual 134, 3) := by decide +kernel
theorem dX10_skin_100 : decode cX10_skin 100 = .ok (.invokevirtual 138, 3) := by decide +kernel
theorem dX10_skin_103 : decode cX10_skin 103 = .ok (.ireturn, 1) := by decide +kernel
theorem dX10_skin_104 : decode cX10_skin 104 = .ok (.iconst (-1), 1) := by decide +kernel
theorem dX10_skin_105 : decode cX10_skin 105 = .ok (.ireturn, 1) := by decide +kernel
theorem dX10_text_0 : decode cX10_text 0 = .ok (.aload_n 0, 1) := by decide +kernel
theorem dX10_text_1 : decode cX10_text 1 = .ok (.getfield 19, 3) := by decide +kernel
theorem dX10_text_4 : decode cX10_text 4 = .ok (.iload_n 1, 1) := by decide +kernel
theorem dX10_text_5 : decode cX10_text 5 = .ok (.invokevirtual 142, 3) := by decide +kernel
theorem dX10_text_8 : decode cX10_text 8 = .ok (.ifCond .ne 6, 3) := by decide +kernel
theorem dX10_text_11 : decode cX10_text 11 = .ok (.bipush (-2), 2) := by decide +kernel
theorem dX10_text_13 : decode cX10_text 13 = .ok (.ireturn, 1) := by decide +kernel
theorem dX10_text_14 : decode cX10_text 14 = .ok (.iload_n 2, 1) := by decide +kernel
theorem dX10_text_15 : decode cX10_text 15 = .ok (.tableswitch 103 0 4 #[33, 43, 53, 63, 87], 33) := by decide +kernel
theorem dX10_text_48 : decode cX10_text 48 = .ok (.aload_n 0, 1) := by decide +kernel
theorem dX10_text_49 : decode cX10_text 49 = .ok (.getfield 19, 3) := by decide +kernel
theorem dX10_text_52 : decode cX10_text 52 = .ok (.getfield 145, 3) := by decide +kernel
theorem dX10_text_55 : decode cX10_text 55 = .ok (.iload_n 1, 1) := by decide +kernel
theorem dX10_text_56 : decode cX10_text 56 = .ok (.iaload, 1) := by decide +kernel
theorem dX10_text_57 : decode cX10_text 57 = .ok (.ireturn, 1) := by decide +kernel
theorem dX10_text_58 : decode cX10_text 58 = .ok (.aload_n 0, 1) := by decide +kernel
theorem dX10_text_59 : decode cX10_text 59 = .ok (.getfield 19, 3) := by decide +kernel
theorem dX10_text_62 : decode cX10_text 62 = .ok (.getfield 148, 3) := by decide +kernel
theorem dX10_text_65 : decode cX10_text 65 = .ok (.iload_n 1, 1) := by decide +kernel
theorem dX10_text_66 : decode cX10_text 66 = .ok (.iaload, 1) := by decide +kernel
theorem dX10_text_67 : decode cX10_text 67 = .ok (.ireturn, 1) := by decide +kernel
theorem dX10_text_68 : decode cX10_text 68 = .ok (.aload_n 0, 1) := by decide +kernel
theorem dX10_text_69 : decode cX10_text 69 = .ok (.getfield 19, 3) := by decide +kernel
theorem dX10_text_72 : decode cX10_text 72 = .ok (.getfield 151, 3) := by decide +kernel
theorem dX10_text_75 : decode cX10_text 75 = .ok (.iload_n 1, 1) := by decide +kernel
theorem dX10_text_76 : decode cX10_text 76 = .ok (.iaload, 1) := by decide +kernel
theorem dX10_text_77 : decode cX10_text 77 = .ok (.ireturn, 1) := by decide +kernel
theorem dX10_text_78 : decode cX10_text 78 = .ok (.aload_n 0, 1) := by decide +kernel
theorem dX10_text_79 : decode cX10_text 79 = .ok (.getfield 31, 3) := by decide +kernel
theorem dX10_text_82 : decode cX10_text 82 = .ok (.iload_n 1, 1) := by decide +kernel
theorem dX10_text_83 : decode cX10_text 83 = .ok (.aload_n 0, 1) := by decide +kernel
theorem dX10_text_84 : decode cX10_text 84 = .ok (.getfield 31, 3) := by decide +kernel
theorem dX10_text_87 : decode cX10_text 87 = .ok (.invokevirtual 134, 3) := by decide +kernel
theorem dX10_text_90 : decode cX10_text 90 = .ok (.invokevirtual 154, 3) := by decide +kernel
theorem dX10_text_93 : decode cX10_text 93 = .ok (.ifCond .eq 7, 3) := by decide +kernel
theorem dX10_text_96 : decode cX10_text 96 = .ok (.iconst 1, 1) := by decide +kernel
theorem dX10_text_97 : decode cX10_text 97 = .ok (.goto 4, 3) := by decide +kernel
theorem dX10_text_100 : decode cX10_text 100 = .ok (.iconst 0, 1) := by decide +kernel
theorem dX10_text_101 : decode cX10_text 101 = .ok (.ireturn, 1) := by decide +kernel
theorem dX10_text_102 : decode cX10_text 102 = .ok (.aload_n 0, 1) := by decide +kernel
theorem dX10_text_103 : decode cX10_text 103 = .ok (.getfield 31, 3) := by decide +kernel
theorem dX10_text_106 : decode cX10_text 106 = .ok (.iload_n 1, 1) := by decide +kernel
theorem dX10_text_107 : decode cX10_text 107 = .ok (.aload_n 0, 1) := by decide +kernel
theorem dX10_text_108 : decode cX10_text 108 = .ok (.getfield 31, 3) := by decide +kernel
theorem dX10_text_111 : decode cX10_text 111 = .ok (.invokevirtual 134, 3) := by decide +kernel
theorem dX10_text_114 : decode cX10_text 114 = .ok (.invokevirtual 158, 3) := by decide +kernel
theorem dX10_text_117 : decode cX10_text 117 = .ok (.ireturn, 1) := by decide +kernel
theorem dX10_text_118 : decode cX10_text 118 = .ok (.bipush (-2), 2) := by decide +kernel
theorem dX10_text_120 : decode cX10_text 120 = .ok (.ireturn, 1) := by decide +kernel
theorem dX10_layers_0 : decode cX10_layers 0 = .ok (.aload_n 0, 1) := by decide +kernel
theorem dX10_layers_1 : decode cX10_layers 1 = .ok (.getfield 19, 3) := by decide +kernel
theorem dX10_layers_4 : decode cX10_layers 4 = .ok (.iload_n 1, 1) := by decide +kernel
theorem dX10_layers_5 : decode cX10_layers 5 = .ok (.iload_n 2, 1) := by decide +kernel
theorem dX10_layers_6 : decode cX10_layers 6 = .ok (.invokevirtual 161, 3) := by decide +kernel
theorem dX10_layers_9 : decode cX10_layers 9 = .ok (.ifCond .eq 20, 3) := by decide +kernel
theorem dX10_layers_12 : decode cX10_layers 12 = .ok (.aload_n 0, 1) := by decide +kernel
theorem dX10_layers_13 : decode cX10_layers 13 = .ok (.getfield 31, 3) := by decide +kernel
theorem dX10_layers_16 : decode cX10_layers 16 = .ok (.getfield 164, 3) := by decide +kernel
theorem dX10_layers_19 : decode cX10_layers 19 = .ok (.bipush 6, 2) := by decide +kernel
theorem dX10_layers_21 : decode cX10_layers 21 = .ok (.iload_n 1, 1) := by decide +kernel
theorem dX10_layers_22 : decode cX10_layers 22 = .ok (.imul, 1) := by decide +kernel
theorem dX10_layers_23 : decode cX10_layers 23 = .ok (.iload_n 2, 1) := by decide +kernel
theorem dX10_layers_24 : decode cX10_layers 24 = .ok (.iadd, 1) := by decide +kernel
theorem dX10_layers_25 : decode cX10_layers 25 = .ok (.iaload, 1) := by decide +kernel
theorem dX10_layers_26 : decode cX10_layers 26 = .ok (.goto 4, 3) := by decide +kernel
theorem dX10_layers_29 : decode cX10_layers 29 = .ok (.iconst (-1), 1) := by decide +kernel
theorem dX10_layers_30 : decode cX10_layers 30 = .ok (.ireturn, 1) := by decide +kernel
theorem dX10_layer_0 : decode cX10_layer 0 = .ok (.aload_n 0, 1) := by decide +kernel
theorem dX10_layer_1 : decode cX10_layer 1 = .ok (.getfield 19, 3) := by decide +kernel
theorem dX10_layer_4 : decode cX10_layer 4 = .ok (.iload_n 1, 1) := by decide +kernel
theorem dX10_layer_5 : decode cX10_layer 5 = .ok (.iload_n 2, 1) := by decide +kernel
theorem dX10_layer_6 : decode cX10_layer 6 = .ok (.invokevirtual 161, 3) := by decide +kernel
theorem dX10_layer_9 : decode cX10_layer 9 = .ok (.ifCond .eq 25, 3) := by decide +kernel
theorem dX10_layer_12 : decode cX10_layer 12 = .ok (.iload_n 3, 1) := by decide +kernel
theorem dX10_layer_13 : decode cX10_layer 13 = .ok (.ifCond .lt 21, 3) := by decide +kernel
theorem dX10_layer_16 : decode cX10_layer 16 = .ok (.iload_n 3, 1) := by decide +kernel
theorem dX10_layer_17 : decode cX10_layer 17 = .ok (.aload_n 0, 1) := by decide +kernel
theorem dX10_layer_18 : decode cX10_layer 18 = .ok (.getfield 31, 3) := by decide +kernel
theorem dX10_layer_21 : decode cX10_layer 21 = .ok (.getfield 164, 3) := by decide +kernel
theorem dX10_layer_24 : decode cX10_layer 24 = .ok (.bipush 6, 2) := by decide +kernel
theorem dX10_layer_26 : decode cX10_layer 26 = .ok (.iload_n 1, 1) := by decide +kernel
theorem dX10_layer_27 : decode cX10_layer 27 = .ok (.imul, 1) := by decide +kernel
theorem dX10_layer_28 : decode cX10_layer 28 = .ok (.iload_n 2, 1) := by decide +kernel
theorem dX10_layer_29 : decode cX10_layer 29 = .ok (.iadd, 1) := by decide +kernel
theorem dX10_layer_30 : decode cX10_layer 30 = .ok (.iaload, 1) := by decide +kernel
theorem dX10_layer_31 : decode cX10_layer 31 = .ok (.if_icmp .lt 5, 3) := by decide +kernel
theorem dX10_layer_34 : decode cX10_layer 34 = .ok (.iconst (-1), 1) := by decide +kernel
theorem dX10_layer_35 : decode cX10_layer 35 = .ok (.ireturn, 1) := by decide +kernel
theorem dX10_layer_36 : decode cX10_layer 36 = .ok (.aload_n 0, 1) := by decide +kernel
theorem dX10_layer_37 : decode cX10_layer 37 = .ok (.getfield 31, 3) := by decide +kernel
theorem dX10_layer_40 : decode cX10_layer 40 = .ok (.bipush 6, 2) := by decide +kernel
theorem dX10_layer_42 : decode cX10_layer 42 = .ok (.iload_n 1, 1) := by decide +kernel
theorem dX10_layer_43 : decode cX10_layer 43 = .ok (.imul, 1) := by decide +kernel
theorem dX10_layer_44 : decode cX10_layer 44 = .ok (.iload_n 2, 1) := by decide +kernel
theorem dX10_layer_45 : decode cX10_layer 45 = .ok (.iadd, 1) := by decide +kernel
theorem dX10_layer_46 : decode cX10_layer 46 = .ok (.iload_n 3, 1) := by decide +kernel
theorem dX10_layer_47 : decode cX10_layer 47 = .ok (.invokevirtual 167, 3) := by decide +kernel
theorem dX10_layer_50 : decode cX10_layer 50 = .ok (.ireturn, 1) := by decide +kernel
theorem dX10_read_0 : decode cX10_read 0 = .ok (.aload_n 0, 1) := by decide +kernel
theorem dX10_read_1 : decode cX10_read 1 = .ok (.getfield 19, 3) := by decide +kernel
theorem dX10_read_4 : decode cX10_read 4 = .ok (.iload_n 1, 1) := by decide +kernel
theorem dX10_read_5 : decode cX10_read 5 = .ok (.iload_n 2, 1) := by decide +kernel
theorem dX10_read_6 : decode cX10_read 6 = .ok (.invokevirtual 161, 3) := by decide +kernel
theorem dX10_read_9 : decode cX10_read 9 = .ok (.ifCond .eq 22, 3) := by decide +kernel
theorem dX10_read_12 : decode cX10_read 12 = .ok (.aload_n 0, 1) := by decide +kernel
theorem dX10_read_13 : decode cX10_read 13 = .ok (.getfield 31, 3) := by decide +kernel
theorem dX10_read_16 : decode cX10_read 16 = .ok (.iload_n 1, 1) := by decide +kernel
theorem dX10_read_17 : decode cX10_read 17 = .ok (.iload_n 2, 1) := by decide +kernel
theorem dX10_read_18 : decode cX10_read 18 = .ok (.aload_n 0, 1) := by decide +kernel
theorem dX10_read_19 : decode cX10_read 19 = .ok (.getfield 31, 3) := by decide +kernel
theorem dX10_read_22 : decode cX10_read 22 = .ok (.invokevirtual 134, 3) := by decide +kernel
theorem dX10_read_25 : decode cX10_read 25 = .ok (.invokevirtual 170, 3) := by decide +kernel
theorem dX10_read_28 : decode cX10_read 28 = .ok (.goto 4, 3) := by decide +kernel
theorem dX10_read_31 : decode cX10_read 31 = .ok (.iconst (-1), 1) := by decide +kernel
theorem dX10_read_32 : decode cX10_read 32 = .ok (.ireturn, 1) := by decide +kernel
theorem dX10_write_0 : decode cX10_write 0 = .ok (.aload_n 0, 1) := by decide +kernel
theorem dX10_write_1 : decode cX10_write 1 = .ok (.getfield 19, 3) := by decide +kernel
theorem dX10_write_4 : decode cX10_write 4 = .ok (.iload_n 1, 1) := by decide +kernel
theorem dX10_write_5 : decode cX10_write 5 = .ok (.invokevirtual 142, 3) := by decide +kernel
theorem dX10_write_8 : decode cX10_write 8 = .ok (.ifCond .eq 27, 3) := by decide +kernel
theorem dX10_write_11 : decode cX10_write 11 = .ok (.aload_n 0, 1) := by decide +kernel
theorem dX10_write_12 : decode cX10_write 12 = .ok (.getfield 19, 3) := by decide +kernel
theorem dX10_write_15 : decode cX10_write 15 = .ok (.iload_n 2, 1) := by decide +kernel
theorem dX10_write_16 : decode cX10_write 16 = .ok (.invokevirtual 117, 3) := by decide +kernel
theorem dX10_write_19 : decode cX10_write 19 = .ok (.ifCond .eq 16, 3) := by decide +kernel
theorem dX10_write_22 : decode cX10_write 22 = .ok (.aload_n 0, 1) := by decide +kernel
theorem dX10_write_23 : decode cX10_write 23 = .ok (.getfield 31, 3) := by decide +kernel
theorem dX10_write_26 : decode cX10_write 26 = .ok (.iload_n 1, 1) := by decide +kernel
theorem dX10_write_27 : decode cX10_write 27 = .ok (.iload_n 2, 1) := by decide +kernel
theorem dX10_write_28 : decode cX10_write 28 = .ok (.iload_n 3, 1) := by decide +kernel
theorem dX10_write_29 : decode cX10_write 29 = .ok (.invokevirtual 174, 3) := by decide +kernel
theorem dX10_write_32 : decode cX10_write 32 = .ok (.ifCond .ne 5, 3) := by decide +kernel
theorem dX10_write_35 : decode cX10_write 35 = .ok (.iconst 0, 1) := by decide +kernel
theorem dX10_write_36 : decode cX10_write 36 = .ok (.ireturn, 1) := by decide +kernel
theorem dX10_write_37 : decode cX10_write 37 = .ok (.aload_n 0, 1) := by decide +kernel
theorem dX10_write_38 : decode cX10_write 38 = .ok (.getfield 58, 3) := by decide +kernel
theorem dX10_write_41 : decode cX10_write 41 = .ok (.aload_n 0, 1) := by decide +kernel
theorem dX10_write_42 : decode cX10_write 42 = .ok (.getfield 31, 3) := by decide +kernel
theorem dX10_write_45 : decode cX10_write 45 = .ok (.invokevirtual 178, 3) := by decide +kernel
theorem dX10_write_48 : decode cX10_write 48 = .ok (.aload_n 0, 1) := by decide +kernel
theorem dX10_write_49 : decode cX10_write 49 = .ok (.getfield 31, 3) := by decide +kernel
theorem dX10_write_52 : decode cX10_write 52 = .ok (.iload_n 1, 1) := by decide +kernel
theorem dX10_write_53 : decode cX10_write 53 = .ok (.iload_n 2, 1) := by decide +kernel
theorem dX10_write_54 : decode cX10_write 54 = .ok (.iload_n 3, 1) := by decide +kernel
theorem dX10_write_55 : decode cX10_write 55 = .ok (.invokevirtual 182, 3) := by decide +kernel
theorem dX10_write_58 : decode cX10_write 58 = .ok (.iconst 1, 1) := by decide +kernel
theorem dX10_write_59 : decode cX10_write 59 = .ok (.ireturn, 1) := by decide +kernel
theorem dX10_scrape_0 : decode cX10_scrape 0 = .ok (.aload_n 0, 1) := by decide +kernel
theorem dX10_scrape_1 : decode cX10_scrape 1 = .ok (.iload_n 1, 1) := by decide +kernel
theorem dX10_scrape_2 : decode cX10_scrape 2 = .ok (.bipush 63, 2) := by decide +kernel
theorem dX10_scrape_4 : decode cX10_scrape 4 = .ok (.invokevirtual 186, 3) := by decide +kernel
theorem dX10_scrape_7 : decode cX10_scrape 7 = .ok (.ireturn, 1) := by decide +kernel
theorem dX10_third_0 : decode cX10_third 0 = .ok (.aload_n 0, 1) := by decide +kernel
theorem dX10_third_1 : decode cX10_third 1 = .ok (.iload_n 1, 1) := by decide +kernel
theorem dX10_third_2 : decode cX10_third 2 = .ok (.bipush 9, 2) := by decide +kernel
theorem dX10_third_4 : decode cX10_third 4 = .ok (.invokevirtual 186, 3) := by decide +kernel
theorem dX10_third_7 : decode cX10_third 7 = .ok (.ireturn, 1) := by decide +kernel
theorem dX10_rubByHand_0 : decode cX10_rubByHand 0 = .ok (.aload_n 0, 1) := by decide +kernel
theorem dX10_rubByHand_1 : decode cX10_rubByHand 1 = .ok (.getfield 19, 3) := by decide +kernel
theorem dX10_rubByHand_4 : decode cX10_rubByHand 4 = .ok (.iload_n 1, 1) := by decide +kernel
theorem dX10_rubByHand_5 : decode cX10_rubByHand 5 = .ok (.invokevirtual 117, 3) := by decide +kernel
theorem dX10_rubByHand_8 : decode cX10_rubByHand 8 = .ok (.ifCond .eq 15, 3) := by decide +kernel
theorem dX10_rubByHand_11 : decode cX10_rubByHand 11 = .ok (.aload_n 0, 1) := by decide +kernel
theorem dX10_rubByHand_12 : decode cX10_rubByHand 12 = .ok (.getfield 31, 3) := by decide +kernel
theorem dX10_rubByHand_15 : decode cX10_rubByHand 15 = .ok (.iload_n 1, 1) := by decide +kernel
theorem dX10_rubByHand_16 : decode cX10_rubByHand 16 = .ok (.iload_n 2, 1) := by decide +kernel
theorem dX10_rubByHand_17 : decode cX10_rubByHand 17 = .ok (.invokevirtual 189, 3) := by decide +kernel
theorem dX10_rubByHand_20 : decode cX10_rubByHand 20 = .ok (.ifCond .ne 5, 3) := by decide +kernel
theorem dX10_rubByHand_23 : decode cX10_rubByHand 23 = .ok (.iconst (-1), 1) := by decide +kernel
theorem dX10_rubByHand_24 : decode cX10_rubByHand 24 = .ok (.ireturn, 1) := by decide +kernel
theorem dX10_rubByHand_25 : decode cX10_rubByHand 25 = .ok (.aload_n 0, 1) := by decide +kernel
theorem dX10_rubByHand_26 : decode cX10_rubByHand 26 = .ok (.getfield 58, 3) := by decide +kernel
theorem dX10_rubByHand_29 : decode cX10_rubByHand 29 = .ok (.aload_n 0, 1) := by decide +kernel
theorem dX10_rubByHand_30 : decode cX10_rubByHand 30 = .ok (.getfield 31, 3) := by decide +kernel
theorem dX10_rubByHand_33 : decode cX10_rubByHand 33 = .ok (.invokevirtual 178, 3) := by decide +kernel
theorem dX10_rubByHand_36 : decode cX10_rubByHand 36 = .ok (.aload_n 0, 1) := by decide +kernel
theorem dX10_rubByHand_37 : decode cX10_rubByHand 37 = .ok (.getfield 31, 3) := by decide +kernel
theorem dX10_rubByHand_40 : decode cX10_rubByHand 40 = .ok (.iload_n 1, 1) := by decide +kernel
theorem dX10_rubByHand_41 : decode cX10_rubByHand 41 = .ok (.iload_n 2, 1) := by decide +kernel
theorem dX10_rubByHand_42 : decode cX10_rubByHand 42 = .ok (.invokevirtual 192, 3) := by decide +kernel
theorem dX10_rubByHand_45 : decode cX10_rubByHand 45 = .ok (.pop, 1) := by decide +kernel
theorem dX10_rubByHand_46 : decode cX10_rubByHand 46 = .ok (.aload_n 0, 1) := by decide +kernel
theorem dX10_rubByHand_47 : decode cX10_rubByHand 47 = .ok (.getfield 31, 3) := by decide +kernel
theorem dX10_rubByHand_50 : decode cX10_rubByHand 50 = .ok (.getfield 125, 3) := by decide +kernel
theorem dX10_rubByHand_53 : decode cX10_rubByHand 53 = .ok (.iload_n 1, 1) := by decide +kernel
theorem dX10_rubByHand_54 : decode cX10_rubByHand 54 = .ok (.iaload, 1) := by decide +kernel
theorem dX10_rubByHand_55 : decode cX10_rubByHand 55 = .ok (.ireturn, 1) := by decide +kernel
theorem dX10_week_0 : decode cX10_week 0 = .ok (.aload_n 0, 1) := by decide +kernel
theorem dX10_week_1 : decode cX10_week 1 = .ok (.getfield 58, 3) := by decide +kernel
theorem dX10_week_4 : decode cX10_week 4 = .ok (.aload_n 0, 1) := by decide +kernel
theorem dX10_week_5 : decode cX10_week 5 = .ok (.getfield 31, 3) := by decide +kernel
theorem dX10_week_8 : decode cX10_week 8 = .ok (.invokevirtual 178, 3) := by decide +kernel
theorem dX10_week_11 : decode cX10_week 11 = .ok (.aload_n 0, 1) := by decide +kernel
theorem dX10_week_12 : decode cX10_week 12 = .ok (.getfield 31, 3) := by decide +kernel
theorem dX10_week_15 : decode cX10_week 15 = .ok (.dup, 1) := by decide +kernel
theorem dX10_week_16 : decode cX10_week 16 = .ok (.getfield 195, 3) := by decide +kernel
theorem dX10_week_19 : decode cX10_week 19 = .ok (.iconst 1, 1) := by decide +kernel
theorem dX10_week_20 : decode cX10_week 20 = .ok (.iadd, 1) := by decide +kernel
theorem dX10_week_21 : decode cX10_week 21 = .ok (.putfield 195, 3) := by decide +kernel
theorem dX10_week_24 : decode cX10_week 24 = .ok (.aload_n 0, 1) := by decide +kernel
theorem dX10_week_25 : decode cX10_week 25 = .ok (.getfield 31, 3) := by decide +kernel
theorem dX10_week_28 : decode cX10_week 28 = .ok (.getfield 195, 3) := by decide +kernel
theorem dX10_week_31 : decode cX10_week 31 = .ok (.ireturn, 1) := by decide +kernel
theorem dX10_undo_0 : decode cX10_undo 0 = .ok (.aload_n 0, 1) := by decide +kernel
theorem dX10_undo_1 : decode cX10_undo 1 = .ok (.getfield 58, 3) := by decide +kernel
theorem dX10_undo_4 : decode cX10_undo 4 = .ok (.aload_n 0, 1) := by decide +kernel
theorem dX10_undo_5 : decode cX10_undo 5 = .ok (.getfield 31, 3) := by decide +kernel
theorem dX10_undo_8 : decode cX10_undo 8 = .ok (.invokevirtual 198, 3) := by decide +kernel
theorem dX10_undo_11 : decode cX10_undo 11 = .ok (.ireturn, 1) := by decide +kernel
theorem dX10_judged_0 : decode cX10_judged 0 = .ok (.iload_n 1, 1) := by decide +kernel
theorem dX10_judged_1 : decode cX10_judged 1 = .ok (.ifCond .lt 8, 3) := by decide +kernel
theorem dX10_judged_4 : decode cX10_judged 4 = .ok (.iload_n 1, 1) := by decide +kernel
theorem dX10_judged_5 : decode cX10_judged 5 = .ok (.iconst 2, 1) := by decide +kernel
theorem dX10_judged_6 : decode cX10_judged 6 = .ok (.if_icmp .le 6, 3) := by decide +kernel
theorem dX10_judged_9 : decode cX10_judged 9 = .ok (.bipush (-2), 2) := by decide +kernel
theorem dX10_judged_11 : decode cX10_judged 11 = .ok (.ireturn, 1) := by decide +kernel
theorem dX10_judged_12 : decode cX10_judged 12 = .ok (.aload_n 0, 1) := by decide +kernel
theorem dX10_judged_13 : decode cX10_judged 13 = .ok (.getfield 35, 3) := by decide +kernel
theorem dX10_judged_16 : decode cX10_judged 16 = .ok (.invokevirtual 101, 3) := by decide +kernel
theorem dX10_judged_19 : decode cX10_judged 19 = .ok (.iconst (-1), 1) := by decide +kernel
theorem dX10_judged_20 : decode cX10_judged 20 = .ok (.istore_n 2, 1) := by decide +kernel
theorem dX10_judged_21 : decode cX10_judged 21 = .ok (.iconst (-1), 1) := by decide +kernel
theorem dX10_judged_22 : decode cX10_judged 22 = .ok (.istore_n 3, 1) := by decide +kernel
theorem dX10_judged_23 : decode cX10_judged 23 = .ok (.iconst 0, 1) := by decide +kernel
theorem dX10_judged_24 : decode cX10_judged 24 = .ok (.istore 4, 2) := by decide +kernel
theorem dX10_judged_26 : decode cX10_judged 26 = .ok (.iload 4, 2) := by decide +kernel
theorem dX10_judged_28 : decode cX10_judged 28 = .ok (.aload_n 0, 1) := by decide +kernel
theorem dX10_judged_29 : decode cX10_judged 29 = .ok (.getfield 41, 3) := by decide +kernel
theorem dX10_judged_32 : decode cX10_judged 32 = .ok (.getfield 202, 3) := by decide +kernel
theorem dX10_judged_35 : decode cX10_judged 35 = .ok (.if_icmp .ge 70, 3) := by decide +kernel
theorem dX10_judged_38 : decode cX10_judged 38 = .ok (.aload_n 0, 1) := by decide +kernel
theorem dX10_judged_39 : decode cX10_judged 39 = .ok (.getfield 35, 3) := by decide +kernel
theorem dX10_judged_42 : decode cX10_judged 42 = .ok (.invokevirtual 205, 3) := by decide +kernel
theorem dX10_judged_45 : decode cX10_judged 45 = .ok (.istore 5, 2) := by decide +kernel
theorem dX10_judged_47 : decode cX10_judged 47 = .ok (.aload_n 0, 1) := by decide +kernel
theorem dX10_judged_48 : decode cX10_judged 48 = .ok (.getfield 35, 3) := by decide +kernel
theorem dX10_judged_51 : decode cX10_judged 51 = .ok (.aload_n 0, 1) := by decide +kernel
theorem dX10_judged_52 : decode cX10_judged 52 = .ok (.getfield 41, 3) := by decide +kernel
theorem dX10_judged_55 : decode cX10_judged 55 = .ok (.getfield 208, 3) := by decide +kernel
theorem dX10_judged_58 : decode cX10_judged 58 = .ok (.iload 4, 2) := by decide +kernel
theorem dX10_judged_60 : decode cX10_judged 60 = .ok (.iaload, 1) := by decide +kernel
theorem dX10_judged_61 : decode cX10_judged 61 = .ok (.invokevirtual 209, 3) := by decide +kernel
theorem dX10_judged_64 : decode cX10_judged 64 = .ok (.istore 6, 2) := by decide +kernel
theorem dX10_judged_66 : decode cX10_judged 66 = .ok (.iload 6, 2) := by decide +kernel
theorem dX10_judged_68 : decode cX10_judged 68 = .ok (.ifCond .ne 11, 3) := by decide +kernel
theorem dX10_judged_71 : decode cX10_judged 71 = .ok (.iload_n 2, 1) := by decide +kernel
theorem dX10_judged_72 : decode cX10_judged 72 = .ok (.iconst (-1), 1) := by decide +kernel
theorem dX10_judged_73 : decode cX10_judged 73 = .ok (.if_icmp .ne 6, 3) := by decide +kernel
theorem dX10_judged_76 : decode cX10_judged 76 = .ok (.iload 4, 2) := by decide +kernel
theorem dX10_judged_78 : decode cX10_judged 78 = .ok (.istore_n 2, 1) := by decide +kernel
theorem dX10_judged_79 : decode cX10_judged 79 = .ok (.aload_n 0, 1) := by decide +kernel
theorem dX10_judged_80 : decode cX10_judged 80 = .ok (.getfield 35, 3) := by decide +kernel
theorem dX10_judged_83 : decode cX10_judged 83 = .ok (.invokevirtual 205, 3) := by decide +kernel
theorem dX10_judged_86 : decode cX10_judged 86 = .ok (.iload 5, 2) := by decide +kernel
theorem dX10_judged_88 : decode cX10_judged 88 = .ok (.if_icmp .eq 11, 3) := by decide +kernel
theorem dX10_judged_91 : decode cX10_judged 91 = .ok (.iload_n 3, 1) := by decide +kernel
theorem dX10_judged_92 : decode cX10_judged 92 = .ok (.iconst (-1), 1) := by decide +kernel
theorem dX10_judged_93 : decode cX10_judged 93 = .ok (.if_icmp .ne 6, 3) := by decide +kernel
theorem dX10_judged_96 : decode cX10_judged 96 = .ok (.iload 4, 2) := by decide +kernel
theorem dX10_judged_98 : decode cX10_judged 98 = .ok (.istore_n 3, 1) := by decide +kernel
theorem dX10_judged_99 : decode cX10_judged 99 = .ok (.iinc 4 1, 3) := by decide +kernel
theorem dX10_judged_102 : decode cX10_judged 102 = .ok (.goto (-76), 3) := by decide +kernel
theorem dX10_judged_105 : decode cX10_judged 105 = .ok (.iload_n 1, 1) := by decide +kernel
theorem dX10_judged_106 : decode cX10_judged 106 = .ok (.iconst 2, 1) := by decide +kernel
theorem dX10_judged_107 : decode cX10_judged 107 = .ok (.if_icmp .ne 21, 3) := by decide +kernel
theorem dX10_judged_110 : decode cX10_judged 110 = .ok (.aload_n 0, 1) := by decide +kernel
theorem dX10_judged_111 : decode cX10_judged 111 = .ok (.getfield 35, 3) := by decide +kernel
theorem dX10_judged_114 : decode cX10_judged 114 = .ok (.aload_n 0, 1) := by decide +kernel
theorem dX10_judged_115 : decode cX10_judged 115 = .ok (.getfield 35, 3) := by decide +kernel
theorem dX10_judged_118 : decode cX10_judged 118 = .ok (.invokevirtual 134, 3) := by decide +kernel
theorem dX10_judged_121 : decode cX10_judged 121 = .ok (.invokevirtual 212, 3) := by decide +kernel
theorem dX10_judged_124 : decode cX10_judged 124 = .ok (.invokestatic 216, 3) := by decide +kernel
theorem dX10_judged_127 : decode cX10_judged 127 = .ok (.ireturn, 1) := by decide +kernel
theorem dX10_judged_128 : decode cX10_judged 128 = .ok (.iload_n 1, 1) := by decide +kernel
theorem dX10_judged_129 : decode cX10_judged 129 = .ok (.ifCond .ne 7, 3) := by decide +kernel
theorem dX10_judged_132 : decode cX10_judged 132 = .ok (.iload_n 2, 1) := by decide +kernel
theorem dX10_judged_133 : decode cX10_judged 133 = .ok (.goto 4, 3) := by decide +kernel
theorem dX10_judged_136 : decode cX10_judged 136 = .ok (.iload_n 3, 1) := by decide +kernel
theorem dX10_judged_137 : decode cX10_judged 137 = .ok (.ireturn, 1) := by decide +kernel
theorem dX10_later_0 : decode cX10_later 0 = .ok (.aload_n 0, 1) := by decide +kernel
theorem dX10_later_1 : decode cX10_later 1 = .ok (.getfield 19, 3) := by decide +kernel
theorem dX10_later_4 : decode cX10_later 4 = .ok (.iload_n 1, 1) := by decide +kernel
theorem dX10_later_5 : decode cX10_later 5 = .ok (.iload_n 2, 1) := by decide +kernel
theorem dX10_later_6 : decode cX10_later 6 = .ok (.invokevirtual 161, 3) := by decide +kernel
theorem dX10_later_9 : decode cX10_later 9 = .ok (.ifCond .eq 13, 3) := by decide +kernel
theorem dX10_later_12 : decode cX10_later 12 = .ok (.iload_n 3, 1) := by decide +kernel
theorem dX10_later_13 : decode cX10_later 13 = .ok (.ifCond .lt 9, 3) := by decide +kernel
theorem dX10_later_16 : decode cX10_later 16 = .ok (.iload_n 3, 1) := by decide +kernel
theorem dX10_later_17 : decode cX10_later 17 = .ok (.bipush 40, 2) := by decide +kernel
theorem dX10_later_19 : decode cX10_later 19 = .ok (.if_icmp .le 5, 3) := by decide +kernel
theorem dX10_later_22 : decode cX10_later 22 = .ok (.iconst (-1), 1) := by decide +kernel
theorem dX10_later_23 : decode cX10_later 23 = .ok (.ireturn, 1) := by decide +kernel
theorem dX10_later_24 : decode cX10_later 24 = .ok (.aload_n 0, 1) := by decide +kernel
theorem dX10_later_25 : decode cX10_later 25 = .ok (.getfield 31, 3) := by decide +kernel
theorem dX10_later_28 : decode cX10_later 28 = .ok (.iload_n 1, 1) := by decide +kernel
theorem dX10_later_29 : decode cX10_later 29 = .ok (.iload_n 2, 1) := by decide +kernel
theorem dX10_later_30 : decode cX10_later 30 = .ok (.aload_n 0, 1) := by decide +kernel
theorem dX10_later_31 : decode cX10_later 31 = .ok (.getfield 19, 3) := by decide +kernel
theorem dX10_later_34 : decode cX10_later 34 = .ok (.aload_n 0, 1) := by decide +kernel
theorem dX10_later_35 : decode cX10_later 35 = .ok (.getfield 31, 3) := by decide +kernel
theorem dX10_later_38 : decode cX10_later 38 = .ok (.getfield 195, 3) := by decide +kernel
theorem dX10_later_41 : decode cX10_later 41 = .ok (.iload_n 3, 1) := by decide +kernel
theorem dX10_later_42 : decode cX10_later 42 = .ok (.iadd, 1) := by decide +kernel
theorem dX10_later_43 : decode cX10_later 43 = .ok (.invokevirtual 221, 3) := by decide +kernel
theorem dX10_later_46 : decode cX10_later 46 = .ok (.invokevirtual 170, 3) := by decide +kernel
theorem dX10_later_49 : decode cX10_later 49 = .ok (.ireturn, 1) := by decide +kernel
theorem dX10_when_0 : decode cX10_when 0 = .ok (.aload_n 0, 1) := by decide +kernel
theorem dX10_when_1 : decode cX10_when 1 = .ok (.getfield 19, 3) := by decide +kernel
theorem dX10_when_4 : decode cX10_when 4 = .ok (.iload_n 1, 1) := by decide +kernel
theorem dX10_when_5 : decode cX10_when 5 = .ok (.invokevirtual 142, 3) := by decide +kernel
theorem dX10_when_8 : decode cX10_when 8 = .ok (.ifCond .ne 5, 3) := by decide +kernel
theorem dX10_when_11 : decode cX10_when 11 = .ok (.iconst (-1), 1) := by decide +kernel
theorem dX10_when_12 : decode cX10_when 12 = .ok (.ireturn, 1) := by decide +kernel
theorem dX10_when_13 : decode cX10_when 13 = .ok (.iconst 1, 1) := by decide +kernel
theorem dX10_when_14 : decode cX10_when 14 = .ok (.aload_n 0, 1) := by decide +kernel
theorem dX10_when_15 : decode cX10_when 15 = .ok (.getfield 19, 3) := by decide +kernel
theorem dX10_when_18 : decode cX10_when 18 = .ok (.getfield 224, 3) := by decide +kernel
theorem dX10_when_21 : decode cX10_when 21 = .ok (.invokestatic 227, 3) := by decide +kernel
theorem dX10_when_24 : decode cX10_when 24 = .ok (.istore_n 2, 1) := by decide +kernel
theorem dX10_when_25 : decode cX10_when 25 = .ok (.iconst 0, 1) := by decide +kernel
theorem dX10_when_26 : decode cX10_when 26 = .ok (.istore_n 3, 1) := by decide +kernel
theorem dX10_when_27 : decode cX10_when 27 = .ok (.iload_n 3, 1) := by decide +kernel
theorem dX10_when_28 : decode cX10_when 28 = .ok (.iload_n 2, 1) := by decide +kernel
theorem dX10_when_29 : decode cX10_when 29 = .ok (.if_icmp .ge 44, 3) := by decide +kernel
theorem dX10_when_32 : decode cX10_when 32 = .ok (.iload_n 3, 1) := by decide +kernel
theorem dX10_when_33 : decode cX10_when 33 = .ok (.bipush 40, 2) := by decide +kernel
theorem dX10_when_35 : decode cX10_when 35 = .ok (.if_icmp .gt 38, 3) := by decide +kernel
theorem dX10_when_38 : decode cX10_when 38 = .ok (.aload_n 0, 1) := by decide +kernel
theorem dX10_when_39 : decode cX10_when 39 = .ok (.getfield 31, 3) := by decide +kernel
theorem dX10_when_42 : decode cX10_when 42 = .ok (.iload_n 1, 1) := by decide +kernel
theorem dX10_when_43 : decode cX10_when 43 = .ok (.aload_n 0, 1) := by decide +kernel
theorem dX10_when_44 : decode cX10_when 44 = .ok (.getfield 19, 3) := by decide +kernel
theorem dX10_when_47 : decode cX10_when 47 = .ok (.aload_n 0, 1) := by decide +kernel
theorem dX10_when_48 : decode cX10_when 48 = .ok (.getfield 31, 3) := by decide +kernel
theorem dX10_when_51 : decode cX10_when 51 = .ok (.getfield 195, 3) := by decide +kernel
theorem dX10_when_54 : decode cX10_when 54 = .ok (.iload_n 3, 1) := by decide +kernel
theorem dX10_when_55 : decode cX10_when 55 = .ok (.iadd, 1) := by decide +kernel
theorem dX10_when_56 : decode cX10_when 56 = .ok (.invokevirtual 221, 3) := by decide +kernel
theorem dX10_when_59 : decode cX10_when 59 = .ok (.invokevirtual 154, 3) := by decide +kernel
theorem dX10_when_62 : decode cX10_when 62 = .ok (.ifCond .eq 5, 3) := by decide +kernel
theorem dX10_when_65 : decode cX10_when 65 = .ok (.iload_n 3, 1) := by decide +kernel
theorem dX10_when_66 : decode cX10_when 66 = .ok (.ireturn, 1) := by decide +kernel
theorem dX10_when_67 : decode cX10_when 67 = .ok (.iinc 3 1, 3) := by decide +kernel
theorem dX10_when_70 : decode cX10_when 70 = .ok (.goto (-43), 3) := by decide +kernel
theorem dX10_when_73 : decode cX10_when 73 = .ok (.iconst (-1), 1) := by decide +kernel
theorem dX10_when_74 : decode cX10_when 74 = .ok (.ireturn, 1) := by decide +kernel
theorem dX10_need_0 : decode cX10_need 0 = .ok (.aload_n 0, 1) := by decide +kernel
theorem dX10_need_1 : decode cX10_need 1 = .ok (.getfield 19, 3) := by decide +kernel
theorem dX10_need_4 : decode cX10_need 4 = .ok (.iload_n 1, 1) := by decide +kernel
theorem dX10_need_5 : decode cX10_need 5 = .ok (.invokevirtual 142, 3) := by decide +kernel
theorem dX10_need_8 : decode cX10_need 8 = .ok (.ifCond .ne 5, 3) := by decide +kernel
theorem dX10_need_11 : decode cX10_need 11 = .ok (.iconst (-1), 1) := by decide +kernel
theorem dX10_need_12 : decode cX10_need 12 = .ok (.ireturn, 1) := by decide +kernel
theorem dX10_need_13 : decode cX10_need 13 = .ok (.iconst 0, 1) := by decide +kernel
theorem dX10_need_14 : decode cX10_need 14 = .ok (.istore_n 2, 1) := by decide +kernel
theorem dX10_need_15 : decode cX10_need 15 = .ok (.iload_n 2, 1) := by decide +kernel
theorem dX10_need_16 : decode cX10_need 16 = .ok (.bipush 9, 2) := by decide +kernel
theorem dX10_need_18 : decode cX10_need 18 = .ok (.if_icmp .gt 23, 3) := by decide +kernel
theorem dX10_need_21 : decode cX10_need 21 = .ok (.aload_n 0, 1) := by decide +kernel
theorem dX10_need_22 : decode cX10_need 22 = .ok (.getfield 31, 3) := by decide +kernel
theorem dX10_need_25 : decode cX10_need 25 = .ok (.iload_n 1, 1) := by decide +kernel
theorem dX10_need_26 : decode cX10_need 26 = .ok (.iload_n 2, 1) := by decide +kernel
theorem dX10_need_27 : decode cX10_need 27 = .ok (.invokevirtual 154, 3) := by decide +kernel
theorem dX10_need_30 : decode cX10_need 30 = .ok (.ifCond .eq 5, 3) := by decide +kernel
theorem dX10_need_33 : decode cX10_need 33 = .ok (.iload_n 2, 1) := by decide +kernel
theorem dX10_need_34 : decode cX10_need 34 = .ok (.ireturn, 1) := by decide +kernel
theorem dX10_need_35 : decode cX10_need 35 = .ok (.iinc 2 1, 3) := by decide +kernel
theorem dX10_need_38 : decode cX10_need 38 = .ok (.goto (-23), 3) := by decide +kernel
theorem dX10_need_41 : decode cX10_need 41 = .ok (.iconst (-1), 1) := by decide +kernel
theorem dX10_need_42 : decode cX10_need 42 = .ok (.ireturn, 1) := by decide +kernel
theorem dX10_lost_0 : decode cX10_lost 0 = .ok (.aload_n 0, 1) := by decide +kernel
theorem dX10_lost_1 : decode cX10_lost 1 = .ok (.getfield 31, 3) := by decide +kernel
theorem dX10_lost_4 : decode cX10_lost 4 = .ok (.invokevirtual 232, 3) := by decide +kernel
theorem dX10_lost_7 : decode cX10_lost 7 = .ok (.istore_n 1, 1) := by decide +kernel
theorem dX10_lost_8 : decode cX10_lost 8 = .ok (.iconst 0, 1) := by decide +kernel
theorem dX10_lost_9 : decode cX10_lost 9 = .ok (.istore_n 2, 1) := by decide +kernel
theorem dX10_lost_10 : decode cX10_lost 10 = .ok (.iload_n 2, 1) := by decide +kernel
theorem dX10_lost_11 : decode cX10_lost 11 = .ok (.bipush 9, 2) := by decide +kernel
theorem dX10_lost_13 : decode cX10_lost 13 = .ok (.if_icmp .gt 26, 3) := by decide +kernel
theorem dX10_lost_16 : decode cX10_lost 16 = .ok (.iload_n 1, 1) := by decide +kernel
theorem dX10_lost_17 : decode cX10_lost 17 = .ok (.ifCond .eq 22, 3) := by decide +kernel
theorem dX10_lost_20 : decode cX10_lost 20 = .ok (.iload_n 1, 1) := by decide +kernel
theorem dX10_lost_21 : decode cX10_lost 21 = .ok (.aload_n 0, 1) := by decide +kernel
theorem dX10_lost_22 : decode cX10_lost 22 = .ok (.getfield 31, 3) := by decide +kernel
theorem dX10_lost_25 : decode cX10_lost 25 = .ok (.iload_n 2, 1) := by decide +kernel
theorem dX10_lost_26 : decode cX10_lost 26 = .ok (.invokevirtual 235, 3) := by decide +kernel
theorem dX10_lost_29 : decode cX10_lost 29 = .ok (.iconst (-1), 1) := by decide +kernel
theorem dX10_lost_30 : decode cX10_lost 30 = .ok (.ixor, 1) := by decide +kernel
theorem dX10_lost_31 : decode cX10_lost 31 = .ok (.iand, 1) := by decide +kernel
theorem dX10_lost_32 : decode cX10_lost 32 = .ok (.istore_n 1, 1) := by decide +kernel
theorem dX10_lost_33 : decode cX10_lost 33 = .ok (.iinc 2 1, 3) := by decide +kernel
theorem dX10_lost_36 : decode cX10_lost 36 = .ok (.goto (-26), 3) := by decide +kernel
theorem dX10_lost_39 : decode cX10_lost 39 = .ok (.iload_n 1, 1) := by decide +kernel
theorem dX10_lost_40 : decode cX10_lost 40 = .ok (.ireturn, 1) := by decide +kernel
theorem dX10_place_0 : decode cX10_place 0 = .ok (.aload_n 0, 1) := by decide +kernel
theorem dX10_place_1 : decode cX10_place 1 = .ok (.getfield 19, 3) := by decide +kernel
theorem dX10_place_4 : decode cX10_place 4 = .ok (.iload_n 1, 1) := by decide +kernel
theorem dX10_place_5 : decode cX10_place 5 = .ok (.invokevirtual 142, 3) := by decide +kernel
theorem dX10_place_8 : decode cX10_place 8 = .ok (.ifCond .eq 26, 3) := by decide +kernel
theorem dX10_place_11 : decode cX10_place 11 = .ok (.aload_n 0, 1) := by decide +kernel
theorem dX10_place_12 : decode cX10_place 12 = .ok (.getfield 19, 3) := by decide +kernel
theorem dX10_place_15 : decode cX10_place 15 = .ok (.iload_n 2, 1) := by decide +kernel
theorem dX10_place_16 : decode cX10_place 16 = .ok (.invokevirtual 117, 3) := by decide +kernel
theorem dX10_place_19 : decode cX10_place 19 = .ok (.ifCond .eq 15, 3) := by decide +kernel
theorem dX10_place_22 : decode cX10_place 22 = .ok (.aload_n 0, 1) := by decide +kernel
theorem dX10_place_23 : decode cX10_place 23 = .ok (.getfield 31, 3) := by decide +kernel
theorem dX10_place_26 : decode cX10_place 26 = .ok (.iload_n 1, 1) := by decide +kernel
theorem dX10_place_27 : decode cX10_place 27 = .ok (.iload_n 2, 1) := by decide +kernel
theorem dX10_place_28 : decode cX10_place 28 = .ok (.invokevirtual 238, 3) := by decide +kernel
theorem dX10_place_31 : decode cX10_place 31 = .ok (.goto 4, 3) := by decide +kernel
theorem dX10_place_34 : decode cX10_place 34 = .ok (.iconst (-1), 1) := by decide +kernel
theorem dX10_place_35 : decode cX10_place 35 = .ok (.ireturn, 1) := by decide +kernel
theorem dX10_cost_0 : decode cX10_cost 0 = .ok (.aload_n 0, 1) := by decide +kernel
theorem dX10_cost_1 : decode cX10_cost 1 = .ok (.getfield 19, 3) := by decide +kernel
theorem dX10_cost_4 : decode cX10_cost 4 = .ok (.iload_n 1, 1) := by decide +kernel
theorem dX10_cost_5 : decode cX10_cost 5 = .ok (.invokevirtual 142, 3) := by decide +kernel
theorem dX10_cost_8 : decode cX10_cost 8 = .ok (.ifCond .eq 14, 3) := by decide +kernel
theorem dX10_cost_11 : decode cX10_cost 11 = .ok (.aload_n 0, 1) := by decide +kernel
theorem dX10_cost_12 : decode cX10_cost 12 = .ok (.getfield 19, 3) := by decide +kernel
theorem dX10_cost_15 : decode cX10_cost 15 = .ok (.iload_n 2, 1) := by decide +kernel
theorem dX10_cost_16 : decode cX10_cost 16 = .ok (.invokevirtual 117, 3) := by decide +kernel
theorem dX10_cost_19 : decode cX10_cost 19 = .ok (.ifCond .ne 5, 3) := by decide +kernel
theorem dX10_cost_22 : decode cX10_cost 22 = .ok (.iconst (-1), 1) := by decide +kernel
theorem dX10_cost_23 : decode cX10_cost 23 = .ok (.ireturn, 1) := by decide +kernel
theorem dX10_cost_24 : decode cX10_cost 24 = .ok (.aload_n 0, 1) := by decide +kernel
theorem dX10_cost_25 : decode cX10_cost 25 = .ok (.getfield 31, 3) := by decide +kernel
theorem dX10_cost_28 : decode cX10_cost 28 = .ok (.iload_n 1, 1) := by decide +kernel
theorem dX10_cost_29 : decode cX10_cost 29 = .ok (.iload_n 2, 1) := by decide +kernel
theorem dX10_cost_30 : decode cX10_cost 30 = .ok (.invokevirtual 238, 3) := by decide +kernel
theorem dX10_cost_33 : decode cX10_cost 33 = .ok (.iconst (-1), 1) := by decide +kernel
theorem dX10_cost_34 : decode cX10_cost 34 = .ok (.if_icmp .eq 5, 3) := by decide +kernel
theorem dX10_cost_37 : decode cX10_cost 37 = .ok (.iconst 0, 1) := by decide +kernel
theorem dX10_cost_38 : decode cX10_cost 38 = .ok (.ireturn, 1) := by decide +kernel
theorem dX10_cost_39 : decode cX10_cost 39 = .ok (.aload_n 0, 1) := by decide +kernel
theorem dX10_cost_40 : decode cX10_cost 40 = .ok (.iload_n 1, 1) := by decide +kernel
theorem dX10_cost_41 : decode cX10_cost 41 = .ok (.iload_n 2, 1) := by decide +kernel
theorem dX10_cost_42 : decode cX10_cost 42 = .ok (.bipush 9, 2) := by decide +kernel
theorem dX10_cost_44 : decode cX10_cost 44 = .ok (.invokevirtual 241, 3) := by decide +kernel
theorem dX10_cost_47 : decode cX10_cost 47 = .ok (.istore_n 3, 1) := by decide +kernel
theorem dX10_cost_48 : decode cX10_cost 48 = .ok (.aload_n 0, 1) := by decide +kernel
theorem dX10_cost_49 : decode cX10_cost 49 = .ok (.iload_n 1, 1) := by decide +kernel
theorem dX10_cost_50 : decode cX10_cost 50 = .ok (.iload_n 2, 1) := by decide +kernel
theorem dX10_cost_51 : decode cX10_cost 51 = .ok (.bipush 63, 2) := by decide +kernel
theorem dX10_cost_53 : decode cX10_cost 53 = .ok (.invokevirtual 241, 3) := by decide +kernel
theorem dX10_cost_56 : decode cX10_cost 56 = .ok (.istore 4, 2) := by decide +kernel
theorem dX10_cost_58 : decode cX10_cost 58 = .ok (.iload_n 3, 1) := by decide +kernel
theorem dX10_cost_59 : decode cX10_cost 59 = .ok (.iconst (-1), 1) := by decide +kernel
theorem dX10_cost_60 : decode cX10_cost 60 = .ok (.if_icmp .eq 9, 3) := by decide +kernel
theorem dX10_cost_63 : decode cX10_cost 63 = .ok (.iload 4, 2) := by decide +kernel
theorem dX10_cost_65 : decode cX10_cost 65 = .ok (.iconst (-1), 1) := by decide +kernel
theorem dX10_cost_66 : decode cX10_cost 66 = .ok (.if_icmp .ne 10, 3) := by decide +kernel
theorem dX10_cost_69 : decode cX10_cost 69 = .ok (.iload_n 3, 1) := by decide +kernel
theorem dX10_cost_70 : decode cX10_cost 70 = .ok (.iload 4, 2) := by decide +kernel
theorem dX10_cost_72 : decode cX10_cost 72 = .ok (.invokestatic 227, 3) := by decide +kernel
theorem dX10_cost_75 : decode cX10_cost 75 = .ok (.ireturn, 1) := by decide +kernel
theorem dX10_cost_76 : decode cX10_cost 76 = .ok (.iload_n 3, 1) := by decide +kernel
theorem dX10_cost_77 : decode cX10_cost 77 = .ok (.iload 4, 2) := by decide +kernel
theorem dX10_cost_79 : decode cX10_cost 79 = .ok (.invokestatic 244, 3) := by decide +kernel
theorem dX10_cost_82 : decode cX10_cost 82 = .ok (.ireturn, 1) := by decide +kernel
theorem dX10_costOfRubbing_0 : decode cX10_costOfRubbing 0 = .ok (.aload_n 0, 1) := by decide +kernel
theorem dX10_costOfRubbing_1 : decode cX10_costOfRubbing 1 = .ok (.getfield 31, 3) := by decide +kernel
theorem dX10_costOfRubbing_4 : decode cX10_costOfRubbing 4 = .ok (.iload_n 2, 1) := by decide +kernel
theorem dX10_costOfRubbing_5 : decode cX10_costOfRubbing 5 = .ok (.iload_n 3, 1) := by decide +kernel
theorem dX10_costOfRubbing_6 : decode cX10_costOfRubbing 6 = .ok (.invokevirtual 189, 3) := by decide +kernel
theorem dX10_costOfRubbing_9 : decode cX10_costOfRubbing 9 = .ok (.ifCond .ne 5, 3) := by decide +kernel
theorem dX10_costOfRubbing_12 : decode cX10_costOfRubbing 12 = .ok (.iconst (-1), 1) := by decide +kernel
theorem dX10_costOfRubbing_13 : decode cX10_costOfRubbing 13 = .ok (.ireturn, 1) := by decide +kernel
theorem dX10_costOfRubbing_14 : decode cX10_costOfRubbing 14 = .ok (.aload_n 0, 1) := by decide +kernel
theorem dX10_costOfRubbing_15 : decode cX10_costOfRubbing 15 = .ok (.getfield 35, 3) := by decide +kernel
theorem dX10_costOfRubbing_18 : decode cX10_costOfRubbing 18 = .ok (.aload_n 0, 1) := by decide +kernel
theorem dX10_costOfRubbing_19 : decode cX10_costOfRubbing 19 = .ok (.getfield 31, 3) := by decide +kernel
theorem dX10_costOfRubbing_22 : decode cX10_costOfRubbing 22 = .ok (.invokevirtual 247, 3) := by decide +kernel
theorem dX10_costOfRubbing_25 : decode cX10_costOfRubbing 25 = .ok (.aload_n 0, 1) := by decide +kernel
theorem dX10_costOfRubbing_26 : decode cX10_costOfRubbing 26 = .ok (.getfield 35, 3) := by decide +kernel
theorem dX10_costOfRubbing_29 : decode cX10_costOfRubbing 29 = .ok (.iload_n 2, 1) := by decide +kernel
theorem dX10_costOfRubbing_30 : decode cX10_costOfRubbing 30 = .ok (.iload_n 3, 1) := by decide +kernel
theorem dX10_costOfRubbing_31 : decode cX10_costOfRubbing 31 = .ok (.invokevirtual 192, 3) := by decide +kernel
theorem dX10_costOfRubbing_34 : decode cX10_costOfRubbing 34 = .ok (.pop, 1) := by decide +kernel
theorem dX10_costOfRubbing_35 : decode cX10_costOfRubbing 35 = .ok (.aload_n 0, 1) := by decide +kernel
theorem dX10_costOfRubbing_36 : decode cX10_costOfRubbing 36 = .ok (.getfield 35, 3) := by decide +kernel
theorem dX10_costOfRubbing_39 : decode cX10_costOfRubbing 39 = .ok (.iload_n 1, 1) := by decide +kernel
theorem dX10_costOfRubbing_40 : decode cX10_costOfRubbing 40 = .ok (.iload_n 2, 1) := by decide +kernel
theorem dX10_costOfRubbing_41 : decode cX10_costOfRubbing 41 = .ok (.invokevirtual 238, 3) := by decide +kernel
theorem dX10_costOfRubbing_44 : decode cX10_costOfRubbing 44 = .ok (.iconst (-1), 1) := by decide +kernel
theorem dX10_costOfRubbing_45 : decode cX10_costOfRubbing 45 = .ok (.if_icmp .ne 7, 3) := by decide +kernel
theorem dX10_costOfRubbing_48 : decode cX10_costOfRubbing 48 = .ok (.iconst (-1), 1) := by decide +kernel
theorem dX10_costOfRubbing_49 : decode cX10_costOfRubbing 49 = .ok (.goto 22, 3) := by decide +kernel
theorem dX10_costOfRubbing_52 : decode cX10_costOfRubbing 52 = .ok (.aload_n 0, 1) := by decide +kernel
theorem dX10_costOfRubbing_53 : decode cX10_costOfRubbing 53 = .ok (.getfield 31, 3) := by decide +kernel
theorem dX10_costOfRubbing_56 : decode cX10_costOfRubbing 56 = .ok (.getfield 125, 3) := by decide +kernel
theorem dX10_costOfRubbing_59 : decode cX10_costOfRubbing 59 = .ok (.iload_n 2, 1) := by decide +kernel
theorem dX10_costOfRubbing_60 : decode cX10_costOfRubbing 60 = .ok (.iaload, 1) := by decide +kernel
theorem dX10_costOfRubbing_61 : decode cX10_costOfRubbing 61 = .ok (.aload_n 0, 1) := by decide +kernel
theorem dX10_costOfRubbing_62 : decode cX10_costOfRubbing 62 = .ok (.getfield 35, 3) := by decide +kernel
theorem dX10_costOfRubbing_65 : decode cX10_costOfRubbing 65 = .ok (.getfield 125, 3) := by decide +kernel
theorem dX10_costOfRubbing_68 : decode cX10_costOfRubbing 68 = .ok (.iload_n 2, 1) := by decide +kernel
theorem dX10_costOfRubbing_69 : decode cX10_costOfRubbing 69 = .ok (.iaload, 1) := by decide +kernel
theorem dX10_costOfRubbing_70 : decode cX10_costOfRubbing 70 = .ok (.isub, 1) := by decide +kernel
theorem dX10_costOfRubbing_71 : decode cX10_costOfRubbing 71 = .ok (.ireturn, 1) := by decide +kernel
theorem dX10_lay_0 : decode cX10_lay 0 = .ok (.iload_n 1, 1) := by decide +kernel
theorem dX10_lay_1 : decode cX10_lay 1 = .ok (.iconst (-1), 1) := by decide +kernel
theorem dX10_lay_2 : decode cX10_lay 2 = .ok (.if_icmp .eq 17, 3) := by decide +kernel
theorem dX10_lay_5 : decode cX10_lay 5 = .ok (.aload_n 0, 1) := by decide +kernel
theorem dX10_lay_6 : decode cX10_lay 6 = .ok (.getfield 19, 3) := by decide +kernel
theorem dX10_lay_9 : decode cX10_lay 9 = .ok (.iload_n 1, 1) := by decide +kernel
theorem dX10_lay_10 : decode cX10_lay 10 = .ok (.invokevirtual 142, 3) := by decide +kernel
theorem dX10_lay_13 : decode cX10_lay 13 = .ok (.ifCond .ne 6, 3) := by decide +kernel
theorem dX10_lay_16 : decode cX10_lay 16 = .ok (.bipush (-2), 2) := by decide +kernel
theorem dX10_lay_18 : decode cX10_lay 18 = .ok (.ireturn, 1) := by decide +kernel
theorem dX10_lay_19 : decode cX10_lay 19 = .ok (.aload_n 0, 1) := by decide +kernel
theorem dX10_lay_20 : decode cX10_lay 20 = .ok (.getfield 65, 3) := by decide +kernel
theorem dX10_lay_23 : decode cX10_lay 23 = .ok (.aload_n 0, 1) := by decide +kernel
theorem dX10_lay_24 : decode cX10_lay 24 = .ok (.getfield 31, 3) := by decide +kernel
theorem dX10_lay_27 : decode cX10_lay 27 = .ok (.invokevirtual 249, 3) := by decide +kernel
theorem dX10_lay_30 : decode cX10_lay 30 = .ok (.invokevirtual 252, 3) := by decide +kernel
theorem dX10_lay_33 : decode cX10_lay 33 = .ok (.iload_n 1, 1) := by decide +kernel
theorem dX10_lay_34 : decode cX10_lay 34 = .ok (.iconst (-1), 1) := by decide +kernel
theorem dX10_lay_35 : decode cX10_lay 35 = .ok (.if_icmp .ne 13, 3) := by decide +kernel
theorem dX10_lay_38 : decode cX10_lay 38 = .ok (.aload_n 0, 1) := by decide +kernel
theorem dX10_lay_39 : decode cX10_lay 39 = .ok (.getfield 65, 3) := by decide +kernel
theorem dX10_lay_42 : decode cX10_lay 42 = .ok (.getfield 256, 3) := by decide +kernel
theorem dX10_lay_45 : decode cX10_lay 45 = .ok (.goto 12, 3) := by decide +kernel
theorem dX10_lay_48 : decode cX10_lay 48 = .ok (.aload_n 0, 1) := by decide +kernel
theorem dX10_lay_49 : decode cX10_lay 49 = .ok (.getfield 65, 3) := by decide +kernel
theorem dX10_lay_52 : decode cX10_lay 52 = .ok (.getfield 259, 3) := by decide +kernel
theorem dX10_lay_55 : decode cX10_lay 55 = .ok (.iload_n 1, 1) := by decide +kernel
theorem dX10_lay_56 : decode cX10_lay 56 = .ok (.iaload, 1) := by decide +kernel
theorem dX10_lay_57 : decode cX10_lay 57 = .ok (.ireturn, 1) := by decide +kernel
theorem dX10_bears_0 : decode cX10_bears 0 = .ok (.aload_n 0, 1) := by decide +kernel
theorem dX10_bears_1 : decode cX10_bears 1 = .ok (.getfield 19, 3) := by decide +kernel
theorem dX10_bears_4 : decode cX10_bears 4 = .ok (.iload_n 1, 1) := by decide +kernel
theorem dX10_bears_5 : decode cX10_bears 5 = .ok (.invokevirtual 117, 3) := by decide +kernel
theorem dX10_bears_8 : decode cX10_bears 8 = .ok (.ifCond .eq 14, 3) := by decide +kernel
theorem dX10_bears_11 : decode cX10_bears 11 = .ok (.aload_n 0, 1) := by decide +kernel
theorem dX10_bears_12 : decode cX10_bears 12 = .ok (.getfield 19, 3) := by decide +kernel
theorem dX10_bears_15 : decode cX10_bears 15 = .ok (.iload_n 2, 1) := by decide +kernel
theorem dX10_bears_16 : decode cX10_bears 16 = .ok (.invokevirtual 142, 3) := by decide +kernel
theorem dX10_bears_19 : decode cX10_bears 19 = .ok (.ifCond .ne 5, 3) := by decide +kernel
theorem dX10_bears_22 : decode cX10_bears 22 = .ok (.iconst (-1), 1) := by decide +kernel
theorem dX10_bears_23 : decode cX10_bears 23 = .ok (.ireturn, 1) := by decide +kernel
theorem dX10_bears_24 : decode cX10_bears 24 = .ok (.aload_n 0, 1) := by decide +kernel
theorem dX10_bears_25 : decode cX10_bears 25 = .ok (.getfield 35, 3) := by decide +kernel
theorem dX10_bears_28 : decode cX10_bears 28 = .ok (.aload_n 0, 1) := by decide +kernel
theorem dX10_bears_29 : decode cX10_bears 29 = .ok (.getfield 31, 3) := by decide +kernel
theorem dX10_bears_32 : decode cX10_bears 32 = .ok (.invokevirtual 247, 3) := by decide +kernel
theorem dX10_bears_35 : decode cX10_bears 35 = .ok (.iconst 0, 1) := by decide +kernel
theorem dX10_bears_36 : decode cX10_bears 36 = .ok (.istore_n 3, 1) := by decide +kernel
theorem dX10_bears_37 : decode cX10_bears 37 = .ok (.aload_n 0, 1) := by decide +kernel
theorem dX10_bears_38 : decode cX10_bears 38 = .ok (.getfield 31, 3) := by decide +kernel
theorem dX10_bears_41 : decode cX10_bears 41 = .ok (.getfield 125, 3) := by decide +kernel
theorem dX10_bears_44 : decode cX10_bears 44 = .ok (.iload_n 1, 1) := by decide +kernel
theorem dX10_bears_45 : decode cX10_bears 45 = .ok (.iaload, 1) := by decide +kernel
theorem dX10_bears_46 : decode cX10_bears 46 = .ok (.istore 4, 2) := by decide +kernel
theorem dX10_bears_48 : decode cX10_bears 48 = .ok (.iconst 0, 1) := by decide +kernel
theorem dX10_bears_49 : decode cX10_bears 49 = .ok (.istore 5, 2) := by decide +kernel
theorem dX10_bears_51 : decode cX10_bears 51 = .ok (.iload 5, 2) := by decide +kernel
theorem dX10_bears_53 : decode cX10_bears 53 = .ok (.iload 4, 2) := by decide +kernel
theorem dX10_bears_55 : decode cX10_bears 55 = .ok (.if_icmp .ge 54, 3) := by decide +kernel
theorem dX10_bears_58 : decode cX10_bears 58 = .ok (.aload_n 0, 1) := by decide +kernel
theorem dX10_bears_59 : decode cX10_bears 59 = .ok (.getfield 35, 3) := by decide +kernel
theorem dX10_bears_62 : decode cX10_bears 62 = .ok (.iload_n 2, 1) := by decide +kernel
theorem dX10_bears_63 : decode cX10_bears 63 = .ok (.iload_n 1, 1) := by decide +kernel
theorem dX10_bears_64 : decode cX10_bears 64 = .ok (.invokevirtual 238, 3) := by decide +kernel
theorem dX10_bears_67 : decode cX10_bears 67 = .ok (.istore 6, 2) := by decide +kernel
theorem dX10_bears_69 : decode cX10_bears 69 = .ok (.iload 6, 2) := by decide +kernel
theorem dX10_bears_71 : decode cX10_bears 71 = .ok (.iconst (-1), 1) := by decide +kernel
theorem dX10_bears_72 : decode cX10_bears 72 = .ok (.if_icmp .ne 6, 3) := by decide +kernel
theorem dX10_bears_75 : decode cX10_bears 75 = .ok (.goto 34, 3) := by decide +kernel
theorem dX10_bears_78 : decode cX10_bears 78 = .ok (.aload_n 0, 1) := by decide +kernel
theorem dX10_bears_79 : decode cX10_bears 79 = .ok (.getfield 35, 3) := by decide +kernel
theorem dX10_bears_82 : decode cX10_bears 82 = .ok (.iload_n 2, 1) := by decide +kernel
theorem dX10_bears_83 : decode cX10_bears 83 = .ok (.iload_n 1, 1) := by decide +kernel
theorem dX10_bears_84 : decode cX10_bears 84 = .ok (.iload 6, 2) := by decide +kernel
theorem dX10_bears_86 : decode cX10_bears 86 = .ok (.invokevirtual 182, 3) := by decide +kernel
theorem dX10_bears_89 : decode cX10_bears 89 = .ok (.aload_n 0, 1) := by decide +kernel
theorem dX10_bears_90 : decode cX10_bears 90 = .ok (.getfield 35, 3) := by decide +kernel
theorem dX10_bears_93 : decode cX10_bears 93 = .ok (.iload_n 1, 1) := by decide +kernel
theorem dX10_bears_94 : decode cX10_bears 94 = .ok (.bipush 63, 2) := by decide +kernel
theorem dX10_bears_96 : decode cX10_bears 96 = .ok (.invokevirtual 192, 3) := by decide +kernel
theorem dX10_bears_99 : decode cX10_bears 99 = .ok (.pop, 1) := by decide +kernel
theorem dX10_bears_100 : decode cX10_bears 100 = .ok (.iinc 3 1, 3) := by decide +kernel
theorem dX10_bears_103 : decode cX10_bears 103 = .ok (.iinc 5 1, 3) := by decide +kernel
theorem dX10_bears_106 : decode cX10_bears 106 = .ok (.goto (-55), 3) := by decide +kernel
theorem dX10_bears_109 : decode cX10_bears 109 = .ok (.iload_n 3, 1) := by decide +kernel
theorem dX10_bears_110 : decode cX10_bears 110 = .ok (.ireturn, 1) := by decide +kernel
theorem dX10_over_0 : decode cX10_over 0 = .ok (.aload_n 0, 1) := by decide +kernel
theorem dX10_over_1 : decode cX10_over 1 = .ok (.getfield 19, 3) := by decide +kernel
theorem dX10_over_4 : decode cX10_over 4 = .ok (.iload_n 1, 1) := by decide +kernel
theorem dX10_over_5 : decode cX10_over 5 = .ok (.invokevirtual 142, 3) := by decide +kernel
theorem dX10_over_8 : decode cX10_over 8 = .ok (.ifCond .eq 14, 3) := by decide +kernel
theorem dX10_over_11 : decode cX10_over 11 = .ok (.aload_n 0, 1) := by decide +kernel
theorem dX10_over_12 : decode cX10_over 12 = .ok (.getfield 31, 3) := by decide +kernel
theorem dX10_over_15 : decode cX10_over 15 = .ok (.iload_n 1, 1) := by decide +kernel
theorem dX10_over_16 : decode cX10_over 16 = .ok (.invokevirtual 262, 3) := by decide +kernel
theorem dX10_over_19 : decode cX10_over 19 = .ok (.goto 4, 3) := by decide +kernel
theorem dX10_over_22 : decode cX10_over 22 = .ok (.iconst (-1), 1) := by decide +kernel
theorem dX10_over_23 : decode cX10_over 23 = .ok (.ireturn, 1) := by decide +kernel
theorem dX10_deepest_0 : decode cX10_deepest 0 = .ok (.aload_n 0, 1) := by decide +kernel
theorem dX10_deepest_1 : decode cX10_deepest 1 = .ok (.getfield 19, 3) := by decide +kernel
theorem dX10_deepest_4 : decode cX10_deepest 4 = .ok (.iload_n 1, 1) := by decide +kernel
theorem dX10_deepest_5 : decode cX10_deepest 5 = .ok (.invokevirtual 117, 3) := by decide +kernel
theorem dX10_deepest_8 : decode cX10_deepest 8 = .ok (.ifCond .ne 5, 3) := by decide +kernel
theorem dX10_deepest_11 : decode cX10_deepest 11 = .ok (.iconst (-1), 1) := by decide +kernel
theorem dX10_deepest_12 : decode cX10_deepest 12 = .ok (.ireturn, 1) := by decide +kernel
theorem dX10_deepest_13 : decode cX10_deepest 13 = .ok (.iconst 0, 1) := by decide +kernel
theorem dX10_deepest_14 : decode cX10_deepest 14 = .ok (.istore_n 2, 1) := by decide +kernel
theorem dX10_deepest_15 : decode cX10_deepest 15 = .ok (.iconst 1, 1) := by decide +kernel
theorem dX10_deepest_16 : decode cX10_deepest 16 = .ok (.istore_n 3, 1) := by decide +kernel
theorem dX10_deepest_17 : decode cX10_deepest 17 = .ok (.iload_n 3, 1) := by decide +kernel
theorem dX10_deepest_18 : decode cX10_deepest 18 = .ok (.aload_n 0, 1) := by decide +kernel
theorem dX10_deepest_19 : decode cX10_deepest 19 = .ok (.getfield 19, 3) := by decide +kernel
theorem dX10_deepest_22 : decode cX10_deepest 22 = .ok (.getfield 121, 3) := by decide +kernel
theorem dX10_deepest_25 : decode cX10_deepest 25 = .ok (.iload_n 1, 1) := by decide +kernel
theorem dX10_deepest_26 : decode cX10_deepest 26 = .ok (.iaload, 1) := by decide +kernel
theorem dX10_deepest_27 : decode cX10_deepest 27 = .ok (.if_icmp .ge 42, 3) := by decide +kernel
theorem dX10_deepest_30 : decode cX10_deepest 30 = .ok (.aload_n 0, 1) := by decide +kernel
theorem dX10_deepest_31 : decode cX10_deepest 31 = .ok (.getfield 31, 3) := by decide +kernel
theorem dX10_deepest_34 : decode cX10_deepest 34 = .ok (.getfield 164, 3) := by decide +kernel
theorem dX10_deepest_37 : decode cX10_deepest 37 = .ok (.bipush 6, 2) := by decide +kernel
theorem dX10_deepest_39 : decode cX10_deepest 39 = .ok (.iload_n 1, 1) := by decide +kernel
theorem dX10_deepest_40 : decode cX10_deepest 40 = .ok (.imul, 1) := by decide +kernel
theorem dX10_deepest_41 : decode cX10_deepest 41 = .ok (.iload_n 3, 1) := by decide +kernel
theorem dX10_deepest_42 : decode cX10_deepest 42 = .ok (.iadd, 1) := by decide +kernel
theorem dX10_deepest_43 : decode cX10_deepest 43 = .ok (.iaload, 1) := by decide +kernel
theorem dX10_deepest_44 : decode cX10_deepest 44 = .ok (.aload_n 0, 1) := by decide +kernel
theorem dX10_deepest_45 : decode cX10_deepest 45 = .ok (.getfield 31, 3) := by decide +kernel
theorem dX10_deepest_48 : decode cX10_deepest 48 = .ok (.getfield 164, 3) := by decide +kernel
theorem dX10_deepest_51 : decode cX10_deepest 51 = .ok (.bipush 6, 2) := by decide +kernel
theorem dX10_deepest_53 : decode cX10_deepest 53 = .ok (.iload_n 1, 1) := by decide +kernel
theorem dX10_deepest_54 : decode cX10_deepest 54 = .ok (.imul, 1) := by decide +kernel
theorem dX10_deepest_55 : decode cX10_deepest 55 = .ok (.iload_n 2, 1) := by decide +kernel
theorem dX10_deepest_56 : decode cX10_deepest 56 = .ok (.iadd, 1) := by decide +kernel
theorem dX10_deepest_57 : decode cX10_deepest 57 = .ok (.iaload, 1) := by decide +kernel
theorem dX10_deepest_58 : decode cX10_deepest 58 = .ok (.if_icmp .le 5, 3) := by decide +kernel
theorem dX10_deepest_61 : decode cX10_deepest 61 = .ok (.iload_n 3, 1) := by decide +kernel
theorem dX10_deepest_62 : decode cX10_deepest 62 = .ok (.istore_n 2, 1) := by decide +kernel
theorem dX10_deepest_63 : decode cX10_deepest 63 = .ok (.iinc 3 1, 3) := by decide +kernel
theorem dX10_deepest_66 : decode cX10_deepest 66 = .ok (.goto (-49), 3) := by decide +kernel
theorem dX10_deepest_69 : decode cX10_deepest 69 = .ok (.iload_n 2, 1) := by decide +kernel
theorem dX10_deepest_70 : decode cX10_deepest 70 = .ok (.ireturn, 1) := by decide +kernel
theorem dX10_bare_0 : decode cX10_bare 0 = .ok (.aload_n 0, 1) := by decide +kernel
theorem dX10_bare_1 : decode cX10_bare 1 = .ok (.getfield 19, 3) := by decide +kernel
theorem dX10_bare_4 : decode cX10_bare 4 = .ok (.iload_n 1, 1) := by decide +kernel
theorem dX10_bare_5 : decode cX10_bare 5 = .ok (.invokevirtual 117, 3) := by decide +kernel
theorem dX10_bare_8 : decode cX10_bare 8 = .ok (.ifCond .ne 5, 3) := by decide +kernel
theorem dX10_bare_11 : decode cX10_bare 11 = .ok (.iconst (-1), 1) := by decide +kernel
theorem dX10_bare_12 : decode cX10_bare 12 = .ok (.ireturn, 1) := by decide +kernel
theorem dX10_bare_13 : decode cX10_bare 13 = .ok (.iconst 0, 1) := by decide +kernel
theorem dX10_bare_14 : decode cX10_bare 14 = .ok (.istore_n 2, 1) := by decide +kernel
theorem dX10_bare_15 : decode cX10_bare 15 = .ok (.iconst 0, 1) := by decide +kernel
theorem dX10_bare_16 : decode cX10_bare 16 = .ok (.istore_n 3, 1) := by decide +kernel
theorem dX10_bare_17 : decode cX10_bare 17 = .ok (.iload_n 3, 1) := by decide +kernel
theorem dX10_bare_18 : decode cX10_bare 18 = .ok (.aload_n 0, 1) := by decide +kernel
theorem dX10_bare_19 : decode cX10_bare 19 = .ok (.getfield 19, 3) := by decide +kernel
theorem dX10_bare_22 : decode cX10_bare 22 = .ok (.getfield 121, 3) := by decide +kernel
theorem dX10_bare_25 : decode cX10_bare 25 = .ok (.iload_n 1, 1) := by decide +kernel
theorem dX10_bare_26 : decode cX10_bare 26 = .ok (.iaload, 1) := by decide +kernel
theorem dX10_bare_27 : decode cX10_bare 27 = .ok (.if_icmp .ge 32, 3) := by decide +kernel
theorem dX10_bare_30 : decode cX10_bare 30 = .ok (.aload_n 0, 1) := by decide +kernel
theorem dX10_bare_31 : decode cX10_bare 31 = .ok (.getfield 31, 3) := by decide +kernel
theorem dX10_bare_34 : decode cX10_bare 34 = .ok (.getfield 164, 3) := by decide +kernel
theorem dX10_bare_37 : decode cX10_bare 37 = .ok (.bipush 6, 2) := by decide +kernel
theorem dX10_bare_39 : decode cX10_bare 39 = .ok (.iload_n 1, 1) := by decide +kernel
theorem dX10_bare_40 : decode cX10_bare 40 = .ok (.imul, 1) := by decide +kernel
theorem dX10_bare_41 : decode cX10_bare 41 = .ok (.iload_n 3, 1) := by decide +kernel
theorem dX10_bare_42 : decode cX10_bare 42 = .ok (.iadd, 1) := by decide +kernel
theorem dX10_bare_43 : decode cX10_bare 43 = .ok (.iaload, 1) := by decide +kernel
theorem dX10_bare_44 : decode cX10_bare 44 = .ok (.ifCond .ne 9, 3) := by decide +kernel
theorem dX10_bare_47 : decode cX10_bare 47 = .ok (.iload_n 2, 1) := by decide +kernel
theorem dX10_bare_48 : decode cX10_bare 48 = .ok (.iconst 1, 1) := by decide +kernel
theorem dX10_bare_49 : decode cX10_bare 49 = .ok (.iload_n 3, 1) := by decide +kernel
theorem dX10_bare_50 : decode cX10_bare 50 = .ok (.ishl, 1) := by decide +kernel
theorem dX10_bare_51 : decode cX10_bare 51 = .ok (.ior, 1) := by decide +kernel
theorem dX10_bare_52 : decode cX10_bare 52 = .ok (.istore_n 2, 1) := by decide +kernel
theorem dX10_bare_53 : decode cX10_bare 53 = .ok (.iinc 3 1, 3) := by decide +kernel
theorem dX10_bare_56 : decode cX10_bare 56 = .ok (.goto (-39), 3) := by decide +kernel
theorem dX10_bare_59 : decode cX10_bare 59 = .ok (.iload_n 2, 1) := by decide +kernel
theorem dX10_bare_60 : decode cX10_bare 60 = .ok (.aload_n 0, 1) := by decide +kernel
theorem dX10_bare_61 : decode cX10_bare 61 = .ok (.getfield 19, 3) := by decide +kernel
theorem dX10_bare_64 : decode cX10_bare 64 = .ok (.getfield 128, 3) := by decide +kernel
theorem dX10_bare_67 : decode cX10_bare 67 = .ok (.iload_n 1, 1) := by decide +kernel
theorem dX10_bare_68 : decode cX10_bare 68 = .ok (.iaload, 1) := by decide +kernel
theorem dX10_bare_69 : decode cX10_bare 69 = .ok (.iconst (-1), 1) := by decide +kernel
theorem dX10_bare_70 : decode cX10_bare 70 = .ok (.ixor, 1) := by decide +kernel
theorem dX10_bare_71 : decode cX10_bare 71 = .ok (.iand, 1) := by decide +kernel
theorem dX10_bare_72 : decode cX10_bare 72 = .ok (.ireturn, 1) := by decide +kernel
theorem dX10_same_0 : decode cX10_same 0 = .ok (.aload_n 0, 1) := by decide +kernel
theorem dX10_same_1 : decode cX10_same 1 = .ok (.getfield 31, 3) := by decide +kernel
theorem dX10_same_4 : decode cX10_same 4 = .ok (.invokevirtual 265, 3) := by decide +kernel
theorem dX10_same_7 : decode cX10_same 7 = .ok (.ireturn, 1) := by decide +kernel
theorem dX10_giveup_0 : decode cX10_giveup 0 = .ok (.aload_n 0, 1) := by decide +kernel
theorem dX10_giveup_1 : decode cX10_giveup 1 = .ok (.getfield 31, 3) := by decide +kernel
theorem dX10_giveup_4 : decode cX10_giveup 4 = .ok (.aload_n 0, 1) := by decide +kernel
theorem dX10_giveup_5 : decode cX10_giveup 5 = .ok (.getfield 31, 3) := by decide +kernel
theorem dX10_giveup_8 : decode cX10_giveup 8 = .ok (.invokevirtual 134, 3) := by decide +kernel
theorem dX10_giveup_11 : decode cX10_giveup 11 = .ok (.invokevirtual 212, 3) := by decide +kernel
theorem dX10_giveup_14 : decode cX10_giveup 14 = .ok (.istore_n 1, 1) := by decide +kernel
theorem dX10_giveup_15 : decode cX10_giveup 15 = .ok (.iconst (-1), 1) := by decide +kernel
theorem dX10_giveup_16 : decode cX10_giveup 16 = .ok (.istore_n 2, 1) := by decide +kernel
theorem dX10_giveup_17 : decode cX10_giveup 17 = .ok (.bipush 7, 2) := by decide +kernel
theorem dX10_giveup_19 : decode cX10_giveup 19 = .ok (.istore_n 3, 1) := by decide +kernel
theorem dX10_giveup_20 : decode cX10_giveup 20 = .ok (.iconst 0, 1) := by decide +kernel
theorem dX10_giveup_21 : decode cX10_giveup 21 = .ok (.istore 4, 2) := by decide +kernel
theorem dX10_giveup_23 : decode cX10_giveup 23 = .ok (.iload 4, 2) := by decide +kernel
theorem dX10_giveup_25 : decode cX10_giveup 25 = .ok (.aload_n 0, 1) := by decide +kernel
theorem dX10_giveup_26 : decode cX10_giveup 26 = .ok (.getfield 19, 3) := by decide +kernel
theorem dX10_giveup_29 : decode cX10_giveup 29 = .ok (.getfield 268, 3) := by decide +kernel
theorem dX10_giveup_32 : decode cX10_giveup 32 = .ok (.if_icmp .ge 81, 3) := by decide +kernel
theorem dX10_giveup_35 : decode cX10_giveup 35 = .ok (.aload_n 0, 1) := by decide +kernel
theorem dX10_giveup_36 : decode cX10_giveup 36 = .ok (.getfield 31, 3) := by decide +kernel
theorem dX10_giveup_39 : decode cX10_giveup 39 = .ok (.iload 4, 2) := by decide +kernel
theorem dX10_giveup_41 : decode cX10_giveup 41 = .ok (.bipush 63, 2) := by decide +kernel
theorem dX10_giveup_43 : decode cX10_giveup 43 = .ok (.invokevirtual 189, 3) := by decide +kernel
theorem dX10_giveup_46 : decode cX10_giveup 46 = .ok (.ifCond .eq 61, 3) := by decide +kernel
theorem dX10_giveup_49 : decode cX10_giveup 49 = .ok (.aload_n 0, 1) := by decide +kernel
theorem dX10_giveup_50 : decode cX10_giveup 50 = .ok (.getfield 35, 3) := by decide +kernel
theorem dX10_giveup_53 : decode cX10_giveup 53 = .ok (.aload_n 0, 1) := by decide +kernel
theorem dX10_giveup_54 : decode cX10_giveup 54 = .ok (.getfield 31, 3) := by decide +kernel
theorem dX10_giveup_57 : decode cX10_giveup 57 = .ok (.invokevirtual 247, 3) := by decide +kernel
theorem dX10_giveup_60 : decode cX10_giveup 60 = .ok (.aload_n 0, 1) := by decide +kernel
theorem dX10_giveup_61 : decode cX10_giveup 61 = .ok (.getfield 35, 3) := by decide +kernel
theorem dX10_giveup_64 : decode cX10_giveup 64 = .ok (.iload 4, 2) := by decide +kernel
theorem dX10_giveup_66 : decode cX10_giveup 66 = .ok (.bipush 63, 2) := by decide +kernel
theorem dX10_giveup_68 : decode cX10_giveup 68 = .ok (.invokevirtual 192, 3) := by decide +kernel
theorem dX10_giveup_71 : decode cX10_giveup 71 = .ok (.pop, 1) := by decide +kernel
theorem dX10_giveup_72 : decode cX10_giveup 72 = .ok (.iload_n 1, 1) := by decide +kernel
theorem dX10_giveup_73 : decode cX10_giveup 73 = .ok (.aload_n 0, 1) := by decide +kernel
theorem dX10_giveup_74 : decode cX10_giveup 74 = .ok (.getfield 35, 3) := by decide +kernel
theorem dX10_giveup_77 : decode cX10_giveup 77 = .ok (.aload_n 0, 1) := by decide +kernel
theorem dX10_giveup_78 : decode cX10_giveup 78 = .ok (.getfield 35, 3) := by decide +kernel
theorem dX10_giveup_81 : decode cX10_giveup 81 = .ok (.invokevirtual 134, 3) := by decide +kernel
theorem dX10_giveup_84 : decode cX10_giveup 84 = .ok (.invokevirtual 212, 3) := by decide +kernel
theorem dX10_giveup_87 : decode cX10_giveup 87 = .ok (.iconst (-1), 1) := by decide +kernel
theorem dX10_giveup_88 : decode cX10_giveup 88 = .ok (.ixor, 1) := by decide +kernel
theorem dX10_giveup_89 : decode cX10_giveup 89 = .ok (.iand, 1) := by decide +kernel
theorem dX10_giveup_90 : decode cX10_giveup 90 = .ok (.invokestatic 216, 3) := by decide +kernel
theorem dX10_giveup_93 : decode cX10_giveup 93 = .ok (.istore 5, 2) := by decide +kernel
theorem dX10_giveup_95 : decode cX10_giveup 95 = .ok (.iload 5, 2) := by decide +kernel
theorem dX10_giveup_97 : decode cX10_giveup 97 = .ok (.iload_n 3, 1) := by decide +kernel
theorem dX10_giveup_98 : decode cX10_giveup 98 = .ok (.if_icmp .ge 9, 3) := by decide +kernel
theorem dX10_giveup_101 : decode cX10_giveup 101 = .ok (.iload 5, 2) := by decide +kernel
theorem dX10_giveup_103 : decode cX10_giveup 103 = .ok (.istore_n 3, 1) := by decide +kernel
theorem dX10_giveup_104 : decode cX10_giveup 104 = .ok (.iload 4, 2) := by decide +kernel
theorem dX10_giveup_106 : decode cX10_giveup 106 = .ok (.istore_n 2, 1) := by decide +kernel
theorem dX10_giveup_107 : decode cX10_giveup 107 = .ok (.iinc 4 1, 3) := by decide +kernel
theorem dX10_giveup_110 : decode cX10_giveup 110 = .ok (.goto (-87), 3) := by decide +kernel
theorem dX10_giveup_113 : decode cX10_giveup 113 = .ok (.iload_n 2, 1) := by decide +kernel
theorem dX10_giveup_114 : decode cX10_giveup 114 = .ok (.ireturn, 1) := by decide +kernel
theorem dX10_psalter_0 : decode cX10_psalter 0 = .ok (.aload_n 0, 1) := by decide +kernel
theorem dX10_psalter_1 : decode cX10_psalter 1 = .ok (.getfield 19, 3) := by decide +kernel
theorem dX10_psalter_4 : decode cX10_psalter 4 = .ok (.iload_n 1, 1) := by decide +kernel
theorem dX10_psalter_5 : decode cX10_psalter 5 = .ok (.invokevirtual 142, 3) := by decide +kernel
theorem dX10_psalter_8 : decode cX10_psalter 8 = .ok (.ifCond .ne 5, 3) := by decide +kernel
theorem dX10_psalter_11 : decode cX10_psalter 11 = .ok (.iconst (-1), 1) := by decide +kernel
theorem dX10_psalter_12 : decode cX10_psalter 12 = .ok (.ireturn, 1) := by decide +kernel
theorem dX10_psalter_13 : decode cX10_psalter 13 = .ok (.iconst 0, 1) := by decide +kernel
theorem dX10_psalter_14 : decode cX10_psalter 14 = .ok (.istore_n 2, 1) := by decide +kernel
theorem dX10_psalter_15 : decode cX10_psalter 15 = .ok (.iconst 0, 1) := by decide +kernel
theorem dX10_psalter_16 : decode cX10_psalter 16 = .ok (.istore_n 3, 1) := by decide +kernel
theorem dX10_psalter_17 : decode cX10_psalter 17 = .ok (.iload_n 3, 1) := by decide +kernel
theorem dX10_psalter_18 : decode cX10_psalter 18 = .ok (.bipush 9, 2) := by decide +kernel
theorem dX10_psalter_20 : decode cX10_psalter 20 = .ok (.if_icmp .gt 24, 3) := by decide +kernel
theorem dX10_psalter_23 : decode cX10_psalter 23 = .ok (.aload_n 0, 1) := by decide +kernel
theorem dX10_psalter_24 : decode cX10_psalter 24 = .ok (.getfield 31, 3) := by decide +kernel
theorem dX10_psalter_27 : decode cX10_psalter 27 = .ok (.iload_n 1, 1) := by decide +kernel
theorem dX10_psalter_28 : decode cX10_psalter 28 = .ok (.iload_n 3, 1) := by decide +kernel
theorem dX10_psalter_29 : decode cX10_psalter 29 = .ok (.invokevirtual 154, 3) := by decide +kernel
theorem dX10_psalter_32 : decode cX10_psalter 32 = .ok (.ifCond .eq 6, 3) := by decide +kernel
theorem dX10_psalter_35 : decode cX10_psalter 35 = .ok (.iinc 2 1, 3) := by decide +kernel
theorem dX10_psalter_38 : decode cX10_psalter 38 = .ok (.iinc 3 1, 3) := by decide +kernel
theorem dX10_psalter_41 : decode cX10_psalter 41 = .ok (.goto (-24), 3) := by decide +kernel
theorem dX10_psalter_44 : decode cX10_psalter 44 = .ok (.iload_n 2, 1) := by decide +kernel
theorem dX10_psalter_45 : decode cX10_psalter 45 = .ok (.ireturn, 1) := by decide +kernel
theorem dX10_see_0 : decode cX10_see 0 = .ok (.aload_n 0, 1) := by decide +kernel
theorem dX10_see_1 : decode cX10_see 1 = .ok (.getfield 19, 3) := by decide +kernel
theorem dX10_see_4 : decode cX10_see 4 = .ok (.iload_n 1, 1) := by decide +kernel
theorem dX10_see_5 : decode cX10_see 5 = .ok (.invokevirtual 117, 3) := by decide +kernel
theorem dX10_see_8 : decode cX10_see 8 = .ok (.ifCond .eq 24, 3) := by decide +kernel
theorem dX10_see_11 : decode cX10_see 11 = .ok (.iload_n 2, 1) := by decide +kernel
theorem dX10_see_12 : decode cX10_see 12 = .ok (.iconst 1, 1) := by decide +kernel
theorem dX10_see_13 : decode cX10_see 13 = .ok (.if_icmp .lt 19, 3) := by decide +kernel
theorem dX10_see_16 : decode cX10_see 16 = .ok (.iload_n 2, 1) := by decide +kernel
theorem dX10_see_17 : decode cX10_see 17 = .ok (.bipush 9, 2) := by decide +kernel
theorem dX10_see_19 : decode cX10_see 19 = .ok (.if_icmp .gt 13, 3) := by decide +kernel
theorem dX10_see_22 : decode cX10_see 22 = .ok (.iload_n 3, 1) := by decide +kernel
theorem dX10_see_23 : decode cX10_see 23 = .ok (.ifCond .lt 9, 3) := by decide +kernel
theorem dX10_see_26 : decode cX10_see 26 = .ok (.iload_n 3, 1) := by decide +kernel
theorem dX10_see_27 : decode cX10_see 27 = .ok (.bipush 9, 2) := by decide +kernel
theorem dX10_see_29 : decode cX10_see 29 = .ok (.if_icmp .le 5, 3) := by decide +kernel
theorem dX10_see_32 : decode cX10_see 32 = .ok (.iconst 0, 1) := by decide +kernel
theorem dX10_see_33 : decode cX10_see 33 = .ok (.ireturn, 1) := by decide +kernel
theorem dX10_see_34 : decode cX10_see 34 = .ok (.aload_n 0, 1) := by decide +kernel
theorem dX10_see_35 : decode cX10_see 35 = .ok (.getfield 51, 3) := by decide +kernel
theorem dX10_see_38 : decode cX10_see 38 = .ok (.iload_n 1, 1) := by decide +kernel
theorem dX10_see_39 : decode cX10_see 39 = .ok (.iload_n 2, 1) := by decide +kernel
theorem dX10_see_40 : decode cX10_see 40 = .ok (.iload_n 3, 1) := by decide +kernel
theorem dX10_see_41 : decode cX10_see 41 = .ok (.iload 4, 2) := by decide +kernel
theorem dX10_see_43 : decode cX10_see 43 = .ok (.invokevirtual 271, 3) := by decide +kernel
theorem dX10_see_46 : decode cX10_see 46 = .ok (.ireturn, 1) := by decide +kernel
theorem dX10_who_0 : decode cX10_who 0 = .ok (.aload_n 0, 1) := by decide +kernel
theorem dX10_who_1 : decode cX10_who 1 = .ok (.invokevirtual 275, 3) := by decide +kernel
theorem dX10_who_4 : decode cX10_who 4 = .ok (.ireturn, 1) := by decide +kernel
theorem dX10_textsAsSeen_0 : decode cX10_textsAsSeen 0 = .ok (.iconst 0, 1) := by decide +kernel
theorem dX10_textsAsSeen_1 : decode cX10_textsAsSeen 1 = .ok (.istore_n 1, 1) := by decide +kernel
theorem dX10_textsAsSeen_2 : decode cX10_textsAsSeen 2 = .ok (.iconst 0, 1) := by decide +kernel
theorem dX10_textsAsSeen_3 : decode cX10_textsAsSeen 3 = .ok (.istore_n 2, 1) := by decide +kernel
theorem dX10_textsAsSeen_4 : decode cX10_textsAsSeen 4 = .ok (.iload_n 2, 1) := by decide +kernel
theorem dX10_textsAsSeen_5 : decode cX10_textsAsSeen 5 = .ok (.aload_n 0, 1) := by decide +kernel
theorem dX10_textsAsSeen_6 : decode cX10_textsAsSeen 6 = .ok (.getfield 19, 3) := by decide +kernel
theorem dX10_textsAsSeen_9 : decode cX10_textsAsSeen 9 = .ok (.getfield 278, 3) := by decide +kernel
theorem dX10_textsAsSeen_12 : decode cX10_textsAsSeen 12 = .ok (.if_icmp .ge 34, 3) := by decide +kernel
theorem dX10_textsAsSeen_15 : decode cX10_textsAsSeen 15 = .ok (.aload_n 0, 1) := by decide +kernel
theorem dX10_textsAsSeen_16 : decode cX10_textsAsSeen 16 = .ok (.getfield 51, 3) := by decide +kernel
theorem dX10_textsAsSeen_19 : decode cX10_textsAsSeen 19 = .ok (.iload_n 2, 1) := by decide +kernel
theorem dX10_textsAsSeen_20 : decode cX10_textsAsSeen 20 = .ok (.aload_n 0, 1) := by decide +kernel
theorem dX10_textsAsSeen_21 : decode cX10_textsAsSeen 21 = .ok (.getfield 19, 3) := by decide +kernel
theorem dX10_textsAsSeen_24 : decode cX10_textsAsSeen 24 = .ok (.aload_n 0, 1) := by decide +kernel
theorem dX10_textsAsSeen_25 : decode cX10_textsAsSeen 25 = .ok (.getfield 31, 3) := by decide +kernel
theorem dX10_textsAsSeen_28 : decode cX10_textsAsSeen 28 = .ok (.invokevirtual 281, 3) := by decide +kernel
theorem dX10_textsAsSeen_31 : decode cX10_textsAsSeen 31 = .ok (.ifCond .eq 9, 3) := by decide +kernel
theorem dX10_textsAsSeen_34 : decode cX10_textsAsSeen 34 = .ok (.iload_n 1, 1) := by decide +kernel
theorem dX10_textsAsSeen_35 : decode cX10_textsAsSeen 35 = .ok (.iconst 1, 1) := by decide +kernel
theorem dX10_textsAsSeen_36 : decode cX10_textsAsSeen 36 = .ok (.iload_n 2, 1) := by decide +kernel
theorem dX10_textsAsSeen_37 : decode cX10_textsAsSeen 37 = .ok (.ishl, 1) := by decide +kernel
theorem dX10_textsAsSeen_38 : decode cX10_textsAsSeen 38 = .ok (.ior, 1) := by decide +kernel
theorem dX10_textsAsSeen_39 : decode cX10_textsAsSeen 39 = .ok (.istore_n 1, 1) := by decide +kernel
theorem dX10_textsAsSeen_40 : decode cX10_textsAsSeen 40 = .ok (.iinc 2 1, 3) := by decide +kernel
theorem dX10_textsAsSeen_43 : decode cX10_textsAsSeen 43 = .ok (.goto (-39), 3) := by decide +kernel
theorem dX10_textsAsSeen_46 : decode cX10_textsAsSeen 46 = .ok (.iload_n 1, 1) := by decide +kernel
theorem dX10_textsAsSeen_47 : decode cX10_textsAsSeen 47 = .ok (.ireturn, 1) := by decide +kernel
theorem dX10_ask_0 : decode cX10_ask 0 = .ok (.aload_n 0, 1) := by decide +kernel
theorem dX10_ask_1 : decode cX10_ask 1 = .ok (.getfield 19, 3) := by decide +kernel
theorem dX10_ask_4 : decode cX10_ask 4 = .ok (.iload_n 1, 1) := by decide +kernel
theorem dX10_ask_5 : decode cX10_ask 5 = .ok (.invokevirtual 117, 3) := by decide +kernel
theorem dX10_ask_8 : decode cX10_ask 8 = .ok (.ifCond .ne 5, 3) := by decide +kernel
theorem dX10_ask_11 : decode cX10_ask 11 = .ok (.iconst (-1), 1) := by decide +kernel
theorem dX10_ask_12 : decode cX10_ask 12 = .ok (.ireturn, 1) := by decide +kernel
theorem dX10_ask_13 : decode cX10_ask 13 = .ok (.aload_n 0, 1) := by decide +kernel
theorem dX10_ask_14 : decode cX10_ask 14 = .ok (.invokevirtual 275, 3) := by decide +kernel
theorem dX10_ask_17 : decode cX10_ask 17 = .ok (.istore_n 2, 1) := by decide +kernel
theorem dX10_ask_18 : decode cX10_ask 18 = .ok (.iload_n 2, 1) := by decide +kernel
theorem dX10_ask_19 : decode cX10_ask 19 = .ok (.invokestatic 216, 3) := by decide +kernel
theorem dX10_ask_22 : decode cX10_ask 22 = .ok (.istore_n 3, 1) := by decide +kernel
theorem dX10_ask_23 : decode cX10_ask 23 = .ok (.iload_n 3, 1) := by decide +kernel
theorem dX10_ask_24 : decode cX10_ask 24 = .ok (.istore 4, 2) := by decide +kernel
theorem dX10_ask_26 : decode cX10_ask 26 = .ok (.iconst (-1), 1) := by decide +kernel
theorem dX10_ask_27 : decode cX10_ask 27 = .ok (.istore 5, 2) := by decide +kernel
theorem dX10_ask_29 : decode cX10_ask 29 = .ok (.iconst 1, 1) := by decide +kernel
theorem dX10_ask_30 : decode cX10_ask 30 = .ok (.istore 6, 2) := by decide +kernel
theorem dX10_ask_32 : decode cX10_ask 32 = .ok (.iload 6, 2) := by decide +kernel
theorem dX10_ask_34 : decode cX10_ask 34 = .ok (.bipush 9, 2) := by decide +kernel
theorem dX10_ask_36 : decode cX10_ask 36 = .ok (.if_icmp .gt 80, 3) := by decide +kernel
theorem dX10_ask_39 : decode cX10_ask 39 = .ok (.iconst 0, 1) := by decide +kernel
theorem dX10_ask_40 : decode cX10_ask 40 = .ok (.istore 7, 2) := by decide +kernel
theorem dX10_ask_42 : decode cX10_ask 42 = .ok (.iload 7, 2) := by decide +kernel
theorem dX10_ask_44 : decode cX10_ask 44 = .ok (.bipush 9, 2) := by decide +kernel
theorem dX10_ask_46 : decode cX10_ask 46 = .ok (.if_icmp .gt 64, 3) := by decide +kernel
theorem dX10_ask_49 : decode cX10_ask 49 = .ok (.aload_n 0, 1) := by decide +kernel
theorem dX10_ask_50 : decode cX10_ask 50 = .ok (.getfield 19, 3) := by decide +kernel
theorem dX10_ask_53 : decode cX10_ask 53 = .ok (.iload_n 2, 1) := by decide +kernel
theorem dX10_ask_54 : decode cX10_ask 54 = .ok (.iload 6, 2) := by decide +kernel
theorem dX10_ask_56 : decode cX10_ask 56 = .ok (.iload 7, 2) := by decide +kernel
theorem dX10_ask_58 : decode cX10_ask 58 = .ok (.aload_n 0, 1) := by decide +kernel
theorem dX10_ask_59 : decode cX10_ask 59 = .ok (.getfield 31, 3) := by decide +kernel
theorem dX10_ask_62 : decode cX10_ask 62 = .ok (.getfield 125, 3) := by decide +kernel
theorem dX10_ask_65 : decode cX10_ask 65 = .ok (.iload_n 1, 1) := by decide +kernel
theorem dX10_ask_66 : decode cX10_ask 66 = .ok (.iaload, 1) := by decide +kernel
theorem dX10_ask_67 : decode cX10_ask 67 = .ok (.invokevirtual 285, 3) := by decide +kernel
theorem dX10_ask_70 : decode cX10_ask 70 = .ok (.istore 8, 2) := by decide +kernel
theorem dX10_ask_72 : decode cX10_ask 72 = .ok (.iload 8, 2) := by decide +kernel
theorem dX10_ask_74 : decode cX10_ask 74 = .ok (.iload_n 3, 1) := by decide +kernel
theorem dX10_ask_75 : decode cX10_ask 75 = .ok (.iload 8, 2) := by decide +kernel
theorem dX10_ask_77 : decode cX10_ask 77 = .ok (.isub, 1) := by decide +kernel
theorem dX10_ask_78 : decode cX10_ask 78 = .ok (.invokestatic 227, 3) := by decide +kernel
theorem dX10_ask_81 : decode cX10_ask 81 = .ok (.istore 9, 2) := by decide +kernel
theorem dX10_ask_83 : decode cX10_ask 83 = .ok (.iload 9, 2) := by decide +kernel
theorem dX10_ask_85 : decode cX10_ask 85 = .ok (.iload 4, 2) := by decide +kernel
theorem dX10_ask_87 : decode cX10_ask 87 = .ok (.if_icmp .ge 17, 3) := by decide +kernel
theorem dX10_ask_90 : decode cX10_ask 90 = .ok (.iload 9, 2) := by decide +kernel
theorem dX10_ask_92 : decode cX10_ask 92 = .ok (.istore 4, 2) := by decide +kernel
theorem dX10_ask_94 : decode cX10_ask 94 = .ok (.bipush 10, 2) := by decide +kernel
theorem dX10_ask_96 : decode cX10_ask 96 = .ok (.iload 6, 2) := by decide +kernel
theorem dX10_ask_98 : decode cX10_ask 98 = .ok (.imul, 1) := by decide +kernel
theorem dX10_ask_99 : decode cX10_ask 99 = .ok (.iload 7, 2) := by decide +kernel
theorem dX10_ask_101 : decode cX10_ask 101 = .ok (.iadd, 1) := by decide +kernel
theorem dX10_ask_102 : decode cX10_ask 102 = .ok (.istore 5, 2) := by decide +kernel
theorem dX10_ask_104 : decode cX10_ask 104 = .ok (.iinc 7 1, 3) := by decide +kernel
theorem dX10_ask_107 : decode cX10_ask 107 = .ok (.goto (-65), 3) := by decide +kernel
theorem dX10_ask_110 : decode cX10_ask 110 = .ok (.iinc 6 1, 3) := by decide +kernel
theorem dX10_ask_113 : decode cX10_ask 113 = .ok (.goto (-81), 3) := by decide +kernel
theorem dX10_ask_116 : decode cX10_ask 116 = .ok (.iload 5, 2) := by decide +kernel
theorem dX10_ask_118 : decode cX10_ask 118 = .ok (.ireturn, 1) := by decide +kernel
theorem dX10_chance_0 : decode cX10_chance 0 = .ok (.aload_n 0, 1) := by decide +kernel
theorem dX10_chance_1 : decode cX10_chance 1 = .ok (.getfield 19, 3) := by decide +kernel
theorem dX10_chance_4 : decode cX10_chance 4 = .ok (.iload_n 1, 1) := by decide +kernel
theorem dX10_chance_5 : decode cX10_chance 5 = .ok (.invokevirtual 142, 3) := by decide +kernel
theorem dX10_chance_8 : decode cX10_chance 8 = .ok (.ifCond .eq 24, 3) := by decide +kernel
theorem dX10_chance_11 : decode cX10_chance 11 = .ok (.iload_n 2, 1) := by decide +kernel
theorem dX10_chance_12 : decode cX10_chance 12 = .ok (.iconst 1, 1) := by decide +kernel
theorem dX10_chance_13 : decode cX10_chance 13 = .ok (.if_icmp .lt 19, 3) := by decide +kernel
theorem dX10_chance_16 : decode cX10_chance 16 = .ok (.iload_n 2, 1) := by decide +kernel
theorem dX10_chance_17 : decode cX10_chance 17 = .ok (.bipush 6, 2) := by decide +kernel
theorem dX10_chance_19 : decode cX10_chance 19 = .ok (.if_icmp .gt 13, 3) := by decide +kernel
theorem dX10_chance_22 : decode cX10_chance 22 = .ok (.iload_n 3, 1) := by decide +kernel
theorem dX10_chance_23 : decode cX10_chance 23 = .ok (.ifCond .lt 9, 3) := by decide +kernel
theorem dX10_chance_26 : decode cX10_chance 26 = .ok (.iload_n 3, 1) := by decide +kernel
theorem dX10_chance_27 : decode cX10_chance 27 = .ok (.bipush 10, 2) := by decide +kernel
theorem dX10_chance_29 : decode cX10_chance 29 = .ok (.if_icmp .le 5, 3) := by decide +kernel
theorem dX10_chance_32 : decode cX10_chance 32 = .ok (.iconst (-1), 1) := by decide +kernel
theorem dX10_chance_33 : decode cX10_chance 33 = .ok (.ireturn, 1) := by decide +kernel
theorem dX10_chance_34 : decode cX10_chance 34 = .ok (.aload_n 0, 1) := by decide +kernel
theorem dX10_chance_35 : decode cX10_chance 35 = .ok (.getfield 31, 3) := by decide +kernel
theorem dX10_chance_38 : decode cX10_chance 38 = .ok (.iload_n 1, 1) := by decide +kernel
theorem dX10_chance_39 : decode cX10_chance 39 = .ok (.bipush 9, 2) := by decide +kernel
theorem dX10_chance_41 : decode cX10_chance 41 = .ok (.invokevirtual 154, 3) := by decide +kernel
theorem dX10_chance_44 : decode cX10_chance 44 = .ok (.istore 4, 2) := by decide +kernel
theorem dX10_chance_46 : decode cX10_chance 46 = .ok (.aload_n 0, 1) := by decide +kernel
theorem dX10_chance_47 : decode cX10_chance 47 = .ok (.getfield 31, 3) := by decide +kernel
theorem dX10_chance_50 : decode cX10_chance 50 = .ok (.iload_n 1, 1) := by decide +kernel
theorem dX10_chance_51 : decode cX10_chance 51 = .ok (.iconst 0, 1) := by decide +kernel
theorem dX10_chance_52 : decode cX10_chance 52 = .ok (.invokevirtual 154, 3) := by decide +kernel
theorem dX10_chance_55 : decode cX10_chance 55 = .ok (.istore 5, 2) := by decide +kernel
theorem dX10_chance_57 : decode cX10_chance 57 = .ok (.ldc_w 289, 3) := by decide +kernel
theorem dX10_chance_60 : decode cX10_chance 60 = .ok (.istore 6, 2) := by decide +kernel
theorem dX10_chance_62 : decode cX10_chance 62 = .ok (.iconst 0, 1) := by decide +kernel
theorem dX10_chance_63 : decode cX10_chance 63 = .ok (.istore 7, 2) := by decide +kernel
theorem dX10_chance_65 : decode cX10_chance 65 = .ok (.iload 7, 2) := by decide +kernel
theorem dX10_chance_67 : decode cX10_chance 67 = .ok (.iload_n 2, 1) := by decide +kernel
theorem dX10_chance_68 : decode cX10_chance 68 = .ok (.if_icmp .ge 45, 3) := by decide +kernel
theorem dX10_chance_71 : decode cX10_chance 71 = .ok (.iload 4, 2) := by decide +kernel
theorem dX10_chance_73 : decode cX10_chance 73 = .ok (.ifCond .eq 7, 3) := by decide +kernel
theorem dX10_chance_76 : decode cX10_chance 76 = .ok (.iconst 0, 1) := by decide +kernel
theorem dX10_chance_77 : decode cX10_chance 77 = .ok (.goto 4, 3) := by decide +kernel
theorem dX10_chance_80 : decode cX10_chance 80 = .ok (.iload_n 3, 1) := by decide +kernel
theorem dX10_chance_81 : decode cX10_chance 81 = .ok (.iload 5, 2) := by decide +kernel
theorem dX10_chance_83 : decode cX10_chance 83 = .ok (.ifCond .eq 7, 3) := by decide +kernel
theorem dX10_chance_86 : decode cX10_chance 86 = .ok (.iconst 0, 1) := by decide +kernel
theorem dX10_chance_87 : decode cX10_chance 87 = .ok (.goto 7, 3) := by decide +kernel
theorem dX10_chance_90 : decode cX10_chance 90 = .ok (.bipush 10, 2) := by decide +kernel
theorem dX10_chance_92 : decode cX10_chance 92 = .ok (.iload_n 3, 1) := by decide +kernel
theorem dX10_chance_93 : decode cX10_chance 93 = .ok (.isub, 1) := by decide +kernel
theorem dX10_chance_94 : decode cX10_chance 94 = .ok (.iadd, 1) := by decide +kernel
theorem dX10_chance_95 : decode cX10_chance 95 = .ok (.istore 8, 2) := by decide +kernel
theorem dX10_chance_97 : decode cX10_chance 97 = .ok (.iload 6, 2) := by decide +kernel
theorem dX10_chance_99 : decode cX10_chance 99 = .ok (.bipush 10, 2) := by decide +kernel
theorem dX10_chance_101 : decode cX10_chance 101 = .ok (.idiv, 1) := by decide +kernel
theorem dX10_chance_102 : decode cX10_chance 102 = .ok (.iload 8, 2) := by decide +kernel
theorem dX10_chance_104 : decode cX10_chance 104 = .ok (.imul, 1) := by decide +kernel
theorem dX10_chance_105 : decode cX10_chance 105 = .ok (.istore 6, 2) := by decide +kernel
theorem dX10_chance_107 : decode cX10_chance 107 = .ok (.iinc 7 1, 3) := by decide +kernel
theorem dX10_chance_110 : decode cX10_chance 110 = .ok (.goto (-45), 3) := by decide +kernel
theorem dX10_chance_113 : decode cX10_chance 113 = .ok (.ldc_w 289, 3) := by decide +kernel
theorem dX10_chance_116 : decode cX10_chance 116 = .ok (.iload 6, 2) := by decide +kernel
theorem dX10_chance_118 : decode cX10_chance 118 = .ok (.isub, 1) := by decide +kernel
theorem dX10_chance_119 : decode cX10_chance 119 = .ok (.ireturn, 1) := by decide +kernel
theorem dX10_rests_0 : decode cX10_rests 0 = .ok (.iload_n 1, 1) := by decide +kernel
theorem dX10_rests_1 : decode cX10_rests 1 = .ok (.invokestatic 290, 3) := by decide +kernel
theorem dX10_rests_4 : decode cX10_rests 4 = .ok (.ifCond .eq 23, 3) := by decide +kernel
theorem dX10_rests_7 : decode cX10_rests 7 = .ok (.iload_n 2, 1) := by decide +kernel
theorem dX10_rests_8 : decode cX10_rests 8 = .ok (.invokestatic 290, 3) := by decide +kernel
theorem dX10_rests_11 : decode cX10_rests 11 = .ok (.ifCond .eq 16, 3) := by decide +kernel
theorem dX10_rests_14 : decode cX10_rests 14 = .ok (.iload_n 3, 1) := by decide +kernel
