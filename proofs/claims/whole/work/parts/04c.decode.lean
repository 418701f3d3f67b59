theorem dX10_rests_15 : decode cX10_rests 15 = .ok (.invokestatic 290, 3) := by decide +kernel
theorem dX10_rests_18 : decode cX10_rests 18 = .ok (.ifCond .eq 9, 3) := by decide +kernel
theorem dX10_rests_21 : decode cX10_rests 21 = .ok (.iload 4, 2) := by decide +kernel
theorem dX10_rests_23 : decode cX10_rests 23 = .ok (.iconst (-1), 1) := by decide +kernel
theorem dX10_rests_24 : decode cX10_rests 24 = .ok (.if_icmp .ge 11, 3) := by decide +kernel
theorem dX10_rests_27 : decode cX10_rests 27 = .ok (.new 293, 3) := by decide +kernel
theorem dX10_rests_30 : decode cX10_rests 30 = .ok (.dup, 1) := by decide +kernel
theorem dX10_rests_31 : decode cX10_rests 31 = .ok (.invokespecial 295, 3) := by decide +kernel
theorem dX10_rests_34 : decode cX10_rests 34 = .ok (.athrow, 1) := by decide +kernel
theorem dX10_rests_35 : decode cX10_rests 35 = .ok (.iconst 0, 1) := by decide +kernel
theorem dX10_rests_36 : decode cX10_rests 36 = .ok (.istore 5, 2) := by decide +kernel
theorem dX10_rests_38 : decode cX10_rests 38 = .ok (.iconst 0, 1) := by decide +kernel
theorem dX10_rests_39 : decode cX10_rests 39 = .ok (.istore 6, 2) := by decide +kernel
theorem dX10_rests_41 : decode cX10_rests 41 = .ok (.iload 6, 2) := by decide +kernel
theorem dX10_rests_43 : decode cX10_rests 43 = .ok (.iconst 4, 1) := by decide +kernel
theorem dX10_rests_44 : decode cX10_rests 44 = .ok (.if_icmp .ge 76, 3) := by decide +kernel
theorem dX10_rests_47 : decode cX10_rests 47 = .ok (.iload 6, 2) := by decide +kernel
theorem dX10_rests_49 : decode cX10_rests 49 = .ok (.iconst 2, 1) := by decide +kernel
theorem dX10_rests_50 : decode cX10_rests 50 = .ok (.if_icmp .lt 7, 3) := by decide +kernel
theorem dX10_rests_53 : decode cX10_rests 53 = .ok (.iconst 1, 1) := by decide +kernel
theorem dX10_rests_54 : decode cX10_rests 54 = .ok (.goto 4, 3) := by decide +kernel
theorem dX10_rests_57 : decode cX10_rests 57 = .ok (.iconst 0, 1) := by decide +kernel
theorem dX10_rests_58 : decode cX10_rests 58 = .ok (.istore 7, 2) := by decide +kernel
theorem dX10_rests_60 : decode cX10_rests 60 = .ok (.iload 6, 2) := by decide +kernel
theorem dX10_rests_62 : decode cX10_rests 62 = .ok (.iconst 2, 1) := by decide +kernel
theorem dX10_rests_63 : decode cX10_rests 63 = .ok (.irem, 1) := by decide +kernel
theorem dX10_rests_64 : decode cX10_rests 64 = .ok (.iconst 1, 1) := by decide +kernel
theorem dX10_rests_65 : decode cX10_rests 65 = .ok (.if_icmp .ne 7, 3) := by decide +kernel
theorem dX10_rests_68 : decode cX10_rests 68 = .ok (.iconst 1, 1) := by decide +kernel
theorem dX10_rests_69 : decode cX10_rests 69 = .ok (.goto 4, 3) := by decide +kernel
theorem dX10_rests_72 : decode cX10_rests 72 = .ok (.iconst 0, 1) := by decide +kernel
theorem dX10_rests_73 : decode cX10_rests 73 = .ok (.istore 8, 2) := by decide +kernel
theorem dX10_rests_75 : decode cX10_rests 75 = .ok (.iload 7, 2) := by decide +kernel
theorem dX10_rests_77 : decode cX10_rests 77 = .ok (.iload 8, 2) := by decide +kernel
theorem dX10_rests_79 : decode cX10_rests 79 = .ok (.iload_n 1, 1) := by decide +kernel
theorem dX10_rests_80 : decode cX10_rests 80 = .ok (.iload_n 2, 1) := by decide +kernel
theorem dX10_rests_81 : decode cX10_rests 81 = .ok (.iload_n 3, 1) := by decide +kernel
theorem dX10_rests_82 : decode cX10_rests 82 = .ok (.invokestatic 296, 3) := by decide +kernel
theorem dX10_rests_85 : decode cX10_rests 85 = .ok (.ifCond .eq 29, 3) := by decide +kernel
theorem dX10_rests_88 : decode cX10_rests 88 = .ok (.iload 8, 2) := by decide +kernel
theorem dX10_rests_90 : decode cX10_rests 90 = .ok (.iload 7, 2) := by decide +kernel
theorem dX10_rests_92 : decode cX10_rests 92 = .ok (.iload_n 1, 1) := by decide +kernel
theorem dX10_rests_93 : decode cX10_rests 93 = .ok (.iload_n 2, 1) := by decide +kernel
theorem dX10_rests_94 : decode cX10_rests 94 = .ok (.iload_n 3, 1) := by decide +kernel
theorem dX10_rests_95 : decode cX10_rests 95 = .ok (.invokestatic 296, 3) := by decide +kernel
theorem dX10_rests_98 : decode cX10_rests 98 = .ok (.ifCond .eq 16, 3) := by decide +kernel
theorem dX10_rests_101 : decode cX10_rests 101 = .ok (.iload 5, 2) := by decide +kernel
theorem dX10_rests_103 : decode cX10_rests 103 = .ok (.iload 4, 2) := by decide +kernel
theorem dX10_rests_105 : decode cX10_rests 105 = .ok (.if_icmp .ne 6, 3) := by decide +kernel
theorem dX10_rests_108 : decode cX10_rests 108 = .ok (.iload 6, 2) := by decide +kernel
theorem dX10_rests_110 : decode cX10_rests 110 = .ok (.ireturn, 1) := by decide +kernel
theorem dX10_rests_111 : decode cX10_rests 111 = .ok (.iinc 5 1, 3) := by decide +kernel
theorem dX10_rests_114 : decode cX10_rests 114 = .ok (.iinc 6 1, 3) := by decide +kernel
theorem dX10_rests_117 : decode cX10_rests 117 = .ok (.goto (-76), 3) := by decide +kernel
theorem dX10_rests_120 : decode cX10_rests 120 = .ok (.iload 4, 2) := by decide +kernel
theorem dX10_rests_122 : decode cX10_rests 122 = .ok (.iconst (-1), 1) := by decide +kernel
theorem dX10_rests_123 : decode cX10_rests 123 = .ok (.if_icmp .eq 11, 3) := by decide +kernel
theorem dX10_rests_126 : decode cX10_rests 126 = .ok (.new 293, 3) := by decide +kernel
theorem dX10_rests_129 : decode cX10_rests 129 = .ok (.dup, 1) := by decide +kernel
theorem dX10_rests_130 : decode cX10_rests 130 = .ok (.invokespecial 295, 3) := by decide +kernel
theorem dX10_rests_133 : decode cX10_rests 133 = .ok (.athrow, 1) := by decide +kernel
theorem dX10_rests_134 : decode cX10_rests 134 = .ok (.iload 5, 2) := by decide +kernel
theorem dX10_rests_136 : decode cX10_rests 136 = .ok (.ireturn, 1) := by decide +kernel
theorem dX10_isGain_0 : decode cX10_isGain 0 = .ok (.iload_n 0, 1) := by decide +kernel
theorem dX10_isGain_1 : decode cX10_isGain 1 = .ok (.ifCond .lt 13, 3) := by decide +kernel
theorem dX10_isGain_4 : decode cX10_isGain 4 = .ok (.iload_n 0, 1) := by decide +kernel
theorem dX10_isGain_5 : decode cX10_isGain 5 = .ok (.bipush 9, 2) := by decide +kernel
theorem dX10_isGain_7 : decode cX10_isGain 7 = .ok (.if_icmp .gt 7, 3) := by decide +kernel
theorem dX10_isGain_10 : decode cX10_isGain 10 = .ok (.iconst 1, 1) := by decide +kernel
theorem dX10_isGain_11 : decode cX10_isGain 11 = .ok (.goto 4, 3) := by decide +kernel
theorem dX10_isGain_14 : decode cX10_isGain 14 = .ok (.iconst 0, 1) := by decide +kernel
theorem dX10_isGain_15 : decode cX10_isGain 15 = .ok (.ireturn, 1) := by decide +kernel
theorem dX10_isContent_0 : decode cX10_isContent 0 = .ok (.iload_n 0, 1) := by decide +kernel
theorem dX10_isContent_1 : decode cX10_isContent 1 = .ok (.iload_n 1, 1) := by decide +kernel
theorem dX10_isContent_2 : decode cX10_isContent 2 = .ok (.iload_n 2, 1) := by decide +kernel
theorem dX10_isContent_3 : decode cX10_isContent 3 = .ok (.iload_n 3, 1) := by decide +kernel
theorem dX10_isContent_4 : decode cX10_isContent 4 = .ok (.iload 4, 2) := by decide +kernel
theorem dX10_isContent_6 : decode cX10_isContent 6 = .ok (.invokestatic 300, 3) := by decide +kernel
theorem dX10_isContent_9 : decode cX10_isContent 9 = .ok (.iload_n 0, 1) := by decide +kernel
theorem dX10_isContent_10 : decode cX10_isContent 10 = .ok (.ifCond .ne 7, 3) := by decide +kernel
theorem dX10_isContent_13 : decode cX10_isContent 13 = .ok (.iconst 1, 1) := by decide +kernel
theorem dX10_isContent_14 : decode cX10_isContent 14 = .ok (.goto 4, 3) := by decide +kernel
theorem dX10_isContent_17 : decode cX10_isContent 17 = .ok (.iconst 0, 1) := by decide +kernel
theorem dX10_isContent_18 : decode cX10_isContent 18 = .ok (.iload_n 1, 1) := by decide +kernel
theorem dX10_isContent_19 : decode cX10_isContent 19 = .ok (.iload_n 2, 1) := by decide +kernel
theorem dX10_isContent_20 : decode cX10_isContent 20 = .ok (.iload_n 3, 1) := by decide +kernel
theorem dX10_isContent_21 : decode cX10_isContent 21 = .ok (.iload 4, 2) := by decide +kernel
theorem dX10_isContent_23 : decode cX10_isContent 23 = .ok (.invokestatic 300, 3) := by decide +kernel
theorem dX10_isContent_26 : decode cX10_isContent 26 = .ok (.if_icmp .lt 7, 3) := by decide +kernel
theorem dX10_isContent_29 : decode cX10_isContent 29 = .ok (.iconst 1, 1) := by decide +kernel
theorem dX10_isContent_30 : decode cX10_isContent 30 = .ok (.goto 4, 3) := by decide +kernel
theorem dX10_isContent_33 : decode cX10_isContent 33 = .ok (.iconst 0, 1) := by decide +kernel
theorem dX10_isContent_34 : decode cX10_isContent 34 = .ok (.ireturn, 1) := by decide +kernel
theorem dX10_gainOf_0 : decode cX10_gainOf 0 = .ok (.iload_n 0, 1) := by decide +kernel
theorem dX10_gainOf_1 : decode cX10_gainOf 1 = .ok (.ifCond .eq 14, 3) := by decide +kernel
theorem dX10_gainOf_4 : decode cX10_gainOf 4 = .ok (.iload_n 1, 1) := by decide +kernel
theorem dX10_gainOf_5 : decode cX10_gainOf 5 = .ok (.ifCond .eq 8, 3) := by decide +kernel
theorem dX10_gainOf_8 : decode cX10_gainOf 8 = .ok (.iload_n 2, 1) := by decide +kernel
theorem dX10_gainOf_9 : decode cX10_gainOf 9 = .ok (.ineg, 1) := by decide +kernel
theorem dX10_gainOf_10 : decode cX10_gainOf 10 = .ok (.goto 4, 3) := by decide +kernel
theorem dX10_gainOf_13 : decode cX10_gainOf 13 = .ok (.iload_n 3, 1) := by decide +kernel
theorem dX10_gainOf_14 : decode cX10_gainOf 14 = .ok (.ireturn, 1) := by decide +kernel
theorem dX10_gainOf_15 : decode cX10_gainOf 15 = .ok (.iload_n 1, 1) := by decide +kernel
theorem dX10_gainOf_16 : decode cX10_gainOf 16 = .ok (.ifCond .eq 8, 3) := by decide +kernel
theorem dX10_gainOf_19 : decode cX10_gainOf 19 = .ok (.iload 4, 2) := by decide +kernel
theorem dX10_gainOf_21 : decode cX10_gainOf 21 = .ok (.goto 4, 3) := by decide +kernel
theorem dX10_gainOf_24 : decode cX10_gainOf 24 = .ok (.iconst 0, 1) := by decide +kernel
theorem dX10_gainOf_25 : decode cX10_gainOf 25 = .ok (.ireturn, 1) := by decide +kernel
theorem dX10_years_0 : decode cX10_years 0 = .ok (.iload_n 1, 1) := by decide +kernel
theorem dX10_years_1 : decode cX10_years 1 = .ok (.ifCond .lt 30, 3) := by decide +kernel
theorem dX10_years_4 : decode cX10_years 4 = .ok (.iload_n 1, 1) := by decide +kernel
theorem dX10_years_5 : decode cX10_years 5 = .ok (.sipush 9999, 3) := by decide +kernel
theorem dX10_years_8 : decode cX10_years 8 = .ok (.if_icmp .gt 23, 3) := by decide +kernel
theorem dX10_years_11 : decode cX10_years 11 = .ok (.iload_n 2, 1) := by decide +kernel
theorem dX10_years_12 : decode cX10_years 12 = .ok (.iconst 1, 1) := by decide +kernel
theorem dX10_years_13 : decode cX10_years 13 = .ok (.if_icmp .lt 18, 3) := by decide +kernel
theorem dX10_years_16 : decode cX10_years 16 = .ok (.iload_n 2, 1) := by decide +kernel
theorem dX10_years_17 : decode cX10_years 17 = .ok (.bipush 99, 2) := by decide +kernel
theorem dX10_years_19 : decode cX10_years 19 = .ok (.if_icmp .gt 12, 3) := by decide +kernel
theorem dX10_years_22 : decode cX10_years 22 = .ok (.iload_n 3, 1) := by decide +kernel
theorem dX10_years_23 : decode cX10_years 23 = .ok (.ifCond .lt 8, 3) := by decide +kernel
theorem dX10_years_26 : decode cX10_years 26 = .ok (.iload_n 3, 1) := by decide +kernel
theorem dX10_years_27 : decode cX10_years 27 = .ok (.iconst 2, 1) := by decide +kernel
theorem dX10_years_28 : decode cX10_years 28 = .ok (.if_icmp .le 5, 3) := by decide +kernel
theorem dX10_years_31 : decode cX10_years 31 = .ok (.iconst (-1), 1) := by decide +kernel
theorem dX10_years_32 : decode cX10_years 32 = .ok (.ireturn, 1) := by decide +kernel
theorem dX10_years_33 : decode cX10_years 33 = .ok (.aload_n 0, 1) := by decide +kernel
theorem dX10_years_34 : decode cX10_years 34 = .ok (.getfield 35, 3) := by decide +kernel
theorem dX10_years_37 : decode cX10_years 37 = .ok (.aload_n 0, 1) := by decide +kernel
theorem dX10_years_38 : decode cX10_years 38 = .ok (.getfield 31, 3) := by decide +kernel
theorem dX10_years_41 : decode cX10_years 41 = .ok (.invokevirtual 247, 3) := by decide +kernel
theorem dX10_years_44 : decode cX10_years 44 = .ok (.aload_n 0, 1) := by decide +kernel
theorem dX10_years_45 : decode cX10_years 45 = .ok (.getfield 72, 3) := by decide +kernel
theorem dX10_years_48 : decode cX10_years 48 = .ok (.iload_n 1, 1) := by decide +kernel
theorem dX10_years_49 : decode cX10_years 49 = .ok (.invokevirtual 304, 3) := by decide +kernel
theorem dX10_years_52 : decode cX10_years 52 = .ok (.iconst 0, 1) := by decide +kernel
theorem dX10_years_53 : decode cX10_years 53 = .ok (.istore 4, 2) := by decide +kernel
theorem dX10_years_55 : decode cX10_years 55 = .ok (.iconst 0, 1) := by decide +kernel
theorem dX10_years_56 : decode cX10_years 56 = .ok (.istore 5, 2) := by decide +kernel
theorem dX10_years_58 : decode cX10_years 58 = .ok (.iload 5, 2) := by decide +kernel
theorem dX10_years_60 : decode cX10_years 60 = .ok (.iload_n 2, 1) := by decide +kernel
theorem dX10_years_61 : decode cX10_years 61 = .ok (.if_icmp .ge 59, 3) := by decide +kernel
theorem dX10_years_64 : decode cX10_years 64 = .ok (.aload_n 0, 1) := by decide +kernel
theorem dX10_years_65 : decode cX10_years 65 = .ok (.getfield 19, 3) := by decide +kernel
theorem dX10_years_68 : decode cX10_years 68 = .ok (.getfield 278, 3) := by decide +kernel
theorem dX10_years_71 : decode cX10_years 71 = .ok (.ifCond .le 30, 3) := by decide +kernel
theorem dX10_years_74 : decode cX10_years 74 = .ok (.aload_n 0, 1) := by decide +kernel
theorem dX10_years_75 : decode cX10_years 75 = .ok (.getfield 19, 3) := by decide +kernel
theorem dX10_years_78 : decode cX10_years 78 = .ok (.getfield 268, 3) := by decide +kernel
theorem dX10_years_81 : decode cX10_years 81 = .ok (.ifCond .le 20, 3) := by decide +kernel
theorem dX10_years_84 : decode cX10_years 84 = .ok (.aload_n 0, 1) := by decide +kernel
theorem dX10_years_85 : decode cX10_years 85 = .ok (.getfield 35, 3) := by decide +kernel
theorem dX10_years_88 : decode cX10_years 88 = .ok (.aload_n 0, 1) := by decide +kernel
theorem dX10_years_89 : decode cX10_years 89 = .ok (.getfield 72, 3) := by decide +kernel
theorem dX10_years_92 : decode cX10_years 92 = .ok (.invokevirtual 307, 3) := by decide +kernel
theorem dX10_years_95 : decode cX10_years 95 = .ok (.ifCond .eq 6, 3) := by decide +kernel
theorem dX10_years_98 : decode cX10_years 98 = .ok (.iinc 4 1, 3) := by decide +kernel
theorem dX10_years_101 : decode cX10_years 101 = .ok (.aload_n 0, 1) := by decide +kernel
theorem dX10_years_102 : decode cX10_years 102 = .ok (.getfield 35, 3) := by decide +kernel
theorem dX10_years_105 : decode cX10_years 105 = .ok (.dup, 1) := by decide +kernel
theorem dX10_years_106 : decode cX10_years 106 = .ok (.getfield 195, 3) := by decide +kernel
theorem dX10_years_109 : decode cX10_years 109 = .ok (.iconst 1, 1) := by decide +kernel
theorem dX10_years_110 : decode cX10_years 110 = .ok (.iadd, 1) := by decide +kernel
theorem dX10_years_111 : decode cX10_years 111 = .ok (.putfield 195, 3) := by decide +kernel
theorem dX10_years_114 : decode cX10_years 114 = .ok (.iinc 5 1, 3) := by decide +kernel
theorem dX10_years_117 : decode cX10_years 117 = .ok (.goto (-59), 3) := by decide +kernel
theorem dX10_years_120 : decode cX10_years 120 = .ok (.iload_n 3, 1) := by decide +kernel
theorem dX10_years_121 : decode cX10_years 121 = .ok (.ifCond .ne 6, 3) := by decide +kernel
theorem dX10_years_124 : decode cX10_years 124 = .ok (.iload 4, 2) := by decide +kernel
theorem dX10_years_126 : decode cX10_years 126 = .ok (.ireturn, 1) := by decide +kernel
theorem dX10_years_127 : decode cX10_years 127 = .ok (.iload_n 3, 1) := by decide +kernel
theorem dX10_years_128 : decode cX10_years 128 = .ok (.iconst 1, 1) := by decide +kernel
theorem dX10_years_129 : decode cX10_years 129 = .ok (.if_icmp .ne 20, 3) := by decide +kernel
theorem dX10_years_132 : decode cX10_years 132 = .ok (.aload_n 0, 1) := by decide +kernel
theorem dX10_years_133 : decode cX10_years 133 = .ok (.getfield 35, 3) := by decide +kernel
theorem dX10_years_136 : decode cX10_years 136 = .ok (.aload_n 0, 1) := by decide +kernel
theorem dX10_years_137 : decode cX10_years 137 = .ok (.getfield 35, 3) := by decide +kernel
theorem dX10_years_140 : decode cX10_years 140 = .ok (.invokevirtual 134, 3) := by decide +kernel
theorem dX10_years_143 : decode cX10_years 143 = .ok (.invokevirtual 212, 3) := by decide +kernel
theorem dX10_years_146 : decode cX10_years 146 = .ok (.goto 10, 3) := by decide +kernel
theorem dX10_years_149 : decode cX10_years 149 = .ok (.aload_n 0, 1) := by decide +kernel
theorem dX10_years_150 : decode cX10_years 150 = .ok (.getfield 35, 3) := by decide +kernel
theorem dX10_years_153 : decode cX10_years 153 = .ok (.invokevirtual 311, 3) := by decide +kernel
theorem dX10_years_156 : decode cX10_years 156 = .ok (.ireturn, 1) := by decide +kernel
theorem dX10_mark_0 : decode cX10_mark 0 = .ok (.iload_n 1, 1) := by decide +kernel
theorem dX10_mark_1 : decode cX10_mark 1 = .ok (.ifCond .lt 8, 3) := by decide +kernel
theorem dX10_mark_4 : decode cX10_mark 4 = .ok (.iload_n 1, 1) := by decide +kernel
theorem dX10_mark_5 : decode cX10_mark 5 = .ok (.iconst 4, 1) := by decide +kernel
theorem dX10_mark_6 : decode cX10_mark 6 = .ok (.if_icmp .lt 5, 3) := by decide +kernel
theorem dX10_mark_9 : decode cX10_mark 9 = .ok (.iconst 0, 1) := by decide +kernel
theorem dX10_mark_10 : decode cX10_mark 10 = .ok (.ireturn, 1) := by decide +kernel
theorem dX10_mark_11 : decode cX10_mark 11 = .ok (.aload_n 0, 1) := by decide +kernel
theorem dX10_mark_12 : decode cX10_mark 12 = .ok (.getfield 78, 3) := by decide +kernel
theorem dX10_mark_15 : decode cX10_mark 15 = .ok (.iload_n 1, 1) := by decide +kernel
theorem dX10_mark_16 : decode cX10_mark 16 = .ok (.aaload, 1) := by decide +kernel
theorem dX10_mark_17 : decode cX10_mark 17 = .ok (.astore_n 3, 1) := by decide +kernel
theorem dX10_mark_18 : decode cX10_mark 18 = .ok (.iload_n 2, 1) := by decide +kernel
theorem dX10_mark_19 : decode cX10_mark 19 = .ok (.ifCond .ne 21, 3) := by decide +kernel
theorem dX10_mark_22 : decode cX10_mark 22 = .ok (.aload_n 3, 1) := by decide +kernel
theorem dX10_mark_23 : decode cX10_mark 23 = .ok (.aload_n 0, 1) := by decide +kernel
theorem dX10_mark_24 : decode cX10_mark 24 = .ok (.getfield 31, 3) := by decide +kernel
theorem dX10_mark_27 : decode cX10_mark 27 = .ok (.aload_n 0, 1) := by decide +kernel
theorem dX10_mark_28 : decode cX10_mark 28 = .ok (.getfield 41, 3) := by decide +kernel
theorem dX10_mark_31 : decode cX10_mark 31 = .ok (.aload_n 0, 1) := by decide +kernel
theorem dX10_mark_32 : decode cX10_mark 32 = .ok (.getfield 51, 3) := by decide +kernel
theorem dX10_mark_35 : decode cX10_mark 35 = .ok (.invokevirtual 314, 3) := by decide +kernel
theorem dX10_mark_38 : decode cX10_mark 38 = .ok (.iconst 1, 1) := by decide +kernel
theorem dX10_mark_39 : decode cX10_mark 39 = .ok (.ireturn, 1) := by decide +kernel
theorem dX10_mark_40 : decode cX10_mark 40 = .ok (.aload_n 3, 1) := by decide +kernel
theorem dX10_mark_41 : decode cX10_mark 41 = .ok (.getfield 107, 3) := by decide +kernel
theorem dX10_mark_44 : decode cX10_mark 44 = .ok (.ifCond .ne 5, 3) := by decide +kernel
theorem dX10_mark_47 : decode cX10_mark 47 = .ok (.iconst 0, 1) := by decide +kernel
theorem dX10_mark_48 : decode cX10_mark 48 = .ok (.ireturn, 1) := by decide +kernel
theorem dX10_mark_49 : decode cX10_mark 49 = .ok (.aload_n 0, 1) := by decide +kernel
theorem dX10_mark_50 : decode cX10_mark 50 = .ok (.getfield 31, 3) := by decide +kernel
theorem dX10_mark_53 : decode cX10_mark 53 = .ok (.aload_n 3, 1) := by decide +kernel
theorem dX10_mark_54 : decode cX10_mark 54 = .ok (.getfield 317, 3) := by decide +kernel
theorem dX10_mark_57 : decode cX10_mark 57 = .ok (.invokevirtual 247, 3) := by decide +kernel
theorem dX10_mark_60 : decode cX10_mark 60 = .ok (.aload_n 0, 1) := by decide +kernel
theorem dX10_mark_61 : decode cX10_mark 61 = .ok (.getfield 41, 3) := by decide +kernel
theorem dX10_mark_64 : decode cX10_mark 64 = .ok (.aload_n 3, 1) := by decide +kernel
theorem dX10_mark_65 : decode cX10_mark 65 = .ok (.getfield 320, 3) := by decide +kernel
theorem dX10_mark_68 : decode cX10_mark 68 = .ok (.invokevirtual 114, 3) := by decide +kernel
theorem dX10_mark_71 : decode cX10_mark 71 = .ok (.aload_n 0, 1) := by decide +kernel
theorem dX10_mark_72 : decode cX10_mark 72 = .ok (.getfield 51, 3) := by decide +kernel
theorem dX10_mark_75 : decode cX10_mark 75 = .ok (.aload_n 3, 1) := by decide +kernel
theorem dX10_mark_76 : decode cX10_mark 76 = .ok (.getfield 321, 3) := by decide +kernel
theorem dX10_mark_79 : decode cX10_mark 79 = .ok (.invokevirtual 322, 3) := by decide +kernel
theorem dX10_mark_82 : decode cX10_mark 82 = .ok (.aload_n 0, 1) := by decide +kernel
theorem dX10_mark_83 : decode cX10_mark 83 = .ok (.getfield 58, 3) := by decide +kernel
theorem dX10_mark_86 : decode cX10_mark 86 = .ok (.invokevirtual 106, 3) := by decide +kernel
theorem dX10_mark_89 : decode cX10_mark 89 = .ok (.iconst 1, 1) := by decide +kernel
theorem dX10_mark_90 : decode cX10_mark 90 = .ok (.ireturn, 1) := by decide +kernel
theorem dX10_count_0 : decode cX10_count 0 = .ok (.iload_n 1, 1) := by decide +kernel
theorem dX10_count_1 : decode cX10_count 1 = .ok (.tableswitch 166 0 11 #[63, 71, 79, 87, 95, 103, 111, 119, 134, 142, 150, 158], 63) := by decide +kernel
theorem dX10_count_64 : decode cX10_count 64 = .ok (.aload_n 0, 1) := by decide +kernel
theorem dX10_count_65 : decode cX10_count 65 = .ok (.getfield 19, 3) := by decide +kernel
theorem dX10_count_68 : decode cX10_count 68 = .ok (.getfield 268, 3) := by decide +kernel
theorem dX10_count_71 : decode cX10_count 71 = .ok (.ireturn, 1) := by decide +kernel
theorem dX10_count_72 : decode cX10_count 72 = .ok (.aload_n 0, 1) := by decide +kernel
theorem dX10_count_73 : decode cX10_count 73 = .ok (.getfield 19, 3) := by decide +kernel
theorem dX10_count_76 : decode cX10_count 76 = .ok (.getfield 278, 3) := by decide +kernel
theorem dX10_count_79 : decode cX10_count 79 = .ok (.ireturn, 1) := by decide +kernel
theorem dX10_count_80 : decode cX10_count 80 = .ok (.aload_n 0, 1) := by decide +kernel
theorem dX10_count_81 : decode cX10_count 81 = .ok (.getfield 31, 3) := by decide +kernel
theorem dX10_count_84 : decode cX10_count 84 = .ok (.getfield 195, 3) := by decide +kernel
theorem dX10_count_87 : decode cX10_count 87 = .ok (.ireturn, 1) := by decide +kernel
theorem dX10_count_88 : decode cX10_count 88 = .ok (.aload_n 0, 1) := by decide +kernel
theorem dX10_count_89 : decode cX10_count 89 = .ok (.getfield 31, 3) := by decide +kernel
theorem dX10_count_92 : decode cX10_count 92 = .ok (.invokevirtual 134, 3) := by decide +kernel
theorem dX10_count_95 : decode cX10_count 95 = .ok (.ireturn, 1) := by decide +kernel
theorem dX10_count_96 : decode cX10_count 96 = .ok (.aload_n 0, 1) := by decide +kernel
theorem dX10_count_97 : decode cX10_count 97 = .ok (.getfield 31, 3) := by decide +kernel
theorem dX10_count_100 : decode cX10_count 100 = .ok (.invokevirtual 311, 3) := by decide +kernel
theorem dX10_count_103 : decode cX10_count 103 = .ok (.ireturn, 1) := by decide +kernel
theorem dX10_count_104 : decode cX10_count 104 = .ok (.aload_n 0, 1) := by decide +kernel
theorem dX10_count_105 : decode cX10_count 105 = .ok (.getfield 31, 3) := by decide +kernel
theorem dX10_count_108 : decode cX10_count 108 = .ok (.invokevirtual 205, 3) := by decide +kernel
theorem dX10_count_111 : decode cX10_count 111 = .ok (.ireturn, 1) := by decide +kernel
theorem dX10_count_112 : decode cX10_count 112 = .ok (.aload_n 0, 1) := by decide +kernel
theorem dX10_count_113 : decode cX10_count 113 = .ok (.getfield 31, 3) := by decide +kernel
theorem dX10_count_116 : decode cX10_count 116 = .ok (.invokevirtual 325, 3) := by decide +kernel
theorem dX10_count_119 : decode cX10_count 119 = .ok (.ireturn, 1) := by decide +kernel
theorem dX10_count_120 : decode cX10_count 120 = .ok (.aload_n 0, 1) := by decide +kernel
theorem dX10_count_121 : decode cX10_count 121 = .ok (.getfield 31, 3) := by decide +kernel
theorem dX10_count_124 : decode cX10_count 124 = .ok (.aload_n 0, 1) := by decide +kernel
theorem dX10_count_125 : decode cX10_count 125 = .ok (.getfield 31, 3) := by decide +kernel
theorem dX10_count_128 : decode cX10_count 128 = .ok (.invokevirtual 134, 3) := by decide +kernel
theorem dX10_count_131 : decode cX10_count 131 = .ok (.invokevirtual 212, 3) := by decide +kernel
theorem dX10_count_134 : decode cX10_count 134 = .ok (.ireturn, 1) := by decide +kernel
theorem dX10_count_135 : decode cX10_count 135 = .ok (.aload_n 0, 1) := by decide +kernel
theorem dX10_count_136 : decode cX10_count 136 = .ok (.getfield 41, 3) := by decide +kernel
theorem dX10_count_139 : decode cX10_count 139 = .ok (.getfield 202, 3) := by decide +kernel
theorem dX10_count_142 : decode cX10_count 142 = .ok (.ireturn, 1) := by decide +kernel
theorem dX10_count_143 : decode cX10_count 143 = .ok (.aload_n 0, 1) := by decide +kernel
theorem dX10_count_144 : decode cX10_count 144 = .ok (.getfield 51, 3) := by decide +kernel
theorem dX10_count_147 : decode cX10_count 147 = .ok (.getfield 328, 3) := by decide +kernel
theorem dX10_count_150 : decode cX10_count 150 = .ok (.ireturn, 1) := by decide +kernel
theorem dX10_count_151 : decode cX10_count 151 = .ok (.aload_n 0, 1) := by decide +kernel
theorem dX10_count_152 : decode cX10_count 152 = .ok (.getfield 58, 3) := by decide +kernel
theorem dX10_count_155 : decode cX10_count 155 = .ok (.getfield 329, 3) := by decide +kernel
theorem dX10_count_158 : decode cX10_count 158 = .ok (.ireturn, 1) := by decide +kernel
theorem dX10_count_159 : decode cX10_count 159 = .ok (.aload_n 0, 1) := by decide +kernel
theorem dX10_count_160 : decode cX10_count 160 = .ok (.getfield 12, 3) := by decide +kernel
theorem dX10_count_163 : decode cX10_count 163 = .ok (.getfield 87, 3) := by decide +kernel
theorem dX10_count_166 : decode cX10_count 166 = .ok (.ireturn, 1) := by decide +kernel
theorem dX10_count_167 : decode cX10_count 167 = .ok (.iconst (-1), 1) := by decide +kernel
theorem dX10_count_168 : decode cX10_count 168 = .ok (.ireturn, 1) := by decide +kernel
theorem dX11_init_0 : decode cX11_init 0 = .ok (.aload_n 0, 1) := by decide +kernel
theorem dX11_init_1 : decode cX11_init 1 = .ok (.invokespecial 1, 3) := by decide +kernel
theorem dX11_init_4 : decode cX11_init 4 = .ok (.aload_n 0, 1) := by decide +kernel
theorem dX11_init_5 : decode cX11_init 5 = .ok (.sipush 1000, 3) := by decide +kernel
theorem dX11_init_8 : decode cX11_init 8 = .ok (.newarray .int, 2) := by decide +kernel
theorem dX11_init_10 : decode cX11_init 10 = .ok (.putfield 7, 3) := by decide +kernel
theorem dX11_init_13 : decode cX11_init 13 = .ok (.aload_n 0, 1) := by decide +kernel
theorem dX11_init_14 : decode cX11_init 14 = .ok (.bipush 6, 2) := by decide +kernel
theorem dX11_init_16 : decode cX11_init 16 = .ok (.newarray .int, 2) := by decide +kernel
theorem dX11_init_18 : decode cX11_init 18 = .ok (.putfield 13, 3) := by decide +kernel
theorem dX11_init_21 : decode cX11_init 21 = .ok (.aload_n 0, 1) := by decide +kernel
theorem dX11_init_22 : decode cX11_init 22 = .ok (.bipush 6, 2) := by decide +kernel
theorem dX11_init_24 : decode cX11_init 24 = .ok (.newarray .long, 2) := by decide +kernel
theorem dX11_init_26 : decode cX11_init 26 = .ok (.putfield 16, 3) := by decide +kernel
theorem dX11_init_29 : decode cX11_init 29 = .ok (.aload_n 0, 1) := by decide +kernel
theorem dX11_init_30 : decode cX11_init 30 = .ok (.bipush 12, 2) := by decide +kernel
theorem dX11_init_32 : decode cX11_init 32 = .ok (.newarray .long, 2) := by decide +kernel
theorem dX11_init_34 : decode cX11_init 34 = .ok (.putfield 20, 3) := by decide +kernel
theorem dX11_init_37 : decode cX11_init 37 = .ok (.aload_n 0, 1) := by decide +kernel
theorem dX11_init_38 : decode cX11_init 38 = .ok (.bipush 6, 2) := by decide +kernel
theorem dX11_init_40 : decode cX11_init 40 = .ok (.newarray .int, 2) := by decide +kernel
theorem dX11_init_42 : decode cX11_init 42 = .ok (.putfield 23, 3) := by decide +kernel
theorem dX11_init_45 : decode cX11_init 45 = .ok (.aload_n 0, 1) := by decide +kernel
theorem dX11_init_46 : decode cX11_init 46 = .ok (.bipush 6, 2) := by decide +kernel
theorem dX11_init_48 : decode cX11_init 48 = .ok (.newarray .int, 2) := by decide +kernel
theorem dX11_init_50 : decode cX11_init 50 = .ok (.putfield 26, 3) := by decide +kernel
theorem dX11_init_53 : decode cX11_init 53 = .ok (.aload_n 0, 1) := by decide +kernel
theorem dX11_init_54 : decode cX11_init 54 = .ok (.bipush 6, 2) := by decide +kernel
theorem dX11_init_56 : decode cX11_init 56 = .ok (.newarray .int, 2) := by decide +kernel
theorem dX11_init_58 : decode cX11_init 58 = .ok (.putfield 29, 3) := by decide +kernel
theorem dX11_init_61 : decode cX11_init 61 = .ok (.aload_n 0, 1) := by decide +kernel
theorem dX11_init_62 : decode cX11_init 62 = .ok (.bipush 12, 2) := by decide +kernel
theorem dX11_init_64 : decode cX11_init 64 = .ok (.newarray .int, 2) := by decide +kernel
theorem dX11_init_66 : decode cX11_init 66 = .ok (.putfield 32, 3) := by decide +kernel
theorem dX11_init_69 : decode cX11_init 69 = .ok (.aload_n 0, 1) := by decide +kernel
theorem dX11_init_70 : decode cX11_init 70 = .ok (.bipush 12, 2) := by decide +kernel
theorem dX11_init_72 : decode cX11_init 72 = .ok (.newarray .int, 2) := by decide +kernel
theorem dX11_init_74 : decode cX11_init 74 = .ok (.putfield 35, 3) := by decide +kernel
theorem dX11_init_77 : decode cX11_init 77 = .ok (.aload_n 0, 1) := by decide +kernel
theorem dX11_init_78 : decode cX11_init 78 = .ok (.bipush 12, 2) := by decide +kernel
theorem dX11_init_80 : decode cX11_init 80 = .ok (.newarray .int, 2) := by decide +kernel
theorem dX11_init_82 : decode cX11_init 82 = .ok (.putfield 38, 3) := by decide +kernel
theorem dX11_init_85 : decode cX11_init 85 = .ok (.aload_n 0, 1) := by decide +kernel
theorem dX11_init_86 : decode cX11_init 86 = .ok (.bipush 24, 2) := by decide +kernel
theorem dX11_init_88 : decode cX11_init 88 = .ok (.newarray .int, 2) := by decide +kernel
theorem dX11_init_90 : decode cX11_init 90 = .ok (.putfield 41, 3) := by decide +kernel
theorem dX11_init_93 : decode cX11_init 93 = .ok (.aload_n 0, 1) := by decide +kernel
theorem dX11_init_94 : decode cX11_init 94 = .ok (.iconst 2, 1) := by decide +kernel
theorem dX11_init_95 : decode cX11_init 95 = .ok (.newarray .int, 2) := by decide +kernel
theorem dX11_init_97 : decode cX11_init 97 = .ok (.putfield 44, 3) := by decide +kernel
theorem dX11_init_100 : decode cX11_init 100 = .ok (.aload_n 0, 1) := by decide +kernel
theorem dX11_init_101 : decode cX11_init 101 = .ok (.iconst 2, 1) := by decide +kernel
theorem dX11_init_102 : decode cX11_init 102 = .ok (.newarray .int, 2) := by decide +kernel
theorem dX11_init_104 : decode cX11_init 104 = .ok (.putfield 47, 3) := by decide +kernel
theorem dX11_init_107 : decode cX11_init 107 = .ok (.aload_n 0, 1) := by decide +kernel
theorem dX11_init_108 : decode cX11_init 108 = .ok (.sipush 2000, 3) := by decide +kernel
theorem dX11_init_111 : decode cX11_init 111 = .ok (.newarray .int, 2) := by decide +kernel
theorem dX11_init_113 : decode cX11_init 113 = .ok (.putfield 50, 3) := by decide +kernel
theorem dX11_init_116 : decode cX11_init 116 = .ok (.aload_n 0, 1) := by decide +kernel
theorem dX11_init_117 : decode cX11_init 117 = .ok (.bipush 7, 2) := by decide +kernel
theorem dX11_init_119 : decode cX11_init 119 = .ok (.newarray .int, 2) := by decide +kernel
theorem dX11_init_121 : decode cX11_init 121 = .ok (.putfield 53, 3) := by decide +kernel
theorem dX11_init_124 : decode cX11_init 124 = .ok (.aload_n 0, 1) := by decide +kernel
theorem dX11_init_125 : decode cX11_init 125 = .ok (.bipush 7, 2) := by decide +kernel
theorem dX11_init_127 : decode cX11_init 127 = .ok (.newarray .boolean, 2) := by decide +kernel
theorem dX11_init_129 : decode cX11_init 129 = .ok (.putfield 56, 3) := by decide +kernel
theorem dX11_init_132 : decode cX11_init 132 = .ok (.aload_n 0, 1) := by decide +kernel
theorem dX11_init_133 : decode cX11_init 133 = .ok (.bipush 7, 2) := by decide +kernel
theorem dX11_init_135 : decode cX11_init 135 = .ok (.newarray .int, 2) := by decide +kernel
theorem dX11_init_137 : decode cX11_init 137 = .ok (.putfield 60, 3) := by decide +kernel
theorem dX11_init_140 : decode cX11_init 140 = .ok (.aload_n 0, 1) := by decide +kernel
theorem dX11_init_141 : decode cX11_init 141 = .ok (.bipush 7, 2) := by decide +kernel
theorem dX11_init_143 : decode cX11_init 143 = .ok (.newarray .int, 2) := by decide +kernel
theorem dX11_init_145 : decode cX11_init 145 = .ok (.putfield 63, 3) := by decide +kernel
theorem dX11_init_148 : decode cX11_init 148 = .ok (.aload_n 0, 1) := by decide +kernel
theorem dX11_init_149 : decode cX11_init 149 = .ok (.bipush 7, 2) := by decide +kernel
theorem dX11_init_151 : decode cX11_init 151 = .ok (.newarray .int, 2) := by decide +kernel
theorem dX11_init_153 : decode cX11_init 153 = .ok (.putfield 66, 3) := by decide +kernel
theorem dX11_init_156 : decode cX11_init 156 = .ok (.aload_n 0, 1) := by decide +kernel
theorem dX11_init_157 : decode cX11_init 157 = .ok (.bipush 7, 2) := by decide +kernel
theorem dX11_init_159 : decode cX11_init 159 = .ok (.newarray .int, 2) := by decide +kernel
theorem dX11_init_161 : decode cX11_init 161 = .ok (.putfield 69, 3) := by decide +kernel
theorem dX11_init_164 : decode cX11_init 164 = .ok (.aload_n 0, 1) := by decide +kernel
theorem dX11_init_165 : decode cX11_init 165 = .ok (.bipush 7, 2) := by decide +kernel
theorem dX11_init_167 : decode cX11_init 167 = .ok (.newarray .int, 2) := by decide +kernel
theorem dX11_init_169 : decode cX11_init 169 = .ok (.putfield 72, 3) := by decide +kernel
theorem dX11_init_172 : decode cX11_init 172 = .ok (.aload_n 0, 1) := by decide +kernel
theorem dX11_init_173 : decode cX11_init 173 = .ok (.bipush 7, 2) := by decide +kernel
theorem dX11_init_175 : decode cX11_init 175 = .ok (.newarray .int, 2) := by decide +kernel
theorem dX11_init_177 : decode cX11_init 177 = .ok (.putfield 75, 3) := by decide +kernel
theorem dX11_init_180 : decode cX11_init 180 = .ok (.aload_n 0, 1) := by decide +kernel
theorem dX11_init_181 : decode cX11_init 181 = .ok (.bipush 7, 2) := by decide +kernel
theorem dX11_init_183 : decode cX11_init 183 = .ok (.newarray .int, 2) := by decide +kernel
theorem dX11_init_185 : decode cX11_init 185 = .ok (.putfield 78, 3) := by decide +kernel
theorem dX11_init_188 : decode cX11_init 188 = .ok (.aload_n 0, 1) := by decide +kernel
theorem dX11_init_189 : decode cX11_init 189 = .ok (.bipush 7, 2) := by decide +kernel
theorem dX11_init_191 : decode cX11_init 191 = .ok (.newarray .int, 2) := by decide +kernel
theorem dX11_init_193 : decode cX11_init 193 = .ok (.putfield 81, 3) := by decide +kernel
theorem dX11_init_196 : decode cX11_init 196 = .ok (.aload_n 0, 1) := by decide +kernel
theorem dX11_init_197 : decode cX11_init 197 = .ok (.bipush 7, 2) := by decide +kernel
theorem dX11_init_199 : decode cX11_init 199 = .ok (.newarray .int, 2) := by decide +kernel
theorem dX11_init_201 : decode cX11_init 201 = .ok (.putfield 84, 3) := by decide +kernel
theorem dX11_init_204 : decode cX11_init 204 = .ok (.aload_n 0, 1) := by decide +kernel
theorem dX11_init_205 : decode cX11_init 205 = .ok (.bipush 20, 2) := by decide +kernel
theorem dX11_init_207 : decode cX11_init 207 = .ok (.newarray .int, 2) := by decide +kernel
theorem dX11_init_209 : decode cX11_init 209 = .ok (.putfield 87, 3) := by decide +kernel
theorem dX11_init_212 : decode cX11_init 212 = .ok (.aload_n 0, 1) := by decide +kernel
theorem dX11_init_213 : decode cX11_init 213 = .ok (.bipush 6, 2) := by decide +kernel
theorem dX11_init_215 : decode cX11_init 215 = .ok (.newarray .int, 2) := by decide +kernel
theorem dX11_init_217 : decode cX11_init 217 = .ok (.putfield 90, 3) := by decide +kernel
theorem dX11_init_220 : decode cX11_init 220 = .ok (.aload_n 0, 1) := by decide +kernel
theorem dX11_init_221 : decode cX11_init 221 = .ok (.sipush 240, 3) := by decide +kernel
theorem dX11_init_224 : decode cX11_init 224 = .ok (.newarray .int, 2) := by decide +kernel
theorem dX11_init_226 : decode cX11_init 226 = .ok (.putfield 93, 3) := by decide +kernel
theorem dX11_init_229 : decode cX11_init 229 = .ok (.aload_n 0, 1) := by decide +kernel
theorem dX11_init_230 : decode cX11_init 230 = .ok (.sipush 240, 3) := by decide +kernel
theorem dX11_init_233 : decode cX11_init 233 = .ok (.newarray .int, 2) := by decide +kernel
theorem dX11_init_235 : decode cX11_init 235 = .ok (.putfield 96, 3) := by decide +kernel
theorem dX11_init_238 : decode cX11_init 238 = .ok (.aload_n 0, 1) := by decide +kernel
theorem dX11_init_239 : decode cX11_init 239 = .ok (.sipush 240, 3) := by decide +kernel
theorem dX11_init_242 : decode cX11_init 242 = .ok (.newarray .int, 2) := by decide +kernel
theorem dX11_init_244 : decode cX11_init 244 = .ok (.putfield 99, 3) := by decide +kernel
theorem dX11_init_247 : decode cX11_init 247 = .ok (.aload_n 0, 1) := by decide +kernel
theorem dX11_init_248 : decode cX11_init 248 = .ok (.sipush 240, 3) := by decide +kernel
theorem dX11_init_251 : decode cX11_init 251 = .ok (.newarray .int, 2) := by decide +kernel
theorem dX11_init_253 : decode cX11_init 253 = .ok (.putfield 102, 3) := by decide +kernel
theorem dX11_init_256 : decode cX11_init 256 = .ok (.aload_n 0, 1) := by decide +kernel
theorem dX11_init_257 : decode cX11_init 257 = .ok (.iconst 5, 1) := by decide +kernel
theorem dX11_init_258 : decode cX11_init 258 = .ok (.newarray .int, 2) := by decide +kernel
theorem dX11_init_260 : decode cX11_init 260 = .ok (.putfield 105, 3) := by decide +kernel
theorem dX11_init_263 : decode cX11_init 263 = .ok (.aload_n 0, 1) := by decide +kernel
theorem dX11_init_264 : decode cX11_init 264 = .ok (.bipush 40, 2) := by decide +kernel
theorem dX11_init_266 : decode cX11_init 266 = .ok (.newarray .int, 2) := by decide +kernel
theorem dX11_init_268 : decode cX11_init 268 = .ok (.putfield 108, 3) := by decide +kernel
theorem dX11_init_271 : decode cX11_init 271 = .ok (.aload_n 0, 1) := by decide +kernel
theorem dX11_init_272 : decode cX11_init 272 = .ok (.bipush 40, 2) := by decide +kernel
theorem dX11_init_274 : decode cX11_init 274 = .ok (.newarray .int, 2) := by decide +kernel
theorem dX11_init_276 : decode cX11_init 276 = .ok (.putfield 111, 3) := by decide +kernel
theorem dX11_init_279 : decode cX11_init 279 = .ok (.aload_n 0, 1) := by decide +kernel
theorem dX11_init_280 : decode cX11_init 280 = .ok (.bipush 40, 2) := by decide +kernel
theorem dX11_init_282 : decode cX11_init 282 = .ok (.newarray .int, 2) := by decide +kernel
theorem dX11_init_284 : decode cX11_init 284 = .ok (.putfield 114, 3) := by decide +kernel
theorem dX11_init_287 : decode cX11_init 287 = .ok (.aload_n 0, 1) := by decide +kernel
theorem dX11_init_288 : decode cX11_init 288 = .ok (.bipush 40, 2) := by decide +kernel
theorem dX11_init_290 : decode cX11_init 290 = .ok (.newarray .boolean, 2) := by decide +kernel
theorem dX11_init_292 : decode cX11_init 292 = .ok (.putfield 117, 3) := by decide +kernel
theorem dX11_init_295 : decode cX11_init 295 = .ok (.aload_n 0, 1) := by decide +kernel
theorem dX11_init_296 : decode cX11_init 296 = .ok (.bipush 25, 2) := by decide +kernel
theorem dX11_init_298 : decode cX11_init 298 = .ok (.newarray .int, 2) := by decide +kernel
theorem dX11_init_300 : decode cX11_init 300 = .ok (.putfield 120, 3) := by decide +kernel
theorem dX11_init_303 : decode cX11_init 303 = .ok (.aload_n 0, 1) := by decide +kernel
theorem dX11_init_304 : decode cX11_init 304 = .ok (.bipush 25, 2) := by decide +kernel
theorem dX11_init_306 : decode cX11_init 306 = .ok (.newarray .int, 2) := by decide +kernel
theorem dX11_init_308 : decode cX11_init 308 = .ok (.putfield 123, 3) := by decide +kernel
theorem dX11_init_311 : decode cX11_init 311 = .ok (.aload_n 0, 1) := by decide +kernel
theorem dX11_init_312 : decode cX11_init 312 = .ok (.bipush 25, 2) := by decide +kernel
theorem dX11_init_314 : decode cX11_init 314 = .ok (.newarray .int, 2) := by decide +kernel
theorem dX11_init_316 : decode cX11_init 316 = .ok (.putfield 126, 3) := by decide +kernel
theorem dX11_init_319 : decode cX11_init 319 = .ok (.aload_n 0, 1) := by decide +kernel
theorem dX11_init_320 : decode cX11_init 320 = .ok (.bipush 100, 2) := by decide +kernel
theorem dX11_init_322 : decode cX11_init 322 = .ok (.newarray .int, 2) := by decide +kernel
theorem dX11_init_324 : decode cX11_init 324 = .ok (.putfield 129, 3) := by decide +kernel
theorem dX11_init_327 : decode cX11_init 327 = .ok (.aload_n 0, 1) := by decide +kernel
theorem dX11_init_328 : decode cX11_init 328 = .ok (.sipush 400, 3) := by decide +kernel
theorem dX11_init_331 : decode cX11_init 331 = .ok (.newarray .int, 2) := by decide +kernel
theorem dX11_init_333 : decode cX11_init 333 = .ok (.putfield 132, 3) := by decide +kernel
theorem dX11_init_336 : decode cX11_init 336 = .ok (.aload_n 0, 1) := by decide +kernel
theorem dX11_init_337 : decode cX11_init 337 = .ok (.iconst 4, 1) := by decide +kernel
theorem dX11_init_338 : decode cX11_init 338 = .ok (.newarray .boolean, 2) := by decide +kernel
theorem dX11_init_340 : decode cX11_init 340 = .ok (.putfield 135, 3) := by decide +kernel
theorem dX11_init_343 : decode cX11_init 343 = .ok (.aload_n 0, 1) := by decide +kernel
theorem dX11_init_344 : decode cX11_init 344 = .ok (.bipush 6, 2) := by decide +kernel
theorem dX11_init_346 : decode cX11_init 346 = .ok (.newarray .int, 2) := by decide +kernel
theorem dX11_init_348 : decode cX11_init 348 = .ok (.putfield 138, 3) := by decide +kernel
theorem dX11_init_351 : decode cX11_init 351 = .ok (.aload_n 0, 1) := by decide +kernel
theorem dX11_init_352 : decode cX11_init 352 = .ok (.bipush 6, 2) := by decide +kernel
theorem dX11_init_354 : decode cX11_init 354 = .ok (.newarray .int, 2) := by decide +kernel
theorem dX11_init_356 : decode cX11_init 356 = .ok (.putfield 141, 3) := by decide +kernel
theorem dX11_init_359 : decode cX11_init 359 = .ok (.return_, 1) := by decide +kernel
theorem dX11_thrown_0 : decode cX11_thrown 0 = .ok (.aload_n 0, 1) := by decide +kernel
theorem dX11_thrown_1 : decode cX11_thrown 1 = .ok (.getfield 144, 3) := by decide +kernel
theorem dX11_thrown_4 : decode cX11_thrown 4 = .ok (.ireturn, 1) := by decide +kernel
theorem dX11_within_0 : decode cX11_within 0 = .ok (.iload_n 0, 1) := by decide +kernel
theorem dX11_within_1 : decode cX11_within 1 = .ok (.iload_n 1, 1) := by decide +kernel
theorem dX11_within_2 : decode cX11_within 2 = .ok (.if_icmp .lt 12, 3) := by decide +kernel
theorem dX11_within_5 : decode cX11_within 5 = .ok (.iload_n 0, 1) := by decide +kernel
theorem dX11_within_6 : decode cX11_within 6 = .ok (.iload_n 2, 1) := by decide +kernel
theorem dX11_within_7 : decode cX11_within 7 = .ok (.if_icmp .gt 7, 3) := by decide +kernel
theorem dX11_within_10 : decode cX11_within 10 = .ok (.iconst 1, 1) := by decide +kernel
theorem dX11_within_11 : decode cX11_within 11 = .ok (.goto 4, 3) := by decide +kernel
theorem dX11_within_14 : decode cX11_within 14 = .ok (.iconst 0, 1) := by decide +kernel
theorem dX11_within_15 : decode cX11_within 15 = .ok (.ireturn, 1) := by decide +kernel
theorem dX11_bits_0 : decode cX11_bits 0 = .ok (.iconst 0, 1) := by decide +kernel
theorem dX11_bits_1 : decode cX11_bits 1 = .ok (.istore_n 1, 1) := by decide +kernel
theorem dX11_bits_2 : decode cX11_bits 2 = .ok (.iconst 0, 1) := by decide +kernel
theorem dX11_bits_3 : decode cX11_bits 3 = .ok (.istore_n 2, 1) := by decide +kernel
theorem dX11_bits_4 : decode cX11_bits 4 = .ok (.iload_n 2, 1) := by decide +kernel
theorem dX11_bits_5 : decode cX11_bits 5 = .ok (.bipush 6, 2) := by decide +kernel
theorem dX11_bits_7 : decode cX11_bits 7 = .ok (.if_icmp .ge 17, 3) := by decide +kernel
theorem dX11_bits_10 : decode cX11_bits 10 = .ok (.iload_n 1, 1) := by decide +kernel
theorem dX11_bits_11 : decode cX11_bits 11 = .ok (.iload_n 0, 1) := by decide +kernel
theorem dX11_bits_12 : decode cX11_bits 12 = .ok (.iload_n 2, 1) := by decide +kernel
theorem dX11_bits_13 : decode cX11_bits 13 = .ok (.ishr, 1) := by decide +kernel
theorem dX11_bits_14 : decode cX11_bits 14 = .ok (.iconst 1, 1) := by decide +kernel
theorem dX11_bits_15 : decode cX11_bits 15 = .ok (.iand, 1) := by decide +kernel
theorem dX11_bits_16 : decode cX11_bits 16 = .ok (.iadd, 1) := by decide +kernel
theorem dX11_bits_17 : decode cX11_bits 17 = .ok (.istore_n 1, 1) := by decide +kernel
theorem dX11_bits_18 : decode cX11_bits 18 = .ok (.iinc 2 1, 3) := by decide +kernel
theorem dX11_bits_21 : decode cX11_bits 21 = .ok (.goto (-17), 3) := by decide +kernel
theorem dX11_bits_24 : decode cX11_bits 24 = .ok (.iload_n 1, 1) := by decide +kernel
theorem dX11_bits_25 : decode cX11_bits 25 = .ok (.ireturn, 1) := by decide +kernel
theorem dX11_feed_0 : decode cX11_feed 0 = .ok (.aload_n 0, 1) := by decide +kernel
theorem dX11_feed_1 : decode cX11_feed 1 = .ok (.iconst 0, 1) := by decide +kernel
theorem dX11_feed_2 : decode cX11_feed 2 = .ok (.putfield 144, 3) := by decide +kernel
theorem dX11_feed_5 : decode cX11_feed 5 = .ok (.iconst 0, 1) := by decide +kernel
theorem dX11_feed_6 : decode cX11_feed 6 = .ok (.istore 7, 2) := by decide +kernel
theorem dX11_feed_8 : decode cX11_feed 8 = .ok (.iload 7, 2) := by decide +kernel
theorem dX11_feed_10 : decode cX11_feed 10 = .ok (.bipush 24, 2) := by decide +kernel
theorem dX11_feed_12 : decode cX11_feed 12 = .ok (.if_icmp .ge 108, 3) := by decide +kernel
theorem dX11_feed_15 : decode cX11_feed 15 = .ok (.iload 7, 2) := by decide +kernel
theorem dX11_feed_17 : decode cX11_feed 17 = .ok (.bipush 8, 2) := by decide +kernel
theorem dX11_feed_19 : decode cX11_feed 19 = .ok (.if_icmp .ge 7, 3) := by decide +kernel
theorem dX11_feed_22 : decode cX11_feed 22 = .ok (.lload_n 1, 1) := by decide +kernel
theorem dX11_feed_23 : decode cX11_feed 23 = .ok (.goto 16, 3) := by decide +kernel
theorem dX11_feed_26 : decode cX11_feed 26 = .ok (.iload 7, 2) := by decide +kernel
theorem dX11_feed_28 : decode cX11_feed 28 = .ok (.bipush 16, 2) := by decide +kernel
theorem dX11_feed_30 : decode cX11_feed 30 = .ok (.if_icmp .ge 7, 3) := by decide +kernel
theorem dX11_feed_33 : decode cX11_feed 33 = .ok (.lload_n 3, 1) := by decide +kernel
theorem dX11_feed_34 : decode cX11_feed 34 = .ok (.goto 5, 3) := by decide +kernel
theorem dX11_feed_37 : decode cX11_feed 37 = .ok (.lload 5, 2) := by decide +kernel
theorem dX11_feed_39 : decode cX11_feed 39 = .ok (.lstore 8, 2) := by decide +kernel
theorem dX11_feed_41 : decode cX11_feed 41 = .ok (.lload 8, 2) := by decide +kernel
theorem dX11_feed_43 : decode cX11_feed 43 = .ok (.bipush 56, 2) := by decide +kernel
theorem dX11_feed_45 : decode cX11_feed 45 = .ok (.bipush 8, 2) := by decide +kernel
theorem dX11_feed_47 : decode cX11_feed 47 = .ok (.iload 7, 2) := by decide +kernel
theorem dX11_feed_49 : decode cX11_feed 49 = .ok (.bipush 7, 2) := by decide +kernel
theorem dX11_feed_51 : decode cX11_feed 51 = .ok (.iand, 1) := by decide +kernel
theorem dX11_feed_52 : decode cX11_feed 52 = .ok (.imul, 1) := by decide +kernel
theorem dX11_feed_53 : decode cX11_feed 53 = .ok (.isub, 1) := by decide +kernel
theorem dX11_feed_54 : decode cX11_feed 54 = .ok (.lushr, 1) := by decide +kernel
theorem dX11_feed_55 : decode cX11_feed 55 = .ok (.ldc2_w 148, 3) := by decide +kernel
theorem dX11_feed_58 : decode cX11_feed 58 = .ok (.land, 1) := by decide +kernel
theorem dX11_feed_59 : decode cX11_feed 59 = .ok (.l2i, 1) := by decide +kernel
theorem dX11_feed_60 : decode cX11_feed 60 = .ok (.istore 10, 2) := by decide +kernel
theorem dX11_feed_62 : decode cX11_feed 62 = .ok (.aload_n 0, 1) := by decide +kernel
theorem dX11_feed_63 : decode cX11_feed 63 = .ok (.getfield 150, 3) := by decide +kernel
theorem dX11_feed_66 : decode cX11_feed 66 = .ok (.sipush 1000, 3) := by decide +kernel
theorem dX11_feed_69 : decode cX11_feed 69 = .ok (.if_icmp .ge 45, 3) := by decide +kernel
theorem dX11_feed_72 : decode cX11_feed 72 = .ok (.iload 10, 2) := by decide +kernel
theorem dX11_feed_74 : decode cX11_feed 74 = .ok (.bipush 10, 2) := by decide +kernel
theorem dX11_feed_76 : decode cX11_feed 76 = .ok (.if_icmp .eq 17, 3) := by decide +kernel
theorem dX11_feed_79 : decode cX11_feed 79 = .ok (.iload 10, 2) := by decide +kernel
theorem dX11_feed_81 : decode cX11_feed 81 = .ok (.bipush 32, 2) := by decide +kernel
theorem dX11_feed_83 : decode cX11_feed 83 = .ok (.if_icmp .lt 31, 3) := by decide +kernel
theorem dX11_feed_86 : decode cX11_feed 86 = .ok (.iload 10, 2) := by decide +kernel
theorem dX11_feed_88 : decode cX11_feed 88 = .ok (.bipush 126, 2) := by decide +kernel
theorem dX11_feed_90 : decode cX11_feed 90 = .ok (.if_icmp .gt 24, 3) := by decide +kernel
theorem dX11_feed_93 : decode cX11_feed 93 = .ok (.aload_n 0, 1) := by decide +kernel
theorem dX11_feed_94 : decode cX11_feed 94 = .ok (.getfield 7, 3) := by decide +kernel
theorem dX11_feed_97 : decode cX11_feed 97 = .ok (.aload_n 0, 1) := by decide +kernel
theorem dX11_feed_98 : decode cX11_feed 98 = .ok (.getfield 150, 3) := by decide +kernel
theorem dX11_feed_101 : decode cX11_feed 101 = .ok (.iload 10, 2) := by decide +kernel
theorem dX11_feed_103 : decode cX11_feed 103 = .ok (.iastore, 1) := by decide +kernel
theorem dX11_feed_104 : decode cX11_feed 104 = .ok (.aload_n 0, 1) := by decide +kernel
theorem dX11_feed_105 : decode cX11_feed 105 = .ok (.dup, 1) := by decide +kernel
theorem dX11_feed_106 : decode cX11_feed 106 = .ok (.getfield 150, 3) := by decide +kernel
theorem dX11_feed_109 : decode cX11_feed 109 = .ok (.iconst 1, 1) := by decide +kernel
theorem dX11_feed_110 : decode cX11_feed 110 = .ok (.iadd, 1) := by decide +kernel
theorem dX11_feed_111 : decode cX11_feed 111 = .ok (.putfield 150, 3) := by decide +kernel
theorem dX11_feed_114 : decode cX11_feed 114 = .ok (.iinc 7 1, 3) := by decide +kernel
theorem dX11_feed_117 : decode cX11_feed 117 = .ok (.goto (-109), 3) := by decide +kernel
theorem dX11_feed_120 : decode cX11_feed 120 = .ok (.aload_n 0, 1) := by decide +kernel
theorem dX11_feed_121 : decode cX11_feed 121 = .ok (.getfield 150, 3) := by decide +kernel
theorem dX11_feed_124 : decode cX11_feed 124 = .ok (.ireturn, 1) := by decide +kernel
theorem dX11_signAt_0 : decode cX11_signAt 0 = .ok (.iload_n 1, 1) := by decide +kernel
theorem dX11_signAt_1 : decode cX11_signAt 1 = .ok (.aload_n 0, 1) := by decide +kernel
theorem dX11_signAt_2 : decode cX11_signAt 2 = .ok (.getfield 153, 3) := by decide +kernel
theorem dX11_signAt_5 : decode cX11_signAt 5 = .ok (.if_icmp .ge 12, 3) := by decide +kernel
theorem dX11_signAt_8 : decode cX11_signAt 8 = .ok (.aload_n 0, 1) := by decide +kernel
theorem dX11_signAt_9 : decode cX11_signAt 9 = .ok (.getfield 7, 3) := by decide +kernel
theorem dX11_signAt_12 : decode cX11_signAt 12 = .ok (.iload_n 1, 1) := by decide +kernel
theorem dX11_signAt_13 : decode cX11_signAt 13 = .ok (.iaload, 1) := by decide +kernel
theorem dX11_signAt_14 : decode cX11_signAt 14 = .ok (.goto 4, 3) := by decide +kernel
theorem dX11_signAt_17 : decode cX11_signAt 17 = .ok (.iconst 0, 1) := by decide +kernel
theorem dX11_signAt_18 : decode cX11_signAt 18 = .ok (.ireturn, 1) := by decide +kernel
theorem dX11_nextToken_0 : decode cX11_nextToken 0 = .ok (.aload_n 0, 1) := by decide +kernel
theorem dX11_nextToken_1 : decode cX11_nextToken 1 = .ok (.getfield 156, 3) := by decide +kernel
theorem dX11_nextToken_4 : decode cX11_nextToken 4 = .ok (.aload_n 0, 1) := by decide +kernel
theorem dX11_nextToken_5 : decode cX11_nextToken 5 = .ok (.getfield 153, 3) := by decide +kernel
theorem dX11_nextToken_8 : decode cX11_nextToken 8 = .ok (.if_icmp .ge 44, 3) := by decide +kernel
theorem dX11_nextToken_11 : decode cX11_nextToken 11 = .ok (.aload_n 0, 1) := by decide +kernel
theorem dX11_nextToken_12 : decode cX11_nextToken 12 = .ok (.getfield 7, 3) := by decide +kernel
theorem dX11_nextToken_15 : decode cX11_nextToken 15 = .ok (.aload_n 0, 1) := by decide +kernel
theorem dX11_nextToken_16 : decode cX11_nextToken 16 = .ok (.getfield 156, 3) := by decide +kernel
theorem dX11_nextToken_19 : decode cX11_nextToken 19 = .ok (.iaload, 1) := by decide +kernel
theorem dX11_nextToken_20 : decode cX11_nextToken 20 = .ok (.bipush 32, 2) := by decide +kernel
theorem dX11_nextToken_22 : decode cX11_nextToken 22 = .ok (.if_icmp .eq 17, 3) := by decide +kernel
theorem dX11_nextToken_25 : decode cX11_nextToken 25 = .ok (.aload_n 0, 1) := by decide +kernel
theorem dX11_nextToken_26 : decode cX11_nextToken 26 = .ok (.getfield 7, 3) := by decide +kernel
theorem dX11_nextToken_29 : decode cX11_nextToken 29 = .ok (.aload_n 0, 1) := by decide +kernel
theorem dX11_nextToken_30 : decode cX11_nextToken 30 = .ok (.getfield 156, 3) := by decide +kernel
theorem dX11_nextToken_33 : decode cX11_nextToken 33 = .ok (.iaload, 1) := by decide +kernel
theorem dX11_nextToken_34 : decode cX11_nextToken 34 = .ok (.bipush 10, 2) := by decide +kernel
theorem dX11_nextToken_36 : decode cX11_nextToken 36 = .ok (.if_icmp .ne 16, 3) := by decide +kernel
theorem dX11_nextToken_39 : decode cX11_nextToken 39 = .ok (.aload_n 0, 1) := by decide +kernel
theorem dX11_nextToken_40 : decode cX11_nextToken 40 = .ok (.dup, 1) := by decide +kernel
theorem dX11_nextToken_41 : decode cX11_nextToken 41 = .ok (.getfield 156, 3) := by decide +kernel
theorem dX11_nextToken_44 : decode cX11_nextToken 44 = .ok (.iconst 1, 1) := by decide +kernel
theorem dX11_nextToken_45 : decode cX11_nextToken 45 = .ok (.iadd, 1) := by decide +kernel
theorem dX11_nextToken_46 : decode cX11_nextToken 46 = .ok (.putfield 156, 3) := by decide +kernel
theorem dX11_nextToken_49 : decode cX11_nextToken 49 = .ok (.goto (-49), 3) := by decide +kernel
theorem dX11_nextToken_52 : decode cX11_nextToken 52 = .ok (.aload_n 0, 1) := by decide +kernel
theorem dX11_nextToken_53 : decode cX11_nextToken 53 = .ok (.aload_n 0, 1) := by decide +kernel
theorem dX11_nextToken_54 : decode cX11_nextToken 54 = .ok (.getfield 156, 3) := by decide +kernel
theorem dX11_nextToken_57 : decode cX11_nextToken 57 = .ok (.putfield 159, 3) := by decide +kernel
theorem dX11_nextToken_60 : decode cX11_nextToken 60 = .ok (.aload_n 0, 1) := by decide +kernel
theorem dX11_nextToken_61 : decode cX11_nextToken 61 = .ok (.lconst 0, 1) := by decide +kernel
theorem dX11_nextToken_62 : decode cX11_nextToken 62 = .ok (.putfield 162, 3) := by decide +kernel
theorem dX11_nextToken_65 : decode cX11_nextToken 65 = .ok (.aload_n 0, 1) := by decide +kernel
theorem dX11_nextToken_66 : decode cX11_nextToken 66 = .ok (.iconst 0, 1) := by decide +kernel
theorem dX11_nextToken_67 : decode cX11_nextToken 67 = .ok (.putfield 166, 3) := by decide +kernel
theorem dX11_nextToken_70 : decode cX11_nextToken 70 = .ok (.aload_n 0, 1) := by decide +kernel
theorem dX11_nextToken_71 : decode cX11_nextToken 71 = .ok (.getfield 156, 3) := by decide +kernel
theorem dX11_nextToken_74 : decode cX11_nextToken 74 = .ok (.aload_n 0, 1) := by decide +kernel
theorem dX11_nextToken_75 : decode cX11_nextToken 75 = .ok (.getfield 153, 3) := by decide +kernel
theorem dX11_nextToken_78 : decode cX11_nextToken 78 = .ok (.if_icmp .ne 9, 3) := by decide +kernel
theorem dX11_nextToken_81 : decode cX11_nextToken 81 = .ok (.aload_n 0, 1) := by decide +kernel
theorem dX11_nextToken_82 : decode cX11_nextToken 82 = .ok (.iconst 0, 1) := by decide +kernel
theorem dX11_nextToken_83 : decode cX11_nextToken 83 = .ok (.putfield 169, 3) := by decide +kernel
theorem dX11_nextToken_86 : decode cX11_nextToken 86 = .ok (.return_, 1) := by decide +kernel
theorem dX11_nextToken_87 : decode cX11_nextToken 87 = .ok (.aload_n 0, 1) := by decide +kernel
theorem dX11_nextToken_88 : decode cX11_nextToken 88 = .ok (.getfield 7, 3) := by decide +kernel
theorem dX11_nextToken_91 : decode cX11_nextToken 91 = .ok (.aload_n 0, 1) := by decide +kernel
theorem dX11_nextToken_92 : decode cX11_nextToken 92 = .ok (.getfield 156, 3) := by decide +kernel
theorem dX11_nextToken_95 : decode cX11_nextToken 95 = .ok (.iaload, 1) := by decide +kernel
theorem dX11_nextToken_96 : decode cX11_nextToken 96 = .ok (.istore_n 1, 1) := by decide +kernel
theorem dX11_nextToken_97 : decode cX11_nextToken 97 = .ok (.iload_n 1, 1) := by decide +kernel
theorem dX11_nextToken_98 : decode cX11_nextToken 98 = .ok (.bipush 97, 2) := by decide +kernel
theorem dX11_nextToken_100 : decode cX11_nextToken 100 = .ok (.if_icmp .lt 112, 3) := by decide +kernel
theorem dX11_nextToken_103 : decode cX11_nextToken 103 = .ok (.iload_n 1, 1) := by decide +kernel
theorem dX11_nextToken_104 : decode cX11_nextToken 104 = .ok (.bipush 122, 2) := by decide +kernel
theorem dX11_nextToken_106 : decode cX11_nextToken 106 = .ok (.if_icmp .gt 106, 3) := by decide +kernel
theorem dX11_nextToken_109 : decode cX11_nextToken 109 = .ok (.aload_n 0, 1) := by decide +kernel
theorem dX11_nextToken_110 : decode cX11_nextToken 110 = .ok (.aload_n 0, 1) := by decide +kernel
theorem dX11_nextToken_111 : decode cX11_nextToken 111 = .ok (.getfield 156, 3) := by decide +kernel
theorem dX11_nextToken_114 : decode cX11_nextToken 114 = .ok (.invokevirtual 172, 3) := by decide +kernel
theorem dX11_nextToken_117 : decode cX11_nextToken 117 = .ok (.bipush 97, 2) := by decide +kernel
theorem dX11_nextToken_119 : decode cX11_nextToken 119 = .ok (.if_icmp .lt 69, 3) := by decide +kernel
theorem dX11_nextToken_122 : decode cX11_nextToken 122 = .ok (.aload_n 0, 1) := by decide +kernel
theorem dX11_nextToken_123 : decode cX11_nextToken 123 = .ok (.aload_n 0, 1) := by decide +kernel
theorem dX11_nextToken_124 : decode cX11_nextToken 124 = .ok (.getfield 156, 3) := by decide +kernel
theorem dX11_nextToken_127 : decode cX11_nextToken 127 = .ok (.invokevirtual 172, 3) := by decide +kernel
theorem dX11_nextToken_130 : decode cX11_nextToken 130 = .ok (.bipush 122, 2) := by decide +kernel
theorem dX11_nextToken_132 : decode cX11_nextToken 132 = .ok (.if_icmp .gt 56, 3) := by decide +kernel
theorem dX11_nextToken_135 : decode cX11_nextToken 135 = .ok (.aload_n 0, 1) := by decide +kernel
theorem dX11_nextToken_136 : decode cX11_nextToken 136 = .ok (.getfield 156, 3) := by decide +kernel
theorem dX11_nextToken_139 : decode cX11_nextToken 139 = .ok (.aload_n 0, 1) := by decide +kernel
theorem dX11_nextToken_140 : decode cX11_nextToken 140 = .ok (.getfield 159, 3) := by decide +kernel
theorem dX11_nextToken_143 : decode cX11_nextToken 143 = .ok (.isub, 1) := by decide +kernel
theorem dX11_nextToken_144 : decode cX11_nextToken 144 = .ok (.bipush 8, 2) := by decide +kernel
theorem dX11_nextToken_146 : decode cX11_nextToken 146 = .ok (.if_icmp .ge 29, 3) := by decide +kernel
theorem dX11_nextToken_149 : decode cX11_nextToken 149 = .ok (.aload_n 0, 1) := by decide +kernel
theorem dX11_nextToken_150 : decode cX11_nextToken 150 = .ok (.aload_n 0, 1) := by decide +kernel
theorem dX11_nextToken_151 : decode cX11_nextToken 151 = .ok (.getfield 162, 3) := by decide +kernel
theorem dX11_nextToken_154 : decode cX11_nextToken 154 = .ok (.ldc2_w 176, 3) := by decide +kernel
theorem dX11_nextToken_157 : decode cX11_nextToken 157 = .ok (.lmul, 1) := by decide +kernel
theorem dX11_nextToken_158 : decode cX11_nextToken 158 = .ok (.aload_n 0, 1) := by decide +kernel
theorem dX11_nextToken_159 : decode cX11_nextToken 159 = .ok (.aload_n 0, 1) := by decide +kernel
theorem dX11_nextToken_160 : decode cX11_nextToken 160 = .ok (.getfield 156, 3) := by decide +kernel
theorem dX11_nextToken_163 : decode cX11_nextToken 163 = .ok (.invokevirtual 172, 3) := by decide +kernel
theorem dX11_nextToken_166 : decode cX11_nextToken 166 = .ok (.i2l, 1) := by decide +kernel
theorem dX11_nextToken_167 : decode cX11_nextToken 167 = .ok (.ladd, 1) := by decide +kernel
theorem dX11_nextToken_168 : decode cX11_nextToken 168 = .ok (.ldc2_w 178, 3) := by decide +kernel
theorem dX11_nextToken_171 : decode cX11_nextToken 171 = .ok (.lsub, 1) := by decide +kernel
theorem dX11_nextToken_172 : decode cX11_nextToken 172 = .ok (.putfield 162, 3) := by decide +kernel
theorem dX11_nextToken_175 : decode cX11_nextToken 175 = .ok (.aload_n 0, 1) := by decide +kernel
theorem dX11_nextToken_176 : decode cX11_nextToken 176 = .ok (.dup, 1) := by decide +kernel
theorem dX11_nextToken_177 : decode cX11_nextToken 177 = .ok (.getfield 156, 3) := by decide +kernel
theorem dX11_nextToken_180 : decode cX11_nextToken 180 = .ok (.iconst 1, 1) := by decide +kernel
theorem dX11_nextToken_181 : decode cX11_nextToken 181 = .ok (.iadd, 1) := by decide +kernel
theorem dX11_nextToken_182 : decode cX11_nextToken 182 = .ok (.putfield 156, 3) := by decide +kernel
theorem dX11_nextToken_185 : decode cX11_nextToken 185 = .ok (.goto (-76), 3) := by decide +kernel
theorem dX11_nextToken_188 : decode cX11_nextToken 188 = .ok (.aload_n 0, 1) := by decide +kernel
theorem dX11_nextToken_189 : decode cX11_nextToken 189 = .ok (.aload_n 0, 1) := by decide +kernel
theorem dX11_nextToken_190 : decode cX11_nextToken 190 = .ok (.getfield 156, 3) := by decide +kernel
theorem dX11_nextToken_193 : decode cX11_nextToken 193 = .ok (.aload_n 0, 1) := by decide +kernel
theorem dX11_nextToken_194 : decode cX11_nextToken 194 = .ok (.getfield 159, 3) := by decide +kernel
theorem dX11_nextToken_197 : decode cX11_nextToken 197 = .ok (.isub, 1) := by decide +kernel
theorem dX11_nextToken_198 : decode cX11_nextToken 198 = .ok (.bipush 8, 2) := by decide +kernel
theorem dX11_nextToken_200 : decode cX11_nextToken 200 = .ok (.if_icmp .le 7, 3) := by decide +kernel
theorem dX11_nextToken_203 : decode cX11_nextToken 203 = .ok (.iconst 4, 1) := by decide +kernel
theorem dX11_nextToken_204 : decode cX11_nextToken 204 = .ok (.goto 4, 3) := by decide +kernel
theorem dX11_nextToken_207 : decode cX11_nextToken 207 = .ok (.iconst 1, 1) := by decide +kernel
theorem dX11_nextToken_208 : decode cX11_nextToken 208 = .ok (.putfield 169, 3) := by decide +kernel
theorem dX11_nextToken_211 : decode cX11_nextToken 211 = .ok (.return_, 1) := by decide +kernel
theorem dX11_nextToken_212 : decode cX11_nextToken 212 = .ok (.iload_n 1, 1) := by decide +kernel
theorem dX11_nextToken_213 : decode cX11_nextToken 213 = .ok (.bipush 48, 2) := by decide +kernel
theorem dX11_nextToken_215 : decode cX11_nextToken 215 = .ok (.if_icmp .lt 107, 3) := by decide +kernel
theorem dX11_nextToken_218 : decode cX11_nextToken 218 = .ok (.iload_n 1, 1) := by decide +kernel
theorem dX11_nextToken_219 : decode cX11_nextToken 219 = .ok (.bipush 57, 2) := by decide +kernel
theorem dX11_nextToken_221 : decode cX11_nextToken 221 = .ok (.if_icmp .gt 101, 3) := by decide +kernel
theorem dX11_nextToken_224 : decode cX11_nextToken 224 = .ok (.aload_n 0, 1) := by decide +kernel
theorem dX11_nextToken_225 : decode cX11_nextToken 225 = .ok (.aload_n 0, 1) := by decide +kernel
theorem dX11_nextToken_226 : decode cX11_nextToken 226 = .ok (.getfield 156, 3) := by decide +kernel
theorem dX11_nextToken_229 : decode cX11_nextToken 229 = .ok (.invokevirtual 172, 3) := by decide +kernel
theorem dX11_nextToken_232 : decode cX11_nextToken 232 = .ok (.bipush 48, 2) := by decide +kernel
theorem dX11_nextToken_234 : decode cX11_nextToken 234 = .ok (.if_icmp .lt 65, 3) := by decide +kernel
theorem dX11_nextToken_237 : decode cX11_nextToken 237 = .ok (.aload_n 0, 1) := by decide +kernel
theorem dX11_nextToken_238 : decode cX11_nextToken 238 = .ok (.aload_n 0, 1) := by decide +kernel
theorem dX11_nextToken_239 : decode cX11_nextToken 239 = .ok (.getfield 156, 3) := by decide +kernel
theorem dX11_nextToken_242 : decode cX11_nextToken 242 = .ok (.invokevirtual 172, 3) := by decide +kernel
theorem dX11_nextToken_245 : decode cX11_nextToken 245 = .ok (.bipush 57, 2) := by decide +kernel
theorem dX11_nextToken_247 : decode cX11_nextToken 247 = .ok (.if_icmp .gt 52, 3) := by decide +kernel
theorem dX11_nextToken_250 : decode cX11_nextToken 250 = .ok (.aload_n 0, 1) := by decide +kernel
theorem dX11_nextToken_251 : decode cX11_nextToken 251 = .ok (.getfield 156, 3) := by decide +kernel
theorem dX11_nextToken_254 : decode cX11_nextToken 254 = .ok (.aload_n 0, 1) := by decide +kernel
theorem dX11_nextToken_255 : decode cX11_nextToken 255 = .ok (.getfield 159, 3) := by decide +kernel
theorem dX11_nextToken_258 : decode cX11_nextToken 258 = .ok (.isub, 1) := by decide +kernel
theorem dX11_nextToken_259 : decode cX11_nextToken 259 = .ok (.iconst 4, 1) := by decide +kernel
theorem dX11_nextToken_260 : decode cX11_nextToken 260 = .ok (.if_icmp .ge 26, 3) := by decide +kernel
theorem dX11_nextToken_263 : decode cX11_nextToken 263 = .ok (.aload_n 0, 1) := by decide +kernel
theorem dX11_nextToken_264 : decode cX11_nextToken 264 = .ok (.aload_n 0, 1) := by decide +kernel
theorem dX11_nextToken_265 : decode cX11_nextToken 265 = .ok (.getfield 166, 3) := by decide +kernel
theorem dX11_nextToken_268 : decode cX11_nextToken 268 = .ok (.bipush 10, 2) := by decide +kernel
theorem dX11_nextToken_270 : decode cX11_nextToken 270 = .ok (.imul, 1) := by decide +kernel
theorem dX11_nextToken_271 : decode cX11_nextToken 271 = .ok (.aload_n 0, 1) := by decide +kernel
theorem dX11_nextToken_272 : decode cX11_nextToken 272 = .ok (.aload_n 0, 1) := by decide +kernel
theorem dX11_nextToken_273 : decode cX11_nextToken 273 = .ok (.getfield 156, 3) := by decide +kernel
theorem dX11_nextToken_276 : decode cX11_nextToken 276 = .ok (.invokevirtual 172, 3) := by decide +kernel
theorem dX11_nextToken_279 : decode cX11_nextToken 279 = .ok (.iadd, 1) := by decide +kernel
theorem dX11_nextToken_280 : decode cX11_nextToken 280 = .ok (.bipush 48, 2) := by decide +kernel
theorem dX11_nextToken_282 : decode cX11_nextToken 282 = .ok (.isub, 1) := by decide +kernel
theorem dX11_nextToken_283 : decode cX11_nextToken 283 = .ok (.putfield 166, 3) := by decide +kernel
theorem dX11_nextToken_286 : decode cX11_nextToken 286 = .ok (.aload_n 0, 1) := by decide +kernel
theorem dX11_nextToken_287 : decode cX11_nextToken 287 = .ok (.dup, 1) := by decide +kernel
theorem dX11_nextToken_288 : decode cX11_nextToken 288 = .ok (.getfield 156, 3) := by decide +kernel
theorem dX11_nextToken_291 : decode cX11_nextToken 291 = .ok (.iconst 1, 1) := by decide +kernel
theorem dX11_nextToken_292 : decode cX11_nextToken 292 = .ok (.iadd, 1) := by decide +kernel
theorem dX11_nextToken_293 : decode cX11_nextToken 293 = .ok (.putfield 156, 3) := by decide +kernel
theorem dX11_nextToken_296 : decode cX11_nextToken 296 = .ok (.goto (-72), 3) := by decide +kernel
theorem dX11_nextToken_299 : decode cX11_nextToken 299 = .ok (.aload_n 0, 1) := by decide +kernel
theorem dX11_nextToken_300 : decode cX11_nextToken 300 = .ok (.aload_n 0, 1) := by decide +kernel
theorem dX11_nextToken_301 : decode cX11_nextToken 301 = .ok (.getfield 156, 3) := by decide +kernel
theorem dX11_nextToken_304 : decode cX11_nextToken 304 = .ok (.aload_n 0, 1) := by decide +kernel
theorem dX11_nextToken_305 : decode cX11_nextToken 305 = .ok (.getfield 159, 3) := by decide +kernel
theorem dX11_nextToken_308 : decode cX11_nextToken 308 = .ok (.isub, 1) := by decide +kernel
theorem dX11_nextToken_309 : decode cX11_nextToken 309 = .ok (.iconst 4, 1) := by decide +kernel
theorem dX11_nextToken_310 : decode cX11_nextToken 310 = .ok (.if_icmp .le 7, 3) := by decide +kernel
theorem dX11_nextToken_313 : decode cX11_nextToken 313 = .ok (.iconst 4, 1) := by decide +kernel
theorem dX11_nextToken_314 : decode cX11_nextToken 314 = .ok (.goto 4, 3) := by decide +kernel
theorem dX11_nextToken_317 : decode cX11_nextToken 317 = .ok (.iconst 2, 1) := by decide +kernel
theorem dX11_nextToken_318 : decode cX11_nextToken 318 = .ok (.putfield 169, 3) := by decide +kernel
theorem dX11_nextToken_321 : decode cX11_nextToken 321 = .ok (.return_, 1) := by decide +kernel
theorem dX11_nextToken_322 : decode cX11_nextToken 322 = .ok (.aload_n 0, 1) := by decide +kernel
theorem dX11_nextToken_323 : decode cX11_nextToken 323 = .ok (.dup, 1) := by decide +kernel
theorem dX11_nextToken_324 : decode cX11_nextToken 324 = .ok (.getfield 156, 3) := by decide +kernel
theorem dX11_nextToken_327 : decode cX11_nextToken 327 = .ok (.iconst 1, 1) := by decide +kernel
theorem dX11_nextToken_328 : decode cX11_nextToken 328 = .ok (.iadd, 1) := by decide +kernel
theorem dX11_nextToken_329 : decode cX11_nextToken 329 = .ok (.putfield 156, 3) := by decide +kernel
theorem dX11_nextToken_332 : decode cX11_nextToken 332 = .ok (.aload_n 0, 1) := by decide +kernel
theorem dX11_nextToken_333 : decode cX11_nextToken 333 = .ok (.iload_n 1, 1) := by decide +kernel
theorem dX11_nextToken_334 : decode cX11_nextToken 334 = .ok (.bipush 40, 2) := by decide +kernel
theorem dX11_nextToken_336 : decode cX11_nextToken 336 = .ok (.if_icmp .lt 9, 3) := by decide +kernel
theorem dX11_nextToken_339 : decode cX11_nextToken 339 = .ok (.iload_n 1, 1) := by decide +kernel
theorem dX11_nextToken_340 : decode cX11_nextToken 340 = .ok (.bipush 43, 2) := by decide +kernel
theorem dX11_nextToken_342 : decode cX11_nextToken 342 = .ok (.if_icmp .le 21, 3) := by decide +kernel
theorem dX11_nextToken_345 : decode cX11_nextToken 345 = .ok (.iload_n 1, 1) := by decide +kernel
theorem dX11_nextToken_346 : decode cX11_nextToken 346 = .ok (.bipush 45, 2) := by decide +kernel
theorem dX11_nextToken_348 : decode cX11_nextToken 348 = .ok (.if_icmp .eq 15, 3) := by decide +kernel
theorem dX11_nextToken_351 : decode cX11_nextToken 351 = .ok (.iload_n 1, 1) := by decide +kernel
theorem dX11_nextToken_352 : decode cX11_nextToken 352 = .ok (.bipush 59, 2) := by decide +kernel
theorem dX11_nextToken_354 : decode cX11_nextToken 354 = .ok (.if_icmp .lt 13, 3) := by decide +kernel
theorem dX11_nextToken_357 : decode cX11_nextToken 357 = .ok (.iload_n 1, 1) := by decide +kernel
theorem dX11_nextToken_358 : decode cX11_nextToken 358 = .ok (.bipush 61, 2) := by decide +kernel
theorem dX11_nextToken_360 : decode cX11_nextToken 360 = .ok (.if_icmp .gt 7, 3) := by decide +kernel
theorem dX11_nextToken_363 : decode cX11_nextToken 363 = .ok (.iconst 3, 1) := by decide +kernel
theorem dX11_nextToken_364 : decode cX11_nextToken 364 = .ok (.goto 4, 3) := by decide +kernel
theorem dX11_nextToken_367 : decode cX11_nextToken 367 = .ok (.iconst 4, 1) := by decide +kernel
theorem dX11_nextToken_368 : decode cX11_nextToken 368 = .ok (.putfield 169, 3) := by decide +kernel
theorem dX11_nextToken_371 : decode cX11_nextToken 371 = .ok (.return_, 1) := by decide +kernel
theorem dX11_isWord_0 : decode cX11_isWord 0 = .ok (.aload_n 0, 1) := by decide +kernel
theorem dX11_isWord_1 : decode cX11_isWord 1 = .ok (.getfield 169, 3) := by decide +kernel
theorem dX11_isWord_4 : decode cX11_isWord 4 = .ok (.iconst 1, 1) := by decide +kernel
theorem dX11_isWord_5 : decode cX11_isWord 5 = .ok (.if_icmp .ne 16, 3) := by decide +kernel
theorem dX11_isWord_8 : decode cX11_isWord 8 = .ok (.aload_n 0, 1) := by decide +kernel
theorem dX11_isWord_9 : decode cX11_isWord 9 = .ok (.getfield 162, 3) := by decide +kernel
theorem dX11_isWord_12 : decode cX11_isWord 12 = .ok (.lload_n 1, 1) := by decide +kernel
theorem dX11_isWord_13 : decode cX11_isWord 13 = .ok (.lcmp, 1) := by decide +kernel
theorem dX11_isWord_14 : decode cX11_isWord 14 = .ok (.ifCond .ne 7, 3) := by decide +kernel
theorem dX11_isWord_17 : decode cX11_isWord 17 = .ok (.iconst 1, 1) := by decide +kernel
theorem dX11_isWord_18 : decode cX11_isWord 18 = .ok (.goto 4, 3) := by decide +kernel
theorem dX11_isWord_21 : decode cX11_isWord 21 = .ok (.iconst 0, 1) := by decide +kernel
theorem dX11_isWord_22 : decode cX11_isWord 22 = .ok (.ireturn, 1) := by decide +kernel
theorem dX11_isSign_0 : decode cX11_isSign 0 = .ok (.aload_n 0, 1) := by decide +kernel
theorem dX11_isSign_1 : decode cX11_isSign 1 = .ok (.getfield 169, 3) := by decide +kernel
theorem dX11_isSign_4 : decode cX11_isSign 4 = .ok (.iconst 3, 1) := by decide +kernel
theorem dX11_isSign_5 : decode cX11_isSign 5 = .ok (.if_icmp .ne 20, 3) := by decide +kernel
theorem dX11_isSign_8 : decode cX11_isSign 8 = .ok (.aload_n 0, 1) := by decide +kernel
theorem dX11_isSign_9 : decode cX11_isSign 9 = .ok (.getfield 7, 3) := by decide +kernel
theorem dX11_isSign_12 : decode cX11_isSign 12 = .ok (.aload_n 0, 1) := by decide +kernel
theorem dX11_isSign_13 : decode cX11_isSign 13 = .ok (.getfield 159, 3) := by decide +kernel
theorem dX11_isSign_16 : decode cX11_isSign 16 = .ok (.iaload, 1) := by decide +kernel
theorem dX11_isSign_17 : decode cX11_isSign 17 = .ok (.iload_n 1, 1) := by decide +kernel
theorem dX11_isSign_18 : decode cX11_isSign 18 = .ok (.if_icmp .ne 7, 3) := by decide +kernel
theorem dX11_isSign_21 : decode cX11_isSign 21 = .ok (.iconst 1, 1) := by decide +kernel
theorem dX11_isSign_22 : decode cX11_isSign 22 = .ok (.goto 4, 3) := by decide +kernel
theorem dX11_isSign_25 : decode cX11_isSign 25 = .ok (.iconst 0, 1) := by decide +kernel
theorem dX11_isSign_26 : decode cX11_isSign 26 = .ok (.ireturn, 1) := by decide +kernel
theorem dX11_fails_0 : decode cX11_fails 0 = .ok (.aload_n 0, 1) := by decide +kernel
theorem dX11_fails_1 : decode cX11_fails 1 = .ok (.iload_n 1, 1) := by decide +kernel
theorem dX11_fails_2 : decode cX11_fails 2 = .ok (.bipush 16, 2) := by decide +kernel
theorem dX11_fails_4 : decode cX11_fails 4 = .ok (.aload_n 0, 1) := by decide +kernel
theorem dX11_fails_5 : decode cX11_fails 5 = .ok (.getfield 159, 3) := by decide +kernel
theorem dX11_fails_8 : decode cX11_fails 8 = .ok (.imul, 1) := by decide +kernel
theorem dX11_fails_9 : decode cX11_fails 9 = .ok (.iadd, 1) := by decide +kernel
theorem dX11_fails_10 : decode cX11_fails 10 = .ok (.putfield 180, 3) := by decide +kernel
theorem dX11_fails_13 : decode cX11_fails 13 = .ok (.iconst 0, 1) := by decide +kernel
theorem dX11_fails_14 : decode cX11_fails 14 = .ok (.ireturn, 1) := by decide +kernel
theorem dX11_puts_0 : decode cX11_puts 0 = .ok (.aload_n 0, 1) := by decide +kernel
theorem dX11_puts_1 : decode cX11_puts 1 = .ok (.getfield 50, 3) := by decide +kernel
theorem dX11_puts_4 : decode cX11_puts 4 = .ok (.aload_n 0, 1) := by decide +kernel
theorem dX11_puts_5 : decode cX11_puts 5 = .ok (.getfield 183, 3) := by decide +kernel
theorem dX11_puts_8 : decode cX11_puts 8 = .ok (.iload_n 1, 1) := by decide +kernel
theorem dX11_puts_9 : decode cX11_puts 9 = .ok (.iastore, 1) := by decide +kernel
theorem dX11_puts_10 : decode cX11_puts 10 = .ok (.aload_n 0, 1) := by decide +kernel
theorem dX11_puts_11 : decode cX11_puts 11 = .ok (.dup, 1) := by decide +kernel
theorem dX11_puts_12 : decode cX11_puts 12 = .ok (.getfield 183, 3) := by decide +kernel
theorem dX11_puts_15 : decode cX11_puts 15 = .ok (.iconst 1, 1) := by decide +kernel
theorem dX11_puts_16 : decode cX11_puts 16 = .ok (.iadd, 1) := by decide +kernel
theorem dX11_puts_17 : decode cX11_puts 17 = .ok (.putfield 183, 3) := by decide +kernel
theorem dX11_puts_20 : decode cX11_puts 20 = .ok (.return_, 1) := by decide +kernel
theorem dX11_fact_0 : decode cX11_fact 0 = .ok (.aload_n 0, 1) := by decide +kernel
theorem dX11_fact_1 : decode cX11_fact 1 = .ok (.getfield 169, 3) := by decide +kernel
theorem dX11_fact_4 : decode cX11_fact 4 = .ok (.iconst 1, 1) := by decide +kernel
theorem dX11_fact_5 : decode cX11_fact 5 = .ok (.if_icmp .eq 5, 3) := by decide +kernel
theorem dX11_fact_8 : decode cX11_fact 8 = .ok (.iconst 0, 1) := by decide +kernel
theorem dX11_fact_9 : decode cX11_fact 9 = .ok (.ireturn, 1) := by decide +kernel
theorem dX11_fact_10 : decode cX11_fact 10 = .ok (.aload_n 0, 1) := by decide +kernel
theorem dX11_fact_11 : decode cX11_fact 11 = .ok (.getfield 162, 3) := by decide +kernel
theorem dX11_fact_14 : decode cX11_fact 14 = .ok (.ldc2_w 186, 3) := by decide +kernel
theorem dX11_fact_17 : decode cX11_fact 17 = .ok (.lcmp, 1) := by decide +kernel
theorem dX11_fact_18 : decode cX11_fact 18 = .ok (.ifCond .ne 5, 3) := by decide +kernel
theorem dX11_fact_21 : decode cX11_fact 21 = .ok (.iconst 1, 1) := by decide +kernel
theorem dX11_fact_22 : decode cX11_fact 22 = .ok (.ireturn, 1) := by decide +kernel
theorem dX11_fact_23 : decode cX11_fact 23 = .ok (.aload_n 0, 1) := by decide +kernel
theorem dX11_fact_24 : decode cX11_fact 24 = .ok (.getfield 162, 3) := by decide +kernel
theorem dX11_fact_27 : decode cX11_fact 27 = .ok (.ldc2_w 188, 3) := by decide +kernel
theorem dX11_fact_30 : decode cX11_fact 30 = .ok (.lcmp, 1) := by decide +kernel
theorem dX11_fact_31 : decode cX11_fact 31 = .ok (.ifCond .ne 5, 3) := by decide +kernel
theorem dX11_fact_34 : decode cX11_fact 34 = .ok (.iconst 2, 1) := by decide +kernel
theorem dX11_fact_35 : decode cX11_fact 35 = .ok (.ireturn, 1) := by decide +kernel
theorem dX11_fact_36 : decode cX11_fact 36 = .ok (.aload_n 0, 1) := by decide +kernel
theorem dX11_fact_37 : decode cX11_fact 37 = .ok (.getfield 162, 3) := by decide +kernel
theorem dX11_fact_40 : decode cX11_fact 40 = .ok (.ldc2_w 190, 3) := by decide +kernel
theorem dX11_fact_43 : decode cX11_fact 43 = .ok (.lcmp, 1) := by decide +kernel
theorem dX11_fact_44 : decode cX11_fact 44 = .ok (.ifCond .ne 7, 3) := by decide +kernel
theorem dX11_fact_47 : decode cX11_fact 47 = .ok (.iconst 3, 1) := by decide +kernel
theorem dX11_fact_48 : decode cX11_fact 48 = .ok (.goto 19, 3) := by decide +kernel
theorem dX11_fact_51 : decode cX11_fact 51 = .ok (.aload_n 0, 1) := by decide +kernel
theorem dX11_fact_52 : decode cX11_fact 52 = .ok (.getfield 162, 3) := by decide +kernel
theorem dX11_fact_55 : decode cX11_fact 55 = .ok (.ldc2_w 192, 3) := by decide +kernel
theorem dX11_fact_58 : decode cX11_fact 58 = .ok (.lcmp, 1) := by decide +kernel
theorem dX11_fact_59 : decode cX11_fact 59 = .ok (.ifCond .ne 7, 3) := by decide +kernel
theorem dX11_fact_62 : decode cX11_fact 62 = .ok (.iconst 4, 1) := by decide +kernel
theorem dX11_fact_63 : decode cX11_fact 63 = .ok (.goto 4, 3) := by decide +kernel
theorem dX11_fact_66 : decode cX11_fact 66 = .ok (.iconst 0, 1) := by decide +kernel
theorem dX11_fact_67 : decode cX11_fact 67 = .ok (.ireturn, 1) := by decide +kernel
theorem dX11_reads_0 : decode cX11_reads 0 = .ok (.iconst 0, 1) := by decide +kernel
theorem dX11_reads_1 : decode cX11_reads 1 = .ok (.istore_n 1, 1) := by decide +kernel
theorem dX11_reads_2 : decode cX11_reads 2 = .ok (.iconst 1, 1) := by decide +kernel
theorem dX11_reads_3 : decode cX11_reads 3 = .ok (.istore_n 2, 1) := by decide +kernel
theorem dX11_reads_4 : decode cX11_reads 4 = .ok (.aload_n 0, 1) := by decide +kernel
theorem dX11_reads_5 : decode cX11_reads 5 = .ok (.getfield 56, 3) := by decide +kernel
theorem dX11_reads_8 : decode cX11_reads 8 = .ok (.iconst 0, 1) := by decide +kernel
theorem dX11_reads_9 : decode cX11_reads 9 = .ok (.iconst 0, 1) := by decide +kernel
theorem dX11_reads_10 : decode cX11_reads 10 = .ok (.bastore, 1) := by decide +kernel
theorem dX11_reads_11 : decode cX11_reads 11 = .ok (.iload_n 2, 1) := by decide +kernel
theorem dX11_reads_12 : decode cX11_reads 12 = .ok (.ifCond .eq 167, 3) := by decide +kernel
theorem dX11_reads_15 : decode cX11_reads 15 = .ok (.aload_n 0, 1) := by decide +kernel
theorem dX11_reads_16 : decode cX11_reads 16 = .ok (.invokevirtual 194, 3) := by decide +kernel
theorem dX11_reads_19 : decode cX11_reads 19 = .ok (.istore_n 3, 1) := by decide +kernel
theorem dX11_reads_20 : decode cX11_reads 20 = .ok (.aload_n 0, 1) := by decide +kernel
theorem dX11_reads_21 : decode cX11_reads 21 = .ok (.ldc2_w 198, 3) := by decide +kernel
theorem dX11_reads_24 : decode cX11_reads 24 = .ok (.invokevirtual 200, 3) := by decide +kernel
theorem dX11_reads_27 : decode cX11_reads 27 = .ok (.istore 4, 2) := by decide +kernel
theorem dX11_reads_29 : decode cX11_reads 29 = .ok (.aload_n 0, 1) := by decide +kernel
theorem dX11_reads_30 : decode cX11_reads 30 = .ok (.bipush 40, 2) := by decide +kernel
theorem dX11_reads_32 : decode cX11_reads 32 = .ok (.invokevirtual 204, 3) := by decide +kernel
theorem dX11_reads_35 : decode cX11_reads 35 = .ok (.istore 5, 2) := by decide +kernel
theorem dX11_reads_37 : decode cX11_reads 37 = .ok (.iload_n 3, 1) := by decide +kernel
theorem dX11_reads_38 : decode cX11_reads 38 = .ok (.ifCond .ne 27, 3) := by decide +kernel
theorem dX11_reads_41 : decode cX11_reads 41 = .ok (.iload 4, 2) := by decide +kernel
theorem dX11_reads_43 : decode cX11_reads 43 = .ok (.ifCond .ne 22, 3) := by decide +kernel
theorem dX11_reads_46 : decode cX11_reads 46 = .ok (.iload 5, 2) := by decide +kernel
theorem dX11_reads_48 : decode cX11_reads 48 = .ok (.ifCond .ne 17, 3) := by decide +kernel
theorem dX11_reads_51 : decode cX11_reads 51 = .ok (.aload_n 0, 1) := by decide +kernel
theorem dX11_reads_52 : decode cX11_reads 52 = .ok (.getfield 169, 3) := by decide +kernel
theorem dX11_reads_55 : decode cX11_reads 55 = .ok (.iconst 2, 1) := by decide +kernel
theorem dX11_reads_56 : decode cX11_reads 56 = .ok (.if_icmp .eq 9, 3) := by decide +kernel
theorem dX11_reads_59 : decode cX11_reads 59 = .ok (.aload_n 0, 1) := by decide +kernel
theorem dX11_reads_60 : decode cX11_reads 60 = .ok (.iconst 1, 1) := by decide +kernel
theorem dX11_reads_61 : decode cX11_reads 61 = .ok (.invokevirtual 208, 3) := by decide +kernel
theorem dX11_reads_64 : decode cX11_reads 64 = .ok (.ireturn, 1) := by decide +kernel
theorem dX11_reads_65 : decode cX11_reads 65 = .ok (.iload_n 1, 1) := by decide +kernel
theorem dX11_reads_66 : decode cX11_reads 66 = .ok (.iconst 5, 1) := by decide +kernel
theorem dX11_reads_67 : decode cX11_reads 67 = .ok (.if_icmp .ne 9, 3) := by decide +kernel
theorem dX11_reads_70 : decode cX11_reads 70 = .ok (.aload_n 0, 1) := by decide +kernel
theorem dX11_reads_71 : decode cX11_reads 71 = .ok (.iconst 5, 1) := by decide +kernel
theorem dX11_reads_72 : decode cX11_reads 72 = .ok (.invokevirtual 208, 3) := by decide +kernel
theorem dX11_reads_75 : decode cX11_reads 75 = .ok (.ireturn, 1) := by decide +kernel
theorem dX11_reads_76 : decode cX11_reads 76 = .ok (.iload 4, 2) := by decide +kernel
theorem dX11_reads_78 : decode cX11_reads 78 = .ok (.ifCond .ne 8, 3) := by decide +kernel
theorem dX11_reads_81 : decode cX11_reads 81 = .ok (.iload 5, 2) := by decide +kernel
theorem dX11_reads_83 : decode cX11_reads 83 = .ok (.ifCond .eq 48, 3) := by decide +kernel
theorem dX11_reads_86 : decode cX11_reads 86 = .ok (.aload_n 0, 1) := by decide +kernel
theorem dX11_reads_87 : decode cX11_reads 87 = .ok (.iload 4, 2) := by decide +kernel
theorem dX11_reads_89 : decode cX11_reads 89 = .ok (.ifCond .eq 8, 3) := by decide +kernel
theorem dX11_reads_92 : decode cX11_reads 92 = .ok (.bipush 30, 2) := by decide +kernel
theorem dX11_reads_94 : decode cX11_reads 94 = .ok (.goto 5, 3) := by decide +kernel
theorem dX11_reads_97 : decode cX11_reads 97 = .ok (.bipush 28, 2) := by decide +kernel
theorem dX11_reads_99 : decode cX11_reads 99 = .ok (.invokevirtual 211, 3) := by decide +kernel
theorem dX11_reads_102 : decode cX11_reads 102 = .ok (.iinc 1 1, 3) := by decide +kernel
theorem dX11_reads_105 : decode cX11_reads 105 = .ok (.aload_n 0, 1) := by decide +kernel
theorem dX11_reads_106 : decode cX11_reads 106 = .ok (.getfield 53, 3) := by decide +kernel
theorem dX11_reads_109 : decode cX11_reads 109 = .ok (.iload_n 1, 1) := by decide +kernel
theorem dX11_reads_110 : decode cX11_reads 110 = .ok (.iload 4, 2) := by decide +kernel
theorem dX11_reads_112 : decode cX11_reads 112 = .ok (.ifCond .eq 7, 3) := by decide +kernel
theorem dX11_reads_115 : decode cX11_reads 115 = .ok (.iconst 1, 1) := by decide +kernel
theorem dX11_reads_116 : decode cX11_reads 116 = .ok (.goto 4, 3) := by decide +kernel
theorem dX11_reads_119 : decode cX11_reads 119 = .ok (.iconst 2, 1) := by decide +kernel
theorem dX11_reads_120 : decode cX11_reads 120 = .ok (.iastore, 1) := by decide +kernel
theorem dX11_reads_121 : decode cX11_reads 121 = .ok (.aload_n 0, 1) := by decide +kernel
theorem dX11_reads_122 : decode cX11_reads 122 = .ok (.getfield 56, 3) := by decide +kernel
theorem dX11_reads_125 : decode cX11_reads 125 = .ok (.iload_n 1, 1) := by decide +kernel
theorem dX11_reads_126 : decode cX11_reads 126 = .ok (.iconst 0, 1) := by decide +kernel
theorem dX11_reads_127 : decode cX11_reads 127 = .ok (.bastore, 1) := by decide +kernel
theorem dX11_reads_128 : decode cX11_reads 128 = .ok (.goto 44, 3) := by decide +kernel
theorem dX11_reads_131 : decode cX11_reads 131 = .ok (.aload_n 0, 1) := by decide +kernel
theorem dX11_reads_132 : decode cX11_reads 132 = .ok (.iload_n 3, 1) := by decide +kernel
theorem dX11_reads_133 : decode cX11_reads 133 = .ok (.ifCond .le 7, 3) := by decide +kernel
theorem dX11_reads_136 : decode cX11_reads 136 = .ok (.iload_n 3, 1) := by decide +kernel
theorem dX11_reads_137 : decode cX11_reads 137 = .ok (.goto 10, 3) := by decide +kernel
theorem dX11_reads_140 : decode cX11_reads 140 = .ok (.bipush 100, 2) := by decide +kernel
theorem dX11_reads_142 : decode cX11_reads 142 = .ok (.aload_n 0, 1) := by decide +kernel
theorem dX11_reads_143 : decode cX11_reads 143 = .ok (.getfield 166, 3) := by decide +kernel
theorem dX11_reads_146 : decode cX11_reads 146 = .ok (.iadd, 1) := by decide +kernel
theorem dX11_reads_147 : decode cX11_reads 147 = .ok (.invokevirtual 211, 3) := by decide +kernel
theorem dX11_reads_150 : decode cX11_reads 150 = .ok (.iconst 0, 1) := by decide +kernel
theorem dX11_reads_151 : decode cX11_reads 151 = .ok (.istore_n 2, 1) := by decide +kernel
theorem dX11_reads_152 : decode cX11_reads 152 = .ok (.iload_n 1, 1) := by decide +kernel
theorem dX11_reads_153 : decode cX11_reads 153 = .ok (.ifCond .le 19, 3) := by decide +kernel
theorem dX11_reads_156 : decode cX11_reads 156 = .ok (.aload_n 0, 1) := by decide +kernel
theorem dX11_reads_157 : decode cX11_reads 157 = .ok (.getfield 53, 3) := by decide +kernel
theorem dX11_reads_160 : decode cX11_reads 160 = .ok (.iload_n 1, 1) := by decide +kernel
theorem dX11_reads_161 : decode cX11_reads 161 = .ok (.iaload, 1) := by decide +kernel
theorem dX11_reads_162 : decode cX11_reads 162 = .ok (.iconst 1, 1) := by decide +kernel
theorem dX11_reads_163 : decode cX11_reads 163 = .ok (.if_icmp .ne 9, 3) := by decide +kernel
theorem dX11_reads_166 : decode cX11_reads 166 = .ok (.iinc 1 (-1), 3) := by decide +kernel
theorem dX11_reads_169 : decode cX11_reads 169 = .ok (.goto (-17), 3) := by decide +kernel
theorem dX11_reads_172 : decode cX11_reads 172 = .ok (.aload_n 0, 1) := by decide +kernel
theorem dX11_reads_173 : decode cX11_reads 173 = .ok (.invokevirtual 215, 3) := by decide +kernel
theorem dX11_reads_176 : decode cX11_reads 176 = .ok (.goto (-165), 3) := by decide +kernel
theorem dX11_reads_179 : decode cX11_reads 179 = .ok (.aload_n 0, 1) := by decide +kernel
theorem dX11_reads_180 : decode cX11_reads 180 = .ok (.bipush 43, 2) := by decide +kernel
theorem dX11_reads_182 : decode cX11_reads 182 = .ok (.invokevirtual 204, 3) := by decide +kernel
theorem dX11_reads_185 : decode cX11_reads 185 = .ok (.ifCond .ne 21, 3) := by decide +kernel
theorem dX11_reads_188 : decode cX11_reads 188 = .ok (.aload_n 0, 1) := by decide +kernel
theorem dX11_reads_189 : decode cX11_reads 189 = .ok (.bipush 45, 2) := by decide +kernel
theorem dX11_reads_191 : decode cX11_reads 191 = .ok (.invokevirtual 204, 3) := by decide +kernel
theorem dX11_reads_194 : decode cX11_reads 194 = .ok (.ifCond .ne 12, 3) := by decide +kernel
theorem dX11_reads_197 : decode cX11_reads 197 = .ok (.aload_n 0, 1) := by decide +kernel
theorem dX11_reads_198 : decode cX11_reads 198 = .ok (.bipush 42, 2) := by decide +kernel
theorem dX11_reads_200 : decode cX11_reads 200 = .ok (.invokevirtual 204, 3) := by decide +kernel
theorem dX11_reads_203 : decode cX11_reads 203 = .ok (.ifCond .eq 42, 3) := by decide +kernel
theorem dX11_reads_206 : decode cX11_reads 206 = .ok (.aload_n 0, 1) := by decide +kernel
theorem dX11_reads_207 : decode cX11_reads 207 = .ok (.aload_n 0, 1) := by decide +kernel
theorem dX11_reads_208 : decode cX11_reads 208 = .ok (.bipush 43, 2) := by decide +kernel
theorem dX11_reads_210 : decode cX11_reads 210 = .ok (.invokevirtual 204, 3) := by decide +kernel
theorem dX11_reads_213 : decode cX11_reads 213 = .ok (.ifCond .eq 8, 3) := by decide +kernel
theorem dX11_reads_216 : decode cX11_reads 216 = .ok (.bipush 20, 2) := by decide +kernel
theorem dX11_reads_218 : decode cX11_reads 218 = .ok (.goto 19, 3) := by decide +kernel
theorem dX11_reads_221 : decode cX11_reads 221 = .ok (.aload_n 0, 1) := by decide +kernel
theorem dX11_reads_222 : decode cX11_reads 222 = .ok (.bipush 45, 2) := by decide +kernel
theorem dX11_reads_224 : decode cX11_reads 224 = .ok (.invokevirtual 204, 3) := by decide +kernel
theorem dX11_reads_227 : decode cX11_reads 227 = .ok (.ifCond .eq 8, 3) := by decide +kernel
theorem dX11_reads_230 : decode cX11_reads 230 = .ok (.bipush 21, 2) := by decide +kernel
theorem dX11_reads_232 : decode cX11_reads 232 = .ok (.goto 5, 3) := by decide +kernel
theorem dX11_reads_235 : decode cX11_reads 235 = .ok (.bipush 22, 2) := by decide +kernel
theorem dX11_reads_237 : decode cX11_reads 237 = .ok (.invokevirtual 211, 3) := by decide +kernel
theorem dX11_reads_240 : decode cX11_reads 240 = .ok (.iconst 1, 1) := by decide +kernel
theorem dX11_reads_241 : decode cX11_reads 241 = .ok (.istore_n 2, 1) := by decide +kernel
theorem dX11_reads_242 : decode cX11_reads 242 = .ok (.goto 182, 3) := by decide +kernel
theorem dX11_reads_245 : decode cX11_reads 245 = .ok (.aload_n 0, 1) := by decide +kernel
theorem dX11_reads_246 : decode cX11_reads 246 = .ok (.bipush 60, 2) := by decide +kernel
theorem dX11_reads_248 : decode cX11_reads 248 = .ok (.invokevirtual 204, 3) := by decide +kernel
theorem dX11_reads_251 : decode cX11_reads 251 = .ok (.ifCond .ne 12, 3) := by decide +kernel
theorem dX11_reads_254 : decode cX11_reads 254 = .ok (.aload_n 0, 1) := by decide +kernel
theorem dX11_reads_255 : decode cX11_reads 255 = .ok (.bipush 61, 2) := by decide +kernel
theorem dX11_reads_257 : decode cX11_reads 257 = .ok (.invokevirtual 204, 3) := by decide +kernel
theorem dX11_reads_260 : decode cX11_reads 260 = .ok (.ifCond .eq 44, 3) := by decide +kernel
theorem dX11_reads_263 : decode cX11_reads 263 = .ok (.aload_n 0, 1) := by decide +kernel
theorem dX11_reads_264 : decode cX11_reads 264 = .ok (.getfield 56, 3) := by decide +kernel
theorem dX11_reads_267 : decode cX11_reads 267 = .ok (.iload_n 1, 1) := by decide +kernel
theorem dX11_reads_268 : decode cX11_reads 268 = .ok (.baload, 1) := by decide +kernel
theorem dX11_reads_269 : decode cX11_reads 269 = .ok (.ifCond .ne 35, 3) := by decide +kernel
theorem dX11_reads_272 : decode cX11_reads 272 = .ok (.aload_n 0, 1) := by decide +kernel
theorem dX11_reads_273 : decode cX11_reads 273 = .ok (.aload_n 0, 1) := by decide +kernel
theorem dX11_reads_274 : decode cX11_reads 274 = .ok (.bipush 60, 2) := by decide +kernel
theorem dX11_reads_276 : decode cX11_reads 276 = .ok (.invokevirtual 204, 3) := by decide +kernel
theorem dX11_reads_279 : decode cX11_reads 279 = .ok (.ifCond .eq 8, 3) := by decide +kernel
theorem dX11_reads_282 : decode cX11_reads 282 = .ok (.bipush 24, 2) := by decide +kernel
theorem dX11_reads_284 : decode cX11_reads 284 = .ok (.goto 5, 3) := by decide +kernel
theorem dX11_reads_287 : decode cX11_reads 287 = .ok (.bipush 25, 2) := by decide +kernel
theorem dX11_reads_289 : decode cX11_reads 289 = .ok (.invokevirtual 211, 3) := by decide +kernel
theorem dX11_reads_292 : decode cX11_reads 292 = .ok (.aload_n 0, 1) := by decide +kernel
theorem dX11_reads_293 : decode cX11_reads 293 = .ok (.getfield 56, 3) := by decide +kernel
theorem dX11_reads_296 : decode cX11_reads 296 = .ok (.iload_n 1, 1) := by decide +kernel
theorem dX11_reads_297 : decode cX11_reads 297 = .ok (.iconst 1, 1) := by decide +kernel
theorem dX11_reads_298 : decode cX11_reads 298 = .ok (.bastore, 1) := by decide +kernel
theorem dX11_reads_299 : decode cX11_reads 299 = .ok (.iconst 1, 1) := by decide +kernel
theorem dX11_reads_300 : decode cX11_reads 300 = .ok (.istore_n 2, 1) := by decide +kernel
theorem dX11_reads_301 : decode cX11_reads 301 = .ok (.goto 123, 3) := by decide +kernel
theorem dX11_reads_304 : decode cX11_reads 304 = .ok (.aload_n 0, 1) := by decide +kernel
theorem dX11_reads_305 : decode cX11_reads 305 = .ok (.ldc2_w 218, 3) := by decide +kernel
theorem dX11_reads_308 : decode cX11_reads 308 = .ok (.invokevirtual 200, 3) := by decide +kernel
theorem dX11_reads_311 : decode cX11_reads 311 = .ok (.ifCond .ne 13, 3) := by decide +kernel
theorem dX11_reads_314 : decode cX11_reads 314 = .ok (.aload_n 0, 1) := by decide +kernel
theorem dX11_reads_315 : decode cX11_reads 315 = .ok (.ldc2_w 220, 3) := by decide +kernel
theorem dX11_reads_318 : decode cX11_reads 318 = .ok (.invokevirtual 200, 3) := by decide +kernel
theorem dX11_reads_321 : decode cX11_reads 321 = .ok (.ifCond .eq 36, 3) := by decide +kernel
theorem dX11_reads_324 : decode cX11_reads 324 = .ok (.aload_n 0, 1) := by decide +kernel
theorem dX11_reads_325 : decode cX11_reads 325 = .ok (.aload_n 0, 1) := by decide +kernel
theorem dX11_reads_326 : decode cX11_reads 326 = .ok (.ldc2_w 218, 3) := by decide +kernel
theorem dX11_reads_329 : decode cX11_reads 329 = .ok (.invokevirtual 200, 3) := by decide +kernel
theorem dX11_reads_332 : decode cX11_reads 332 = .ok (.ifCond .eq 8, 3) := by decide +kernel
theorem dX11_reads_335 : decode cX11_reads 335 = .ok (.bipush 26, 2) := by decide +kernel
theorem dX11_reads_337 : decode cX11_reads 337 = .ok (.goto 5, 3) := by decide +kernel
theorem dX11_reads_340 : decode cX11_reads 340 = .ok (.bipush 27, 2) := by decide +kernel
theorem dX11_reads_342 : decode cX11_reads 342 = .ok (.invokevirtual 211, 3) := by decide +kernel
theorem dX11_reads_345 : decode cX11_reads 345 = .ok (.aload_n 0, 1) := by decide +kernel
theorem dX11_reads_346 : decode cX11_reads 346 = .ok (.getfield 56, 3) := by decide +kernel
theorem dX11_reads_349 : decode cX11_reads 349 = .ok (.iload_n 1, 1) := by decide +kernel
theorem dX11_reads_350 : decode cX11_reads 350 = .ok (.iconst 0, 1) := by decide +kernel
theorem dX11_reads_351 : decode cX11_reads 351 = .ok (.bastore, 1) := by decide +kernel
theorem dX11_reads_352 : decode cX11_reads 352 = .ok (.iconst 1, 1) := by decide +kernel
theorem dX11_reads_353 : decode cX11_reads 353 = .ok (.istore_n 2, 1) := by decide +kernel
theorem dX11_reads_354 : decode cX11_reads 354 = .ok (.goto 70, 3) := by decide +kernel
theorem dX11_reads_357 : decode cX11_reads 357 = .ok (.aload_n 0, 1) := by decide +kernel
theorem dX11_reads_358 : decode cX11_reads 358 = .ok (.bipush 41, 2) := by decide +kernel
theorem dX11_reads_360 : decode cX11_reads 360 = .ok (.invokevirtual 204, 3) := by decide +kernel
theorem dX11_reads_363 : decode cX11_reads 363 = .ok (.ifCond .eq 36, 3) := by decide +kernel
theorem dX11_reads_366 : decode cX11_reads 366 = .ok (.iload_n 1, 1) := by decide +kernel
theorem dX11_reads_367 : decode cX11_reads 367 = .ok (.ifCond .le 32, 3) := by decide +kernel
theorem dX11_reads_370 : decode cX11_reads 370 = .ok (.aload_n 0, 1) := by decide +kernel
theorem dX11_reads_371 : decode cX11_reads 371 = .ok (.bipush 29, 2) := by decide +kernel
theorem dX11_reads_373 : decode cX11_reads 373 = .ok (.invokevirtual 211, 3) := by decide +kernel
theorem dX11_reads_376 : decode cX11_reads 376 = .ok (.iinc 1 (-1), 3) := by decide +kernel
theorem dX11_reads_379 : decode cX11_reads 379 = .ok (.iload_n 1, 1) := by decide +kernel
theorem dX11_reads_380 : decode cX11_reads 380 = .ok (.ifCond .le 44, 3) := by decide +kernel
theorem dX11_reads_383 : decode cX11_reads 383 = .ok (.aload_n 0, 1) := by decide +kernel
theorem dX11_reads_384 : decode cX11_reads 384 = .ok (.getfield 53, 3) := by decide +kernel
theorem dX11_reads_387 : decode cX11_reads 387 = .ok (.iload_n 1, 1) := by decide +kernel
theorem dX11_reads_388 : decode cX11_reads 388 = .ok (.iaload, 1) := by decide +kernel
theorem dX11_reads_389 : decode cX11_reads 389 = .ok (.iconst 1, 1) := by decide +kernel
theorem dX11_reads_390 : decode cX11_reads 390 = .ok (.if_icmp .ne 34, 3) := by decide +kernel
theorem dX11_reads_393 : decode cX11_reads 393 = .ok (.iinc 1 (-1), 3) := by decide +kernel
theorem dX11_reads_396 : decode cX11_reads 396 = .ok (.goto (-17), 3) := by decide +kernel
theorem dX11_reads_399 : decode cX11_reads 399 = .ok (.iload_n 1, 1) := by decide +kernel
theorem dX11_reads_400 : decode cX11_reads 400 = .ok (.ifCond .ne 18, 3) := by decide +kernel
theorem dX11_reads_403 : decode cX11_reads 403 = .ok (.aload_n 0, 1) := by decide +kernel
theorem dX11_reads_404 : decode cX11_reads 404 = .ok (.bipush 59, 2) := by decide +kernel
theorem dX11_reads_406 : decode cX11_reads 406 = .ok (.invokevirtual 204, 3) := by decide +kernel
theorem dX11_reads_409 : decode cX11_reads 409 = .ok (.ifCond .eq 9, 3) := by decide +kernel
theorem dX11_reads_412 : decode cX11_reads 412 = .ok (.aload_n 0, 1) := by decide +kernel
theorem dX11_reads_413 : decode cX11_reads 413 = .ok (.invokevirtual 215, 3) := by decide +kernel
theorem dX11_reads_416 : decode cX11_reads 416 = .ok (.iconst 1, 1) := by decide +kernel
theorem dX11_reads_417 : decode cX11_reads 417 = .ok (.ireturn, 1) := by decide +kernel
theorem dX11_reads_418 : decode cX11_reads 418 = .ok (.aload_n 0, 1) := by decide +kernel
theorem dX11_reads_419 : decode cX11_reads 419 = .ok (.iconst 1, 1) := by decide +kernel
theorem dX11_reads_420 : decode cX11_reads 420 = .ok (.invokevirtual 208, 3) := by decide +kernel
theorem dX11_reads_423 : decode cX11_reads 423 = .ok (.ireturn, 1) := by decide +kernel
theorem dX11_reads_424 : decode cX11_reads 424 = .ok (.aload_n 0, 1) := by decide +kernel
theorem dX11_reads_425 : decode cX11_reads 425 = .ok (.invokevirtual 215, 3) := by decide +kernel
theorem dX11_reads_428 : decode cX11_reads 428 = .ok (.goto (-417), 3) := by decide +kernel
theorem dX11_opens_0 : decode cX11_opens 0 = .ok (.aload_n 0, 1) := by decide +kernel
theorem dX11_opens_1 : decode cX11_opens 1 = .ok (.getfield 63, 3) := by decide +kernel
theorem dX11_opens_4 : decode cX11_opens 4 = .ok (.iload_n 1, 1) := by decide +kernel
theorem dX11_opens_5 : decode cX11_opens 5 = .ok (.iconst 0, 1) := by decide +kernel
theorem dX11_opens_6 : decode cX11_opens 6 = .ok (.iastore, 1) := by decide +kernel
theorem dX11_opens_7 : decode cX11_opens 7 = .ok (.aload_n 0, 1) := by decide +kernel
theorem dX11_opens_8 : decode cX11_opens 8 = .ok (.getfield 69, 3) := by decide +kernel
theorem dX11_opens_11 : decode cX11_opens 11 = .ok (.iload_n 1, 1) := by decide +kernel
theorem dX11_opens_12 : decode cX11_opens 12 = .ok (.iconst 0, 1) := by decide +kernel
theorem dX11_opens_13 : decode cX11_opens 13 = .ok (.iastore, 1) := by decide +kernel
theorem dX11_opens_14 : decode cX11_opens 14 = .ok (.aload_n 0, 1) := by decide +kernel
theorem dX11_opens_15 : decode cX11_opens 15 = .ok (.getfield 72, 3) := by decide +kernel
theorem dX11_opens_18 : decode cX11_opens 18 = .ok (.iload_n 1, 1) := by decide +kernel
theorem dX11_opens_19 : decode cX11_opens 19 = .ok (.iconst 0, 1) := by decide +kernel
theorem dX11_opens_20 : decode cX11_opens 20 = .ok (.iastore, 1) := by decide +kernel
theorem dX11_opens_21 : decode cX11_opens 21 = .ok (.aload_n 0, 1) := by decide +kernel
theorem dX11_opens_22 : decode cX11_opens 22 = .ok (.getfield 75, 3) := by decide +kernel
theorem dX11_opens_25 : decode cX11_opens 25 = .ok (.iload_n 1, 1) := by decide +kernel
theorem dX11_opens_26 : decode cX11_opens 26 = .ok (.bipush 20, 2) := by decide +kernel
theorem dX11_opens_28 : decode cX11_opens 28 = .ok (.iastore, 1) := by decide +kernel
theorem dX11_opens_29 : decode cX11_opens 29 = .ok (.aload_n 0, 1) := by decide +kernel
theorem dX11_opens_30 : decode cX11_opens 30 = .ok (.getfield 81, 3) := by decide +kernel
theorem dX11_opens_33 : decode cX11_opens 33 = .ok (.iload_n 1, 1) := by decide +kernel
theorem dX11_opens_34 : decode cX11_opens 34 = .ok (.iconst 0, 1) := by decide +kernel
theorem dX11_opens_35 : decode cX11_opens 35 = .ok (.iastore, 1) := by decide +kernel
theorem dX11_opens_36 : decode cX11_opens 36 = .ok (.return_, 1) := by decide +kernel
theorem dX11_sums_0 : decode cX11_sums 0 = .ok (.aload_n 0, 1) := by decide +kernel
theorem dX11_sums_1 : decode cX11_sums 1 = .ok (.getfield 72, 3) := by decide +kernel
theorem dX11_sums_4 : decode cX11_sums 4 = .ok (.iload_n 1, 1) := by decide +kernel
theorem dX11_sums_5 : decode cX11_sums 5 = .ok (.aload_n 0, 1) := by decide +kernel
theorem dX11_sums_6 : decode cX11_sums 6 = .ok (.getfield 75, 3) := by decide +kernel
theorem dX11_sums_9 : decode cX11_sums 9 = .ok (.iload_n 1, 1) := by decide +kernel
theorem dX11_sums_10 : decode cX11_sums 10 = .ok (.iaload, 1) := by decide +kernel
theorem dX11_sums_11 : decode cX11_sums 11 = .ok (.bipush 21, 2) := by decide +kernel
theorem dX11_sums_13 : decode cX11_sums 13 = .ok (.if_icmp .ne 19, 3) := by decide +kernel
theorem dX11_sums_16 : decode cX11_sums 16 = .ok (.aload_n 0, 1) := by decide +kernel
theorem dX11_sums_17 : decode cX11_sums 17 = .ok (.getfield 72, 3) := by decide +kernel
theorem dX11_sums_20 : decode cX11_sums 20 = .ok (.iload_n 1, 1) := by decide +kernel
theorem dX11_sums_21 : decode cX11_sums 21 = .ok (.iaload, 1) := by decide +kernel
theorem dX11_sums_22 : decode cX11_sums 22 = .ok (.aload_n 0, 1) := by decide +kernel
theorem dX11_sums_23 : decode cX11_sums 23 = .ok (.getfield 78, 3) := by decide +kernel
theorem dX11_sums_26 : decode cX11_sums 26 = .ok (.iload_n 1, 1) := by decide +kernel
theorem dX11_sums_27 : decode cX11_sums 27 = .ok (.iaload, 1) := by decide +kernel
theorem dX11_sums_28 : decode cX11_sums 28 = .ok (.isub, 1) := by decide +kernel
theorem dX11_sums_29 : decode cX11_sums 29 = .ok (.goto 16, 3) := by decide +kernel
theorem dX11_sums_32 : decode cX11_sums 32 = .ok (.aload_n 0, 1) := by decide +kernel
theorem dX11_sums_33 : decode cX11_sums 33 = .ok (.getfield 72, 3) := by decide +kernel
theorem dX11_sums_36 : decode cX11_sums 36 = .ok (.iload_n 1, 1) := by decide +kernel
theorem dX11_sums_37 : decode cX11_sums 37 = .ok (.iaload, 1) := by decide +kernel
theorem dX11_sums_38 : decode cX11_sums 38 = .ok (.aload_n 0, 1) := by decide +kernel
theorem dX11_sums_39 : decode cX11_sums 39 = .ok (.getfield 78, 3) := by decide +kernel
theorem dX11_sums_42 : decode cX11_sums 42 = .ok (.iload_n 1, 1) := by decide +kernel
theorem dX11_sums_43 : decode cX11_sums 43 = .ok (.iaload, 1) := by decide +kernel
theorem dX11_sums_44 : decode cX11_sums 44 = .ok (.iadd, 1) := by decide +kernel
theorem dX11_sums_45 : decode cX11_sums 45 = .ok (.iastore, 1) := by decide +kernel
theorem dX11_sums_46 : decode cX11_sums 46 = .ok (.aload_n 0, 1) := by decide +kernel
theorem dX11_sums_47 : decode cX11_sums 47 = .ok (.getfield 81, 3) := by decide +kernel
theorem dX11_sums_50 : decode cX11_sums 50 = .ok (.iload_n 1, 1) := by decide +kernel
theorem dX11_sums_51 : decode cX11_sums 51 = .ok (.iconst 0, 1) := by decide +kernel
theorem dX11_sums_52 : decode cX11_sums 52 = .ok (.iastore, 1) := by decide +kernel
theorem dX11_sums_53 : decode cX11_sums 53 = .ok (.return_, 1) := by decide +kernel
theorem dX11_tests_0 : decode cX11_tests 0 = .ok (.aload_n 0, 1) := by decide +kernel
theorem dX11_tests_1 : decode cX11_tests 1 = .ok (.iload_n 1, 1) := by decide +kernel
theorem dX11_tests_2 : decode cX11_tests 2 = .ok (.invokevirtual 222, 3) := by decide +kernel
theorem dX11_tests_5 : decode cX11_tests 5 = .ok (.aload_n 0, 1) := by decide +kernel
theorem dX11_tests_6 : decode cX11_tests 6 = .ok (.getfield 72, 3) := by decide +kernel
theorem dX11_tests_9 : decode cX11_tests 9 = .ok (.iload_n 1, 1) := by decide +kernel
theorem dX11_tests_10 : decode cX11_tests 10 = .ok (.iaload, 1) := by decide +kernel
theorem dX11_tests_11 : decode cX11_tests 11 = .ok (.istore_n 2, 1) := by decide +kernel
theorem dX11_tests_12 : decode cX11_tests 12 = .ok (.aload_n 0, 1) := by decide +kernel
theorem dX11_tests_13 : decode cX11_tests 13 = .ok (.getfield 69, 3) := by decide +kernel
theorem dX11_tests_16 : decode cX11_tests 16 = .ok (.iload_n 1, 1) := by decide +kernel
theorem dX11_tests_17 : decode cX11_tests 17 = .ok (.iaload, 1) := by decide +kernel
theorem dX11_tests_18 : decode cX11_tests 18 = .ok (.bipush 24, 2) := by decide +kernel
theorem dX11_tests_20 : decode cX11_tests 20 = .ok (.if_icmp .ne 24, 3) := by decide +kernel
theorem dX11_tests_23 : decode cX11_tests 23 = .ok (.aload_n 0, 1) := by decide +kernel
theorem dX11_tests_24 : decode cX11_tests 24 = .ok (.getfield 66, 3) := by decide +kernel
theorem dX11_tests_27 : decode cX11_tests 27 = .ok (.iload_n 1, 1) := by decide +kernel
theorem dX11_tests_28 : decode cX11_tests 28 = .ok (.iaload, 1) := by decide +kernel
theorem dX11_tests_29 : decode cX11_tests 29 = .ok (.aload_n 0, 1) := by decide +kernel
theorem dX11_tests_30 : decode cX11_tests 30 = .ok (.getfield 72, 3) := by decide +kernel
theorem dX11_tests_33 : decode cX11_tests 33 = .ok (.iload_n 1, 1) := by decide +kernel
theorem dX11_tests_34 : decode cX11_tests 34 = .ok (.iaload, 1) := by decide +kernel
theorem dX11_tests_35 : decode cX11_tests 35 = .ok (.if_icmp .ge 7, 3) := by decide +kernel
theorem dX11_tests_38 : decode cX11_tests 38 = .ok (.iconst 1, 1) := by decide +kernel
theorem dX11_tests_39 : decode cX11_tests 39 = .ok (.goto 4, 3) := by decide +kernel
theorem dX11_tests_42 : decode cX11_tests 42 = .ok (.iconst 0, 1) := by decide +kernel
theorem dX11_tests_43 : decode cX11_tests 43 = .ok (.istore_n 2, 1) := by decide +kernel
theorem dX11_tests_44 : decode cX11_tests 44 = .ok (.aload_n 0, 1) := by decide +kernel
theorem dX11_tests_45 : decode cX11_tests 45 = .ok (.getfield 69, 3) := by decide +kernel
theorem dX11_tests_48 : decode cX11_tests 48 = .ok (.iload_n 1, 1) := by decide +kernel
theorem dX11_tests_49 : decode cX11_tests 49 = .ok (.iaload, 1) := by decide +kernel
theorem dX11_tests_50 : decode cX11_tests 50 = .ok (.bipush 25, 2) := by decide +kernel
theorem dX11_tests_52 : decode cX11_tests 52 = .ok (.if_icmp .ne 24, 3) := by decide +kernel
theorem dX11_tests_55 : decode cX11_tests 55 = .ok (.aload_n 0, 1) := by decide +kernel
theorem dX11_tests_56 : decode cX11_tests 56 = .ok (.getfield 66, 3) := by decide +kernel
theorem dX11_tests_59 : decode cX11_tests 59 = .ok (.iload_n 1, 1) := by decide +kernel
theorem dX11_tests_60 : decode cX11_tests 60 = .ok (.iaload, 1) := by decide +kernel
theorem dX11_tests_61 : decode cX11_tests 61 = .ok (.aload_n 0, 1) := by decide +kernel
theorem dX11_tests_62 : decode cX11_tests 62 = .ok (.getfield 72, 3) := by decide +kernel
theorem dX11_tests_65 : decode cX11_tests 65 = .ok (.iload_n 1, 1) := by decide +kernel
theorem dX11_tests_66 : decode cX11_tests 66 = .ok (.iaload, 1) := by decide +kernel
theorem dX11_tests_67 : decode cX11_tests 67 = .ok (.if_icmp .ne 7, 3) := by decide +kernel
theorem dX11_tests_70 : decode cX11_tests 70 = .ok (.iconst 1, 1) := by decide +kernel
theorem dX11_tests_71 : decode cX11_tests 71 = .ok (.goto 4, 3) := by decide +kernel
theorem dX11_tests_74 : decode cX11_tests 74 = .ok (.iconst 0, 1) := by decide +kernel
theorem dX11_tests_75 : decode cX11_tests 75 = .ok (.istore_n 2, 1) := by decide +kernel
theorem dX11_tests_76 : decode cX11_tests 76 = .ok (.aload_n 0, 1) := by decide +kernel
theorem dX11_tests_77 : decode cX11_tests 77 = .ok (.getfield 63, 3) := by decide +kernel
theorem dX11_tests_80 : decode cX11_tests 80 = .ok (.iload_n 1, 1) := by decide +kernel
theorem dX11_tests_81 : decode cX11_tests 81 = .ok (.iaload, 1) := by decide +kernel
theorem dX11_tests_82 : decode cX11_tests 82 = .ok (.bipush 26, 2) := by decide +kernel
theorem dX11_tests_84 : decode cX11_tests 84 = .ok (.if_icmp .ne 22, 3) := by decide +kernel
theorem dX11_tests_87 : decode cX11_tests 87 = .ok (.aload_n 0, 1) := by decide +kernel
theorem dX11_tests_88 : decode cX11_tests 88 = .ok (.getfield 60, 3) := by decide +kernel
theorem dX11_tests_91 : decode cX11_tests 91 = .ok (.iload_n 1, 1) := by decide +kernel
theorem dX11_tests_92 : decode cX11_tests 92 = .ok (.iaload, 1) := by decide +kernel
theorem dX11_tests_93 : decode cX11_tests 93 = .ok (.ifCond .eq 11, 3) := by decide +kernel
theorem dX11_tests_96 : decode cX11_tests 96 = .ok (.iload_n 2, 1) := by decide +kernel
theorem dX11_tests_97 : decode cX11_tests 97 = .ok (.ifCond .eq 7, 3) := by decide +kernel
theorem dX11_tests_100 : decode cX11_tests 100 = .ok (.iconst 1, 1) := by decide +kernel
theorem dX11_tests_101 : decode cX11_tests 101 = .ok (.goto 4, 3) := by decide +kernel
theorem dX11_tests_104 : decode cX11_tests 104 = .ok (.iconst 0, 1) := by decide +kernel
theorem dX11_tests_105 : decode cX11_tests 105 = .ok (.istore_n 2, 1) := by decide +kernel
theorem dX11_tests_106 : decode cX11_tests 106 = .ok (.aload_n 0, 1) := by decide +kernel
theorem dX11_tests_107 : decode cX11_tests 107 = .ok (.getfield 63, 3) := by decide +kernel
theorem dX11_tests_110 : decode cX11_tests 110 = .ok (.iload_n 1, 1) := by decide +kernel
theorem dX11_tests_111 : decode cX11_tests 111 = .ok (.iaload, 1) := by decide +kernel
theorem dX11_tests_112 : decode cX11_tests 112 = .ok (.bipush 27, 2) := by decide +kernel
theorem dX11_tests_114 : decode cX11_tests 114 = .ok (.if_icmp .ne 22, 3) := by decide +kernel
theorem dX11_tests_117 : decode cX11_tests 117 = .ok (.aload_n 0, 1) := by decide +kernel
theorem dX11_tests_118 : decode cX11_tests 118 = .ok (.getfield 60, 3) := by decide +kernel
theorem dX11_tests_121 : decode cX11_tests 121 = .ok (.iload_n 1, 1) := by decide +kernel
theorem dX11_tests_122 : decode cX11_tests 122 = .ok (.iaload, 1) := by decide +kernel
theorem dX11_tests_123 : decode cX11_tests 123 = .ok (.ifCond .ne 7, 3) := by decide +kernel
theorem dX11_tests_126 : decode cX11_tests 126 = .ok (.iload_n 2, 1) := by decide +kernel
theorem dX11_tests_127 : decode cX11_tests 127 = .ok (.ifCond .eq 7, 3) := by decide +kernel
theorem dX11_tests_130 : decode cX11_tests 130 = .ok (.iconst 1, 1) := by decide +kernel
theorem dX11_tests_131 : decode cX11_tests 131 = .ok (.goto 4, 3) := by decide +kernel
theorem dX11_tests_134 : decode cX11_tests 134 = .ok (.iconst 0, 1) := by decide +kernel
theorem dX11_tests_135 : decode cX11_tests 135 = .ok (.istore_n 2, 1) := by decide +kernel
theorem dX11_tests_136 : decode cX11_tests 136 = .ok (.aload_n 0, 1) := by decide +kernel
theorem dX11_tests_137 : decode cX11_tests 137 = .ok (.getfield 60, 3) := by decide +kernel
theorem dX11_tests_140 : decode cX11_tests 140 = .ok (.iload_n 1, 1) := by decide +kernel
theorem dX11_tests_141 : decode cX11_tests 141 = .ok (.iload_n 2, 1) := by decide +kernel
theorem dX11_tests_142 : decode cX11_tests 142 = .ok (.iastore, 1) := by decide +kernel
theorem dX11_tests_143 : decode cX11_tests 143 = .ok (.aload_n 0, 1) := by decide +kernel
theorem dX11_tests_144 : decode cX11_tests 144 = .ok (.getfield 69, 3) := by decide +kernel
theorem dX11_tests_147 : decode cX11_tests 147 = .ok (.iload_n 1, 1) := by decide +kernel
theorem dX11_tests_148 : decode cX11_tests 148 = .ok (.iconst 0, 1) := by decide +kernel
theorem dX11_tests_149 : decode cX11_tests 149 = .ok (.iastore, 1) := by decide +kernel
theorem dX11_tests_150 : decode cX11_tests 150 = .ok (.aload_n 0, 1) := by decide +kernel
theorem dX11_tests_151 : decode cX11_tests 151 = .ok (.getfield 72, 3) := by decide +kernel
theorem dX11_tests_154 : decode cX11_tests 154 = .ok (.iload_n 1, 1) := by decide +kernel
theorem dX11_tests_155 : decode cX11_tests 155 = .ok (.iconst 0, 1) := by decide +kernel
theorem dX11_tests_156 : decode cX11_tests 156 = .ok (.iastore, 1) := by decide +kernel
theorem dX11_tests_157 : decode cX11_tests 157 = .ok (.aload_n 0, 1) := by decide +kernel
theorem dX11_tests_158 : decode cX11_tests 158 = .ok (.getfield 75, 3) := by decide +kernel
theorem dX11_tests_161 : decode cX11_tests 161 = .ok (.iload_n 1, 1) := by decide +kernel
theorem dX11_tests_162 : decode cX11_tests 162 = .ok (.bipush 20, 2) := by decide +kernel
theorem dX11_tests_164 : decode cX11_tests 164 = .ok (.iastore, 1) := by decide +kernel
theorem dX11_tests_165 : decode cX11_tests 165 = .ok (.return_, 1) := by decide +kernel
theorem dX11_worked_0 : decode cX11_worked 0 = .ok (.iconst 0, 1) := by decide +kernel
theorem dX11_worked_1 : decode cX11_worked 1 = .ok (.istore_n 2, 1) := by decide +kernel
theorem dX11_worked_2 : decode cX11_worked 2 = .ok (.aload_n 0, 1) := by decide +kernel
theorem dX11_worked_3 : decode cX11_worked 3 = .ok (.iconst 0, 1) := by decide +kernel
theorem dX11_worked_4 : decode cX11_worked 4 = .ok (.invokevirtual 225, 3) := by decide +kernel
theorem dX11_worked_7 : decode cX11_worked 7 = .ok (.aload_n 0, 1) := by decide +kernel
theorem dX11_worked_8 : decode cX11_worked 8 = .ok (.getfield 44, 3) := by decide +kernel
theorem dX11_worked_11 : decode cX11_worked 11 = .ok (.iload_n 1, 1) := by decide +kernel
theorem dX11_worked_12 : decode cX11_worked 12 = .ok (.iaload, 1) := by decide +kernel
theorem dX11_worked_13 : decode cX11_worked 13 = .ok (.istore_n 3, 1) := by decide +kernel
theorem dX11_worked_14 : decode cX11_worked 14 = .ok (.iload_n 3, 1) := by decide +kernel
theorem dX11_worked_15 : decode cX11_worked 15 = .ok (.aload_n 0, 1) := by decide +kernel
theorem dX11_worked_16 : decode cX11_worked 16 = .ok (.getfield 47, 3) := by decide +kernel
theorem dX11_worked_19 : decode cX11_worked 19 = .ok (.iload_n 1, 1) := by decide +kernel
theorem dX11_worked_20 : decode cX11_worked 20 = .ok (.iaload, 1) := by decide +kernel
theorem dX11_worked_21 : decode cX11_worked 21 = .ok (.if_icmp .ge 314, 3) := by decide +kernel
theorem dX11_worked_24 : decode cX11_worked 24 = .ok (.aload_n 0, 1) := by decide +kernel
theorem dX11_worked_25 : decode cX11_worked 25 = .ok (.getfield 50, 3) := by decide +kernel
theorem dX11_worked_28 : decode cX11_worked 28 = .ok (.iload_n 3, 1) := by decide +kernel
theorem dX11_worked_29 : decode cX11_worked 29 = .ok (.iaload, 1) := by decide +kernel
theorem dX11_worked_30 : decode cX11_worked 30 = .ok (.istore 4, 2) := by decide +kernel
theorem dX11_worked_32 : decode cX11_worked 32 = .ok (.iload 4, 2) := by decide +kernel
theorem dX11_worked_34 : decode cX11_worked 34 = .ok (.bipush 28, 2) := by decide +kernel
theorem dX11_worked_36 : decode cX11_worked 36 = .ok (.if_icmp .eq 10, 3) := by decide +kernel
theorem dX11_worked_39 : decode cX11_worked 39 = .ok (.iload 4, 2) := by decide +kernel
theorem dX11_worked_41 : decode cX11_worked 41 = .ok (.bipush 30, 2) := by decide +kernel
theorem dX11_worked_43 : decode cX11_worked 43 = .ok (.if_icmp .ne 32, 3) := by decide +kernel
theorem dX11_worked_46 : decode cX11_worked 46 = .ok (.iinc 2 1, 3) := by decide +kernel
theorem dX11_worked_49 : decode cX11_worked 49 = .ok (.aload_n 0, 1) := by decide +kernel
theorem dX11_worked_50 : decode cX11_worked 50 = .ok (.getfield 84, 3) := by decide +kernel
theorem dX11_worked_53 : decode cX11_worked 53 = .ok (.iload_n 2, 1) := by decide +kernel
theorem dX11_worked_54 : decode cX11_worked 54 = .ok (.iload 4, 2) := by decide +kernel
theorem dX11_worked_56 : decode cX11_worked 56 = .ok (.bipush 30, 2) := by decide +kernel
theorem dX11_worked_58 : decode cX11_worked 58 = .ok (.if_icmp .ne 7, 3) := by decide +kernel
theorem dX11_worked_61 : decode cX11_worked 61 = .ok (.iconst 1, 1) := by decide +kernel
theorem dX11_worked_62 : decode cX11_worked 62 = .ok (.goto 4, 3) := by decide +kernel
theorem dX11_worked_65 : decode cX11_worked 65 = .ok (.iconst 0, 1) := by decide +kernel
theorem dX11_worked_66 : decode cX11_worked 66 = .ok (.iastore, 1) := by decide +kernel
theorem dX11_worked_67 : decode cX11_worked 67 = .ok (.aload_n 0, 1) := by decide +kernel
theorem dX11_worked_68 : decode cX11_worked 68 = .ok (.iload_n 2, 1) := by decide +kernel
theorem dX11_worked_69 : decode cX11_worked 69 = .ok (.invokevirtual 225, 3) := by decide +kernel
theorem dX11_worked_72 : decode cX11_worked 72 = .ok (.goto 257, 3) := by decide +kernel
theorem dX11_worked_75 : decode cX11_worked 75 = .ok (.iload 4, 2) := by decide +kernel
theorem dX11_worked_77 : decode cX11_worked 77 = .ok (.bipush 20, 2) := by decide +kernel
theorem dX11_worked_79 : decode cX11_worked 79 = .ok (.if_icmp .eq 10, 3) := by decide +kernel
theorem dX11_worked_82 : decode cX11_worked 82 = .ok (.iload 4, 2) := by decide +kernel
theorem dX11_worked_84 : decode cX11_worked 84 = .ok (.bipush 21, 2) := by decide +kernel
theorem dX11_worked_86 : decode cX11_worked 86 = .ok (.if_icmp .ne 19, 3) := by decide +kernel
theorem dX11_worked_89 : decode cX11_worked 89 = .ok (.aload_n 0, 1) := by decide +kernel
theorem dX11_worked_90 : decode cX11_worked 90 = .ok (.iload_n 2, 1) := by decide +kernel
theorem dX11_worked_91 : decode cX11_worked 91 = .ok (.invokevirtual 222, 3) := by decide +kernel
theorem dX11_worked_94 : decode cX11_worked 94 = .ok (.aload_n 0, 1) := by decide +kernel
theorem dX11_worked_95 : decode cX11_worked 95 = .ok (.getfield 75, 3) := by decide +kernel
theorem dX11_worked_98 : decode cX11_worked 98 = .ok (.iload_n 2, 1) := by decide +kernel
theorem dX11_worked_99 : decode cX11_worked 99 = .ok (.iload 4, 2) := by decide +kernel
theorem dX11_worked_101 : decode cX11_worked 101 = .ok (.iastore, 1) := by decide +kernel
theorem dX11_worked_102 : decode cX11_worked 102 = .ok (.goto 227, 3) := by decide +kernel
theorem dX11_worked_105 : decode cX11_worked 105 = .ok (.iload 4, 2) := by decide +kernel
theorem dX11_worked_107 : decode cX11_worked 107 = .ok (.bipush 22, 2) := by decide +kernel
theorem dX11_worked_109 : decode cX11_worked 109 = .ok (.if_icmp .ne 14, 3) := by decide +kernel
theorem dX11_worked_112 : decode cX11_worked 112 = .ok (.aload_n 0, 1) := by decide +kernel
theorem dX11_worked_113 : decode cX11_worked 113 = .ok (.getfield 81, 3) := by decide +kernel
theorem dX11_worked_116 : decode cX11_worked 116 = .ok (.iload_n 2, 1) := by decide +kernel
theorem dX11_worked_117 : decode cX11_worked 117 = .ok (.iload 4, 2) := by decide +kernel
theorem dX11_worked_119 : decode cX11_worked 119 = .ok (.iastore, 1) := by decide +kernel
theorem dX11_worked_120 : decode cX11_worked 120 = .ok (.goto 209, 3) := by decide +kernel
theorem dX11_worked_123 : decode cX11_worked 123 = .ok (.iload 4, 2) := by decide +kernel
theorem dX11_worked_125 : decode cX11_worked 125 = .ok (.bipush 24, 2) := by decide +kernel
theorem dX11_worked_127 : decode cX11_worked 127 = .ok (.if_icmp .eq 10, 3) := by decide +kernel
theorem dX11_worked_130 : decode cX11_worked 130 = .ok (.iload 4, 2) := by decide +kernel
theorem dX11_worked_132 : decode cX11_worked 132 = .ok (.bipush 25, 2) := by decide +kernel
theorem dX11_worked_134 : decode cX11_worked 134 = .ok (.if_icmp .ne 46, 3) := by decide +kernel
theorem dX11_worked_137 : decode cX11_worked 137 = .ok (.aload_n 0, 1) := by decide +kernel
theorem dX11_worked_138 : decode cX11_worked 138 = .ok (.iload_n 2, 1) := by decide +kernel
theorem dX11_worked_139 : decode cX11_worked 139 = .ok (.invokevirtual 222, 3) := by decide +kernel
theorem dX11_worked_142 : decode cX11_worked 142 = .ok (.aload_n 0, 1) := by decide +kernel
theorem dX11_worked_143 : decode cX11_worked 143 = .ok (.getfield 66, 3) := by decide +kernel
theorem dX11_worked_146 : decode cX11_worked 146 = .ok (.iload_n 2, 1) := by decide +kernel
theorem dX11_worked_147 : decode cX11_worked 147 = .ok (.aload_n 0, 1) := by decide +kernel
theorem dX11_worked_148 : decode cX11_worked 148 = .ok (.getfield 72, 3) := by decide +kernel
theorem dX11_worked_151 : decode cX11_worked 151 = .ok (.iload_n 2, 1) := by decide +kernel
theorem dX11_worked_152 : decode cX11_worked 152 = .ok (.iaload, 1) := by decide +kernel
theorem dX11_worked_153 : decode cX11_worked 153 = .ok (.iastore, 1) := by decide +kernel
theorem dX11_worked_154 : decode cX11_worked 154 = .ok (.aload_n 0, 1) := by decide +kernel
theorem dX11_worked_155 : decode cX11_worked 155 = .ok (.getfield 69, 3) := by decide +kernel
theorem dX11_worked_158 : decode cX11_worked 158 = .ok (.iload_n 2, 1) := by decide +kernel
theorem dX11_worked_159 : decode cX11_worked 159 = .ok (.iload 4, 2) := by decide +kernel
theorem dX11_worked_161 : decode cX11_worked 161 = .ok (.iastore, 1) := by decide +kernel
theorem dX11_worked_162 : decode cX11_worked 162 = .ok (.aload_n 0, 1) := by decide +kernel
theorem dX11_worked_163 : decode cX11_worked 163 = .ok (.getfield 72, 3) := by decide +kernel
theorem dX11_worked_166 : decode cX11_worked 166 = .ok (.iload_n 2, 1) := by decide +kernel
theorem dX11_worked_167 : decode cX11_worked 167 = .ok (.iconst 0, 1) := by decide +kernel
theorem dX11_worked_168 : decode cX11_worked 168 = .ok (.iastore, 1) := by decide +kernel
theorem dX11_worked_169 : decode cX11_worked 169 = .ok (.aload_n 0, 1) := by decide +kernel
theorem dX11_worked_170 : decode cX11_worked 170 = .ok (.getfield 75, 3) := by decide +kernel
theorem dX11_worked_173 : decode cX11_worked 173 = .ok (.iload_n 2, 1) := by decide +kernel
theorem dX11_worked_174 : decode cX11_worked 174 = .ok (.bipush 20, 2) := by decide +kernel
theorem dX11_worked_176 : decode cX11_worked 176 = .ok (.iastore, 1) := by decide +kernel
theorem dX11_worked_177 : decode cX11_worked 177 = .ok (.goto 152, 3) := by decide +kernel
theorem dX11_worked_180 : decode cX11_worked 180 = .ok (.iload 4, 2) := by decide +kernel
theorem dX11_worked_182 : decode cX11_worked 182 = .ok (.bipush 26, 2) := by decide +kernel
theorem dX11_worked_184 : decode cX11_worked 184 = .ok (.if_icmp .eq 10, 3) := by decide +kernel
theorem dX11_worked_187 : decode cX11_worked 187 = .ok (.iload 4, 2) := by decide +kernel
theorem dX11_worked_189 : decode cX11_worked 189 = .ok (.bipush 27, 2) := by decide +kernel
theorem dX11_worked_191 : decode cX11_worked 191 = .ok (.if_icmp .ne 19, 3) := by decide +kernel
theorem dX11_worked_194 : decode cX11_worked 194 = .ok (.aload_n 0, 1) := by decide +kernel
theorem dX11_worked_195 : decode cX11_worked 195 = .ok (.iload_n 2, 1) := by decide +kernel
theorem dX11_worked_196 : decode cX11_worked 196 = .ok (.invokevirtual 228, 3) := by decide +kernel
theorem dX11_worked_199 : decode cX11_worked 199 = .ok (.aload_n 0, 1) := by decide +kernel
theorem dX11_worked_200 : decode cX11_worked 200 = .ok (.getfield 63, 3) := by decide +kernel
theorem dX11_worked_203 : decode cX11_worked 203 = .ok (.iload_n 2, 1) := by decide +kernel
theorem dX11_worked_204 : decode cX11_worked 204 = .ok (.iload 4, 2) := by decide +kernel
theorem dX11_worked_206 : decode cX11_worked 206 = .ok (.iastore, 1) := by decide +kernel
theorem dX11_worked_207 : decode cX11_worked 207 = .ok (.goto 122, 3) := by decide +kernel
theorem dX11_worked_210 : decode cX11_worked 210 = .ok (.iload 4, 2) := by decide +kernel
theorem dX11_worked_212 : decode cX11_worked 212 = .ok (.bipush 100, 2) := by decide +kernel
theorem dX11_worked_214 : decode cX11_worked 214 = .ok (.if_icmp .lt 11, 3) := by decide +kernel
theorem dX11_worked_217 : decode cX11_worked 217 = .ok (.iload 4, 2) := by decide +kernel
theorem dX11_worked_219 : decode cX11_worked 219 = .ok (.bipush 100, 2) := by decide +kernel
theorem dX11_worked_221 : decode cX11_worked 221 = .ok (.isub, 1) := by decide +kernel
theorem dX11_worked_222 : decode cX11_worked 222 = .ok (.goto 21, 3) := by decide +kernel
theorem dX11_worked_225 : decode cX11_worked 225 = .ok (.iload 4, 2) := by decide +kernel
theorem dX11_worked_227 : decode cX11_worked 227 = .ok (.bipush 20, 2) := by decide +kernel
theorem dX11_worked_229 : decode cX11_worked 229 = .ok (.if_icmp .ge 13, 3) := by decide +kernel
theorem dX11_worked_232 : decode cX11_worked 232 = .ok (.aload_n 0, 1) := by decide +kernel
theorem dX11_worked_233 : decode cX11_worked 233 = .ok (.getfield 87, 3) := by decide +kernel
theorem dX11_worked_236 : decode cX11_worked 236 = .ok (.iload 4, 2) := by decide +kernel
theorem dX11_worked_238 : decode cX11_worked 238 = .ok (.iaload, 1) := by decide +kernel
theorem dX11_worked_239 : decode cX11_worked 239 = .ok (.goto 4, 3) := by decide +kernel
theorem dX11_worked_242 : decode cX11_worked 242 = .ok (.iconst 0, 1) := by decide +kernel
theorem dX11_worked_243 : decode cX11_worked 243 = .ok (.istore 5, 2) := by decide +kernel
theorem dX11_worked_245 : decode cX11_worked 245 = .ok (.iload 4, 2) := by decide +kernel
theorem dX11_worked_247 : decode cX11_worked 247 = .ok (.bipush 29, 2) := by decide +kernel
theorem dX11_worked_249 : decode cX11_worked 249 = .ok (.if_icmp .ne 19, 3) := by decide +kernel
theorem dX11_worked_252 : decode cX11_worked 252 = .ok (.aload_n 0, 1) := by decide +kernel
theorem dX11_worked_253 : decode cX11_worked 253 = .ok (.iload_n 2, 1) := by decide +kernel
theorem dX11_worked_254 : decode cX11_worked 254 = .ok (.invokevirtual 228, 3) := by decide +kernel
theorem dX11_worked_257 : decode cX11_worked 257 = .ok (.aload_n 0, 1) := by decide +kernel
theorem dX11_worked_258 : decode cX11_worked 258 = .ok (.getfield 60, 3) := by decide +kernel
theorem dX11_worked_261 : decode cX11_worked 261 = .ok (.iload_n 2, 1) := by decide +kernel
theorem dX11_worked_262 : decode cX11_worked 262 = .ok (.iaload, 1) := by decide +kernel
theorem dX11_worked_263 : decode cX11_worked 263 = .ok (.istore 5, 2) := by decide +kernel
theorem dX11_worked_265 : decode cX11_worked 265 = .ok (.iinc 2 (-1), 3) := by decide +kernel
theorem dX11_worked_268 : decode cX11_worked 268 = .ok (.iload_n 2, 1) := by decide +kernel
theorem dX11_worked_269 : decode cX11_worked 269 = .ok (.ifCond .le 31, 3) := by decide +kernel
theorem dX11_worked_272 : decode cX11_worked 272 = .ok (.aload_n 0, 1) := by decide +kernel
theorem dX11_worked_273 : decode cX11_worked 273 = .ok (.getfield 84, 3) := by decide +kernel
theorem dX11_worked_276 : decode cX11_worked 276 = .ok (.iload_n 2, 1) := by decide +kernel
theorem dX11_worked_277 : decode cX11_worked 277 = .ok (.iaload, 1) := by decide +kernel
theorem dX11_worked_278 : decode cX11_worked 278 = .ok (.iconst 1, 1) := by decide +kernel
theorem dX11_worked_279 : decode cX11_worked 279 = .ok (.if_icmp .ne 21, 3) := by decide +kernel
theorem dX11_worked_282 : decode cX11_worked 282 = .ok (.iload 5, 2) := by decide +kernel
theorem dX11_worked_284 : decode cX11_worked 284 = .ok (.ifCond .ne 7, 3) := by decide +kernel
theorem dX11_worked_287 : decode cX11_worked 287 = .ok (.iconst 1, 1) := by decide +kernel
theorem dX11_worked_288 : decode cX11_worked 288 = .ok (.goto 4, 3) := by decide +kernel
theorem dX11_worked_291 : decode cX11_worked 291 = .ok (.iconst 0, 1) := by decide +kernel
theorem dX11_worked_292 : decode cX11_worked 292 = .ok (.istore 5, 2) := by decide +kernel
theorem dX11_worked_294 : decode cX11_worked 294 = .ok (.iinc 2 (-1), 3) := by decide +kernel
theorem dX11_worked_297 : decode cX11_worked 297 = .ok (.goto (-29), 3) := by decide +kernel
theorem dX11_worked_300 : decode cX11_worked 300 = .ok (.aload_n 0, 1) := by decide +kernel
theorem dX11_worked_301 : decode cX11_worked 301 = .ok (.getfield 78, 3) := by decide +kernel
theorem dX11_worked_304 : decode cX11_worked 304 = .ok (.iload_n 2, 1) := by decide +kernel
theorem dX11_worked_305 : decode cX11_worked 305 = .ok (.aload_n 0, 1) := by decide +kernel
theorem dX11_worked_306 : decode cX11_worked 306 = .ok (.getfield 81, 3) := by decide +kernel
theorem dX11_worked_309 : decode cX11_worked 309 = .ok (.iload_n 2, 1) := by decide +kernel
theorem dX11_worked_310 : decode cX11_worked 310 = .ok (.iaload, 1) := by decide +kernel
theorem dX11_worked_311 : decode cX11_worked 311 = .ok (.ifCond .ne 8, 3) := by decide +kernel
theorem dX11_worked_314 : decode cX11_worked 314 = .ok (.iload 5, 2) := by decide +kernel
theorem dX11_worked_316 : decode cX11_worked 316 = .ok (.goto 12, 3) := by decide +kernel
theorem dX11_worked_319 : decode cX11_worked 319 = .ok (.aload_n 0, 1) := by decide +kernel
theorem dX11_worked_320 : decode cX11_worked 320 = .ok (.getfield 78, 3) := by decide +kernel
theorem dX11_worked_323 : decode cX11_worked 323 = .ok (.iload_n 2, 1) := by decide +kernel
theorem dX11_worked_324 : decode cX11_worked 324 = .ok (.iaload, 1) := by decide +kernel
theorem dX11_worked_325 : decode cX11_worked 325 = .ok (.iload 5, 2) := by decide +kernel
theorem dX11_worked_327 : decode cX11_worked 327 = .ok (.imul, 1) := by decide +kernel
theorem dX11_worked_328 : decode cX11_worked 328 = .ok (.iastore, 1) := by decide +kernel
theorem dX11_worked_329 : decode cX11_worked 329 = .ok (.iinc 3 1, 3) := by decide +kernel
theorem dX11_worked_332 : decode cX11_worked 332 = .ok (.goto (-318), 3) := by decide +kernel
theorem dX11_worked_335 : decode cX11_worked 335 = .ok (.aload_n 0, 1) := by decide +kernel
theorem dX11_worked_336 : decode cX11_worked 336 = .ok (.iconst 0, 1) := by decide +kernel
theorem dX11_worked_337 : decode cX11_worked 337 = .ok (.invokevirtual 228, 3) := by decide +kernel
theorem dX11_worked_340 : decode cX11_worked 340 = .ok (.aload_n 0, 1) := by decide +kernel
theorem dX11_worked_341 : decode cX11_worked 341 = .ok (.getfield 60, 3) := by decide +kernel
theorem dX11_worked_344 : decode cX11_worked 344 = .ok (.iconst 0, 1) := by decide +kernel
theorem dX11_worked_345 : decode cX11_worked 345 = .ok (.iaload, 1) := by decide +kernel
theorem dX11_worked_346 : decode cX11_worked 346 = .ok (.ireturn, 1) := by decide +kernel
theorem dX11_isKept_0 : decode cX11_isKept 0 = .ok (.aload_n 0, 1) := by decide +kernel
theorem dX11_isKept_1 : decode cX11_isKept 1 = .ok (.getfield 169, 3) := by decide +kernel
theorem dX11_isKept_4 : decode cX11_isKept 4 = .ok (.iconst 1, 1) := by decide +kernel
theorem dX11_isKept_5 : decode cX11_isKept 5 = .ok (.if_icmp .eq 5, 3) := by decide +kernel
theorem dX11_isKept_8 : decode cX11_isKept 8 = .ok (.iconst 1, 1) := by decide +kernel
theorem dX11_isKept_9 : decode cX11_isKept 9 = .ok (.ireturn, 1) := by decide +kernel
theorem dX11_isKept_10 : decode cX11_isKept 10 = .ok (.aload_n 0, 1) := by decide +kernel
theorem dX11_isKept_11 : decode cX11_isKept 11 = .ok (.getfield 162, 3) := by decide +kernel
theorem dX11_isKept_14 : decode cX11_isKept 14 = .ok (.ldc2_w 231, 3) := by decide +kernel
theorem dX11_isKept_17 : decode cX11_isKept 17 = .ok (.lcmp, 1) := by decide +kernel
theorem dX11_isKept_18 : decode cX11_isKept 18 = .ok (.ifCond .eq 212, 3) := by decide +kernel
theorem dX11_isKept_21 : decode cX11_isKept 21 = .ok (.aload_n 0, 1) := by decide +kernel
theorem dX11_isKept_22 : decode cX11_isKept 22 = .ok (.getfield 162, 3) := by decide +kernel
theorem dX11_isKept_25 : decode cX11_isKept 25 = .ok (.ldc2_w 233, 3) := by decide +kernel
theorem dX11_isKept_28 : decode cX11_isKept 28 = .ok (.lcmp, 1) := by decide +kernel
theorem dX11_isKept_29 : decode cX11_isKept 29 = .ok (.ifCond .eq 201, 3) := by decide +kernel
theorem dX11_isKept_32 : decode cX11_isKept 32 = .ok (.aload_n 0, 1) := by decide +kernel
theorem dX11_isKept_33 : decode cX11_isKept 33 = .ok (.getfield 162, 3) := by decide +kernel
theorem dX11_isKept_36 : decode cX11_isKept 36 = .ok (.ldc2_w 235, 3) := by decide +kernel
theorem dX11_isKept_39 : decode cX11_isKept 39 = .ok (.lcmp, 1) := by decide +kernel
theorem dX11_isKept_40 : decode cX11_isKept 40 = .ok (.ifCond .eq 190, 3) := by decide +kernel
theorem dX11_isKept_43 : decode cX11_isKept 43 = .ok (.aload_n 0, 1) := by decide +kernel
theorem dX11_isKept_44 : decode cX11_isKept 44 = .ok (.getfield 162, 3) := by decide +kernel
theorem dX11_isKept_47 : decode cX11_isKept 47 = .ok (.ldc2_w 237, 3) := by decide +kernel
theorem dX11_isKept_50 : decode cX11_isKept 50 = .ok (.lcmp, 1) := by decide +kernel
theorem dX11_isKept_51 : decode cX11_isKept 51 = .ok (.ifCond .eq 179, 3) := by decide +kernel
theorem dX11_isKept_54 : decode cX11_isKept 54 = .ok (.aload_n 0, 1) := by decide +kernel
theorem dX11_isKept_55 : decode cX11_isKept 55 = .ok (.getfield 162, 3) := by decide +kernel
theorem dX11_isKept_58 : decode cX11_isKept 58 = .ok (.ldc2_w 239, 3) := by decide +kernel
theorem dX11_isKept_61 : decode cX11_isKept 61 = .ok (.lcmp, 1) := by decide +kernel
theorem dX11_isKept_62 : decode cX11_isKept 62 = .ok (.ifCond .eq 168, 3) := by decide +kernel
theorem dX11_isKept_65 : decode cX11_isKept 65 = .ok (.aload_n 0, 1) := by decide +kernel
theorem dX11_isKept_66 : decode cX11_isKept 66 = .ok (.getfield 162, 3) := by decide +kernel
theorem dX11_isKept_69 : decode cX11_isKept 69 = .ok (.ldc2_w 241, 3) := by decide +kernel
theorem dX11_isKept_72 : decode cX11_isKept 72 = .ok (.lcmp, 1) := by decide +kernel
theorem dX11_isKept_73 : decode cX11_isKept 73 = .ok (.ifCond .eq 157, 3) := by decide +kernel
theorem dX11_isKept_76 : decode cX11_isKept 76 = .ok (.aload_n 0, 1) := by decide +kernel
theorem dX11_isKept_77 : decode cX11_isKept 77 = .ok (.getfield 162, 3) := by decide +kernel
theorem dX11_isKept_80 : decode cX11_isKept 80 = .ok (.ldc2_w 243, 3) := by decide +kernel
theorem dX11_isKept_83 : decode cX11_isKept 83 = .ok (.lcmp, 1) := by decide +kernel
theorem dX11_isKept_84 : decode cX11_isKept 84 = .ok (.ifCond .eq 146, 3) := by decide +kernel
theorem dX11_isKept_87 : decode cX11_isKept 87 = .ok (.aload_n 0, 1) := by decide +kernel
theorem dX11_isKept_88 : decode cX11_isKept 88 = .ok (.getfield 162, 3) := by decide +kernel
theorem dX11_isKept_91 : decode cX11_isKept 91 = .ok (.ldc2_w 245, 3) := by decide +kernel
theorem dX11_isKept_94 : decode cX11_isKept 94 = .ok (.lcmp, 1) := by decide +kernel
theorem dX11_isKept_95 : decode cX11_isKept 95 = .ok (.ifCond .eq 135, 3) := by decide +kernel
theorem dX11_isKept_98 : decode cX11_isKept 98 = .ok (.aload_n 0, 1) := by decide +kernel
theorem dX11_isKept_99 : decode cX11_isKept 99 = .ok (.getfield 162, 3) := by decide +kernel
theorem dX11_isKept_102 : decode cX11_isKept 102 = .ok (.ldc2_w 247, 3) := by decide +kernel
theorem dX11_isKept_105 : decode cX11_isKept 105 = .ok (.lcmp, 1) := by decide +kernel
theorem dX11_isKept_106 : decode cX11_isKept 106 = .ok (.ifCond .eq 124, 3) := by decide +kernel
theorem dX11_isKept_109 : decode cX11_isKept 109 = .ok (.aload_n 0, 1) := by decide +kernel
theorem dX11_isKept_110 : decode cX11_isKept 110 = .ok (.getfield 162, 3) := by decide +kernel
theorem dX11_isKept_113 : decode cX11_isKept 113 = .ok (.ldc2_w 249, 3) := by decide +kernel
theorem dX11_isKept_116 : decode cX11_isKept 116 = .ok (.lcmp, 1) := by decide +kernel
theorem dX11_isKept_117 : decode cX11_isKept 117 = .ok (.ifCond .eq 113, 3) := by decide +kernel
theorem dX11_isKept_120 : decode cX11_isKept 120 = .ok (.aload_n 0, 1) := by decide +kernel
theorem dX11_isKept_121 : decode cX11_isKept 121 = .ok (.getfield 162, 3) := by decide +kernel
theorem dX11_isKept_124 : decode cX11_isKept 124 = .ok (.ldc2_w 251, 3) := by decide +kernel
theorem dX11_isKept_127 : decode cX11_isKept 127 = .ok (.lcmp, 1) := by decide +kernel
theorem dX11_isKept_128 : decode cX11_isKept 128 = .ok (.ifCond .eq 102, 3) := by decide +kernel
theorem dX11_isKept_131 : decode cX11_isKept 131 = .ok (.aload_n 0, 1) := by decide +kernel
theorem dX11_isKept_132 : decode cX11_isKept 132 = .ok (.getfield 162, 3) := by decide +kernel
theorem dX11_isKept_135 : decode cX11_isKept 135 = .ok (.ldc2_w 253, 3) := by decide +kernel
theorem dX11_isKept_138 : decode cX11_isKept 138 = .ok (.lcmp, 1) := by decide +kernel
theorem dX11_isKept_139 : decode cX11_isKept 139 = .ok (.ifCond .eq 91, 3) := by decide +kernel
theorem dX11_isKept_142 : decode cX11_isKept 142 = .ok (.aload_n 0, 1) := by decide +kernel
theorem dX11_isKept_143 : decode cX11_isKept 143 = .ok (.getfield 162, 3) := by decide +kernel
theorem dX11_isKept_146 : decode cX11_isKept 146 = .ok (.ldc2_w 255, 3) := by decide +kernel
theorem dX11_isKept_149 : decode cX11_isKept 149 = .ok (.lcmp, 1) := by decide +kernel
theorem dX11_isKept_150 : decode cX11_isKept 150 = .ok (.ifCond .eq 80, 3) := by decide +kernel
theorem dX11_isKept_153 : decode cX11_isKept 153 = .ok (.aload_n 0, 1) := by decide +kernel
theorem dX11_isKept_154 : decode cX11_isKept 154 = .ok (.getfield 162, 3) := by decide +kernel
theorem dX11_isKept_157 : decode cX11_isKept 157 = .ok (.ldc2_w 257, 3) := by decide +kernel
theorem dX11_isKept_160 : decode cX11_isKept 160 = .ok (.lcmp, 1) := by decide +kernel
theorem dX11_isKept_161 : decode cX11_isKept 161 = .ok (.ifCond .eq 69, 3) := by decide +kernel
theorem dX11_isKept_164 : decode cX11_isKept 164 = .ok (.aload_n 0, 1) := by decide +kernel
theorem dX11_isKept_165 : decode cX11_isKept 165 = .ok (.getfield 162, 3) := by decide +kernel
theorem dX11_isKept_168 : decode cX11_isKept 168 = .ok (.ldc2_w 259, 3) := by decide +kernel
theorem dX11_isKept_171 : decode cX11_isKept 171 = .ok (.lcmp, 1) := by decide +kernel
theorem dX11_isKept_172 : decode cX11_isKept 172 = .ok (.ifCond .eq 58, 3) := by decide +kernel
theorem dX11_isKept_175 : decode cX11_isKept 175 = .ok (.aload_n 0, 1) := by decide +kernel
theorem dX11_isKept_176 : decode cX11_isKept 176 = .ok (.getfield 162, 3) := by decide +kernel
theorem dX11_isKept_179 : decode cX11_isKept 179 = .ok (.ldc2_w 261, 3) := by decide +kernel
theorem dX11_isKept_182 : decode cX11_isKept 182 = .ok (.lcmp, 1) := by decide +kernel
theorem dX11_isKept_183 : decode cX11_isKept 183 = .ok (.ifCond .eq 47, 3) := by decide +kernel
theorem dX11_isKept_186 : decode cX11_isKept 186 = .ok (.aload_n 0, 1) := by decide +kernel
theorem dX11_isKept_187 : decode cX11_isKept 187 = .ok (.getfield 162, 3) := by decide +kernel
theorem dX11_isKept_190 : decode cX11_isKept 190 = .ok (.ldc2_w 263, 3) := by decide +kernel
theorem dX11_isKept_193 : decode cX11_isKept 193 = .ok (.lcmp, 1) := by decide +kernel
theorem dX11_isKept_194 : decode cX11_isKept 194 = .ok (.ifCond .eq 36, 3) := by decide +kernel
theorem dX11_isKept_197 : decode cX11_isKept 197 = .ok (.aload_n 0, 1) := by decide +kernel
theorem dX11_isKept_198 : decode cX11_isKept 198 = .ok (.getfield 162, 3) := by decide +kernel
theorem dX11_isKept_201 : decode cX11_isKept 201 = .ok (.ldc2_w 198, 3) := by decide +kernel
theorem dX11_isKept_204 : decode cX11_isKept 204 = .ok (.lcmp, 1) := by decide +kernel
theorem dX11_isKept_205 : decode cX11_isKept 205 = .ok (.ifCond .eq 25, 3) := by decide +kernel
theorem dX11_isKept_208 : decode cX11_isKept 208 = .ok (.aload_n 0, 1) := by decide +kernel
theorem dX11_isKept_209 : decode cX11_isKept 209 = .ok (.getfield 162, 3) := by decide +kernel
theorem dX11_isKept_212 : decode cX11_isKept 212 = .ok (.ldc2_w 218, 3) := by decide +kernel
theorem dX11_isKept_215 : decode cX11_isKept 215 = .ok (.lcmp, 1) := by decide +kernel
theorem dX11_isKept_216 : decode cX11_isKept 216 = .ok (.ifCond .eq 14, 3) := by decide +kernel
theorem dX11_isKept_219 : decode cX11_isKept 219 = .ok (.aload_n 0, 1) := by decide +kernel
theorem dX11_isKept_220 : decode cX11_isKept 220 = .ok (.getfield 162, 3) := by decide +kernel
theorem dX11_isKept_223 : decode cX11_isKept 223 = .ok (.ldc2_w 220, 3) := by decide +kernel
theorem dX11_isKept_226 : decode cX11_isKept 226 = .ok (.lcmp, 1) := by decide +kernel
theorem dX11_isKept_227 : decode cX11_isKept 227 = .ok (.ifCond .ne 7, 3) := by decide +kernel
theorem dX11_isKept_230 : decode cX11_isKept 230 = .ok (.iconst 1, 1) := by decide +kernel
theorem dX11_isKept_231 : decode cX11_isKept 231 = .ok (.goto 4, 3) := by decide +kernel
theorem dX11_isKept_234 : decode cX11_isKept 234 = .ok (.iconst 0, 1) := by decide +kernel
theorem dX11_isKept_235 : decode cX11_isKept 235 = .ok (.ireturn, 1) := by decide +kernel
theorem dX11_skinNamed_0 : decode cX11_skinNamed 0 = .ok (.iconst 3, 1) := by decide +kernel
theorem dX11_skinNamed_1 : decode cX11_skinNamed 1 = .ok (.iload_n 1, 1) := by decide +kernel
theorem dX11_skinNamed_2 : decode cX11_skinNamed 2 = .ok (.imul, 1) := by decide +kernel
theorem dX11_skinNamed_3 : decode cX11_skinNamed 3 = .ok (.istore_n 2, 1) := by decide +kernel
theorem dX11_skinNamed_4 : decode cX11_skinNamed 4 = .ok (.iload_n 2, 1) := by decide +kernel
theorem dX11_skinNamed_5 : decode cX11_skinNamed 5 = .ok (.iconst 3, 1) := by decide +kernel
theorem dX11_skinNamed_6 : decode cX11_skinNamed 6 = .ok (.iload_n 1, 1) := by decide +kernel
theorem dX11_skinNamed_7 : decode cX11_skinNamed 7 = .ok (.imul, 1) := by decide +kernel
theorem dX11_skinNamed_8 : decode cX11_skinNamed 8 = .ok (.aload_n 0, 1) := by decide +kernel
theorem dX11_skinNamed_9 : decode cX11_skinNamed 9 = .ok (.getfield 13, 3) := by decide +kernel
theorem dX11_skinNamed_12 : decode cX11_skinNamed 12 = .ok (.iconst 3, 1) := by decide +kernel
theorem dX11_skinNamed_13 : decode cX11_skinNamed 13 = .ok (.iload_n 1, 1) := by decide +kernel
theorem dX11_skinNamed_14 : decode cX11_skinNamed 14 = .ok (.imul, 1) := by decide +kernel
theorem dX11_skinNamed_15 : decode cX11_skinNamed 15 = .ok (.iconst 0, 1) := by decide +kernel
theorem dX11_skinNamed_16 : decode cX11_skinNamed 16 = .ok (.iadd, 1) := by decide +kernel
theorem dX11_skinNamed_17 : decode cX11_skinNamed 17 = .ok (.iaload, 1) := by decide +kernel
theorem dX11_skinNamed_18 : decode cX11_skinNamed 18 = .ok (.iadd, 1) := by decide +kernel
theorem dX11_skinNamed_19 : decode cX11_skinNamed 19 = .ok (.if_icmp .ge 29, 3) := by decide +kernel
theorem dX11_skinNamed_22 : decode cX11_skinNamed 22 = .ok (.aload_n 0, 1) := by decide +kernel
theorem dX11_skinNamed_23 : decode cX11_skinNamed 23 = .ok (.getfield 16, 3) := by decide +kernel
theorem dX11_skinNamed_26 : decode cX11_skinNamed 26 = .ok (.iload_n 2, 1) := by decide +kernel
theorem dX11_skinNamed_27 : decode cX11_skinNamed 27 = .ok (.laload, 1) := by decide +kernel
theorem dX11_skinNamed_28 : decode cX11_skinNamed 28 = .ok (.aload_n 0, 1) := by decide +kernel
theorem dX11_skinNamed_29 : decode cX11_skinNamed 29 = .ok (.getfield 162, 3) := by decide +kernel
theorem dX11_skinNamed_32 : decode cX11_skinNamed 32 = .ok (.lcmp, 1) := by decide +kernel
theorem dX11_skinNamed_33 : decode cX11_skinNamed 33 = .ok (.ifCond .ne 9, 3) := by decide +kernel
theorem dX11_skinNamed_36 : decode cX11_skinNamed 36 = .ok (.iload_n 2, 1) := by decide +kernel
theorem dX11_skinNamed_37 : decode cX11_skinNamed 37 = .ok (.iconst 3, 1) := by decide +kernel
theorem dX11_skinNamed_38 : decode cX11_skinNamed 38 = .ok (.iload_n 1, 1) := by decide +kernel
theorem dX11_skinNamed_39 : decode cX11_skinNamed 39 = .ok (.imul, 1) := by decide +kernel
theorem dX11_skinNamed_40 : decode cX11_skinNamed 40 = .ok (.isub, 1) := by decide +kernel
theorem dX11_skinNamed_41 : decode cX11_skinNamed 41 = .ok (.ireturn, 1) := by decide +kernel
theorem dX11_skinNamed_42 : decode cX11_skinNamed 42 = .ok (.iinc 2 1, 3) := by decide +kernel
theorem dX11_skinNamed_45 : decode cX11_skinNamed 45 = .ok (.goto (-41), 3) := by decide +kernel
theorem dX11_skinNamed_48 : decode cX11_skinNamed 48 = .ok (.iconst (-1), 1) := by decide +kernel
theorem dX11_skinNamed_49 : decode cX11_skinNamed 49 = .ok (.ireturn, 1) := by decide +kernel
theorem dX11_textNamed_0 : decode cX11_textNamed 0 = .ok (.bipush 6, 2) := by decide +kernel
theorem dX11_textNamed_2 : decode cX11_textNamed 2 = .ok (.iload_n 1, 1) := by decide +kernel
theorem dX11_textNamed_3 : decode cX11_textNamed 3 = .ok (.imul, 1) := by decide +kernel
theorem dX11_textNamed_4 : decode cX11_textNamed 4 = .ok (.istore_n 2, 1) := by decide +kernel
theorem dX11_textNamed_5 : decode cX11_textNamed 5 = .ok (.iload_n 2, 1) := by decide +kernel
theorem dX11_textNamed_6 : decode cX11_textNamed 6 = .ok (.bipush 6, 2) := by decide +kernel
theorem dX11_textNamed_8 : decode cX11_textNamed 8 = .ok (.iload_n 1, 1) := by decide +kernel
theorem dX11_textNamed_9 : decode cX11_textNamed 9 = .ok (.imul, 1) := by decide +kernel
theorem dX11_textNamed_10 : decode cX11_textNamed 10 = .ok (.aload_n 0, 1) := by decide +kernel
theorem dX11_textNamed_11 : decode cX11_textNamed 11 = .ok (.getfield 13, 3) := by decide +kernel
theorem dX11_textNamed_14 : decode cX11_textNamed 14 = .ok (.iconst 3, 1) := by decide +kernel
theorem dX11_textNamed_15 : decode cX11_textNamed 15 = .ok (.iload_n 1, 1) := by decide +kernel
theorem dX11_textNamed_16 : decode cX11_textNamed 16 = .ok (.imul, 1) := by decide +kernel
theorem dX11_textNamed_17 : decode cX11_textNamed 17 = .ok (.iconst 1, 1) := by decide +kernel
theorem dX11_textNamed_18 : decode cX11_textNamed 18 = .ok (.iadd, 1) := by decide +kernel
theorem dX11_textNamed_19 : decode cX11_textNamed 19 = .ok (.iaload, 1) := by decide +kernel
theorem dX11_textNamed_20 : decode cX11_textNamed 20 = .ok (.iadd, 1) := by decide +kernel
theorem dX11_textNamed_21 : decode cX11_textNamed 21 = .ok (.if_icmp .ge 30, 3) := by decide +kernel
theorem dX11_textNamed_24 : decode cX11_textNamed 24 = .ok (.aload_n 0, 1) := by decide +kernel
theorem dX11_textNamed_25 : decode cX11_textNamed 25 = .ok (.getfield 20, 3) := by decide +kernel
theorem dX11_textNamed_28 : decode cX11_textNamed 28 = .ok (.iload_n 2, 1) := by decide +kernel
theorem dX11_textNamed_29 : decode cX11_textNamed 29 = .ok (.laload, 1) := by decide +kernel
theorem dX11_textNamed_30 : decode cX11_textNamed 30 = .ok (.aload_n 0, 1) := by decide +kernel
theorem dX11_textNamed_31 : decode cX11_textNamed 31 = .ok (.getfield 162, 3) := by decide +kernel
theorem dX11_textNamed_34 : decode cX11_textNamed 34 = .ok (.lcmp, 1) := by decide +kernel
theorem dX11_textNamed_35 : decode cX11_textNamed 35 = .ok (.ifCond .ne 10, 3) := by decide +kernel
theorem dX11_textNamed_38 : decode cX11_textNamed 38 = .ok (.iload_n 2, 1) := by decide +kernel
theorem dX11_textNamed_39 : decode cX11_textNamed 39 = .ok (.bipush 6, 2) := by decide +kernel
theorem dX11_textNamed_41 : decode cX11_textNamed 41 = .ok (.iload_n 1, 1) := by decide +kernel
theorem dX11_textNamed_42 : decode cX11_textNamed 42 = .ok (.imul, 1) := by decide +kernel
theorem dX11_textNamed_43 : decode cX11_textNamed 43 = .ok (.isub, 1) := by decide +kernel
theorem dX11_textNamed_44 : decode cX11_textNamed 44 = .ok (.ireturn, 1) := by decide +kernel
theorem dX11_textNamed_45 : decode cX11_textNamed 45 = .ok (.iinc 2 1, 3) := by decide +kernel
theorem dX11_textNamed_48 : decode cX11_textNamed 48 = .ok (.goto (-43), 3) := by decide +kernel
theorem dX11_textNamed_51 : decode cX11_textNamed 51 = .ok (.iconst (-1), 1) := by decide +kernel
theorem dX11_textNamed_52 : decode cX11_textNamed 52 = .ok (.ireturn, 1) := by decide +kernel
theorem dX11_needsNumber_0 : decode cX11_needsNumber 0 = .ok (.aload_n 0, 1) := by decide +kernel
theorem dX11_needsNumber_1 : decode cX11_needsNumber 1 = .ok (.getfield 169, 3) := by decide +kernel
theorem dX11_needsNumber_4 : decode cX11_needsNumber 4 = .ok (.iconst 2, 1) := by decide +kernel
theorem dX11_needsNumber_5 : decode cX11_needsNumber 5 = .ok (.if_icmp .eq 9, 3) := by decide +kernel
theorem dX11_needsNumber_8 : decode cX11_needsNumber 8 = .ok (.aload_n 0, 1) := by decide +kernel
theorem dX11_needsNumber_9 : decode cX11_needsNumber 9 = .ok (.iconst 1, 1) := by decide +kernel
theorem dX11_needsNumber_10 : decode cX11_needsNumber 10 = .ok (.invokevirtual 208, 3) := by decide +kernel
theorem dX11_needsNumber_13 : decode cX11_needsNumber 13 = .ok (.ireturn, 1) := by decide +kernel
theorem dX11_needsNumber_14 : decode cX11_needsNumber 14 = .ok (.aload_n 0, 1) := by decide +kernel
theorem dX11_needsNumber_15 : decode cX11_needsNumber 15 = .ok (.getfield 166, 3) := by decide +kernel
theorem dX11_needsNumber_18 : decode cX11_needsNumber 18 = .ok (.iload_n 1, 1) := by decide +kernel
theorem dX11_needsNumber_19 : decode cX11_needsNumber 19 = .ok (.iload_n 2, 1) := by decide +kernel
theorem dX11_needsNumber_20 : decode cX11_needsNumber 20 = .ok (.invokestatic 265, 3) := by decide +kernel
theorem dX11_needsNumber_23 : decode cX11_needsNumber 23 = .ok (.ifCond .ne 9, 3) := by decide +kernel
theorem dX11_needsNumber_26 : decode cX11_needsNumber 26 = .ok (.aload_n 0, 1) := by decide +kernel
theorem dX11_needsNumber_27 : decode cX11_needsNumber 27 = .ok (.iconst 4, 1) := by decide +kernel
theorem dX11_needsNumber_28 : decode cX11_needsNumber 28 = .ok (.invokevirtual 208, 3) := by decide +kernel
theorem dX11_needsNumber_31 : decode cX11_needsNumber 31 = .ok (.ireturn, 1) := by decide +kernel
theorem dX11_needsNumber_32 : decode cX11_needsNumber 32 = .ok (.aload_n 0, 1) := by decide +kernel
theorem dX11_needsNumber_33 : decode cX11_needsNumber 33 = .ok (.aload_n 0, 1) := by decide +kernel
theorem dX11_needsNumber_34 : decode cX11_needsNumber 34 = .ok (.getfield 166, 3) := by decide +kernel
theorem dX11_needsNumber_37 : decode cX11_needsNumber 37 = .ok (.putfield 269, 3) := by decide +kernel
theorem dX11_needsNumber_40 : decode cX11_needsNumber 40 = .ok (.aload_n 0, 1) := by decide +kernel
theorem dX11_needsNumber_41 : decode cX11_needsNumber 41 = .ok (.invokevirtual 215, 3) := by decide +kernel
theorem dX11_needsNumber_44 : decode cX11_needsNumber 44 = .ok (.iconst 1, 1) := by decide +kernel
theorem dX11_needsNumber_45 : decode cX11_needsNumber 45 = .ok (.ireturn, 1) := by decide +kernel
theorem dX11_needsBoth_0 : decode cX11_needsBoth 0 = .ok (.aload_n 0, 1) := by decide +kernel
theorem dX11_needsBoth_1 : decode cX11_needsBoth 1 = .ok (.lload_n 1, 1) := by decide +kernel
theorem dX11_needsBoth_2 : decode cX11_needsBoth 2 = .ok (.invokevirtual 200, 3) := by decide +kernel
theorem dX11_needsBoth_5 : decode cX11_needsBoth 5 = .ok (.ifCond .ne 9, 3) := by decide +kernel
theorem dX11_needsBoth_8 : decode cX11_needsBoth 8 = .ok (.aload_n 0, 1) := by decide +kernel
theorem dX11_needsBoth_9 : decode cX11_needsBoth 9 = .ok (.iconst 1, 1) := by decide +kernel
theorem dX11_needsBoth_10 : decode cX11_needsBoth 10 = .ok (.invokevirtual 208, 3) := by decide +kernel
theorem dX11_needsBoth_13 : decode cX11_needsBoth 13 = .ok (.ireturn, 1) := by decide +kernel
theorem dX11_needsBoth_14 : decode cX11_needsBoth 14 = .ok (.aload_n 0, 1) := by decide +kernel
theorem dX11_needsBoth_15 : decode cX11_needsBoth 15 = .ok (.invokevirtual 215, 3) := by decide +kernel
theorem dX11_needsBoth_18 : decode cX11_needsBoth 18 = .ok (.aload_n 0, 1) := by decide +kernel
theorem dX11_needsBoth_19 : decode cX11_needsBoth 19 = .ok (.iload_n 3, 1) := by decide +kernel
theorem dX11_needsBoth_20 : decode cX11_needsBoth 20 = .ok (.iload 4, 2) := by decide +kernel
theorem dX11_needsBoth_22 : decode cX11_needsBoth 22 = .ok (.invokevirtual 272, 3) := by decide +kernel
theorem dX11_needsBoth_25 : decode cX11_needsBoth 25 = .ok (.ireturn, 1) := by decide +kernel
theorem dX11_closes_0 : decode cX11_closes 0 = .ok (.aload_n 0, 1) := by decide +kernel
theorem dX11_closes_1 : decode cX11_closes 1 = .ok (.bipush 59, 2) := by decide +kernel
theorem dX11_closes_3 : decode cX11_closes 3 = .ok (.invokevirtual 204, 3) := by decide +kernel
theorem dX11_closes_6 : decode cX11_closes 6 = .ok (.ifCond .ne 9, 3) := by decide +kernel
theorem dX11_closes_9 : decode cX11_closes 9 = .ok (.aload_n 0, 1) := by decide +kernel
theorem dX11_closes_10 : decode cX11_closes 10 = .ok (.iconst 1, 1) := by decide +kernel
theorem dX11_closes_11 : decode cX11_closes 11 = .ok (.invokevirtual 208, 3) := by decide +kernel
theorem dX11_closes_14 : decode cX11_closes 14 = .ok (.ireturn, 1) := by decide +kernel
theorem dX11_closes_15 : decode cX11_closes 15 = .ok (.aload_n 0, 1) := by decide +kernel
theorem dX11_closes_16 : decode cX11_closes 16 = .ok (.invokevirtual 215, 3) := by decide +kernel
theorem dX11_closes_19 : decode cX11_closes 19 = .ok (.iconst 1, 1) := by decide +kernel
theorem dX11_closes_20 : decode cX11_closes 20 = .ok (.ireturn, 1) := by decide +kernel
theorem dX11_needsNew_0 : decode cX11_needsNew 0 = .ok (.aload_n 0, 1) := by decide +kernel
theorem dX11_needsNew_1 : decode cX11_needsNew 1 = .ok (.invokevirtual 276, 3) := by decide +kernel
theorem dX11_needsNew_4 : decode cX11_needsNew 4 = .ok (.ifCond .eq 9, 3) := by decide +kernel
theorem dX11_needsNew_7 : decode cX11_needsNew 7 = .ok (.aload_n 0, 1) := by decide +kernel
theorem dX11_needsNew_8 : decode cX11_needsNew 8 = .ok (.iconst 1, 1) := by decide +kernel
theorem dX11_needsNew_9 : decode cX11_needsNew 9 = .ok (.invokevirtual 208, 3) := by decide +kernel
theorem dX11_needsNew_12 : decode cX11_needsNew 12 = .ok (.ireturn, 1) := by decide +kernel
theorem dX11_needsNew_13 : decode cX11_needsNew 13 = .ok (.aload_n 0, 1) := by decide +kernel
theorem dX11_needsNew_14 : decode cX11_needsNew 14 = .ok (.iconst 1, 1) := by decide +kernel
theorem dX11_needsNew_15 : decode cX11_needsNew 15 = .ok (.invokevirtual 280, 3) := by decide +kernel
theorem dX11_needsNew_18 : decode cX11_needsNew 18 = .ok (.ifCond .ge 11, 3) := by decide +kernel
theorem dX11_needsNew_21 : decode cX11_needsNew 21 = .ok (.aload_n 0, 1) := by decide +kernel
theorem dX11_needsNew_22 : decode cX11_needsNew 22 = .ok (.iconst 1, 1) := by decide +kernel
theorem dX11_needsNew_23 : decode cX11_needsNew 23 = .ok (.invokevirtual 283, 3) := by decide +kernel
theorem dX11_needsNew_26 : decode cX11_needsNew 26 = .ok (.ifCond .lt 9, 3) := by decide +kernel
theorem dX11_needsNew_29 : decode cX11_needsNew 29 = .ok (.aload_n 0, 1) := by decide +kernel
theorem dX11_needsNew_30 : decode cX11_needsNew 30 = .ok (.iconst 3, 1) := by decide +kernel
theorem dX11_needsNew_31 : decode cX11_needsNew 31 = .ok (.invokevirtual 208, 3) := by decide +kernel
theorem dX11_needsNew_34 : decode cX11_needsNew 34 = .ok (.ireturn, 1) := by decide +kernel
theorem dX11_needsNew_35 : decode cX11_needsNew 35 = .ok (.aload_n 0, 1) := by decide +kernel
theorem dX11_needsNew_36 : decode cX11_needsNew 36 = .ok (.aload_n 0, 1) := by decide +kernel
theorem dX11_needsNew_37 : decode cX11_needsNew 37 = .ok (.getfield 162, 3) := by decide +kernel
theorem dX11_needsNew_40 : decode cX11_needsNew 40 = .ok (.putfield 286, 3) := by decide +kernel
theorem dX11_needsNew_43 : decode cX11_needsNew 43 = .ok (.aload_n 0, 1) := by decide +kernel
theorem dX11_needsNew_44 : decode cX11_needsNew 44 = .ok (.invokevirtual 215, 3) := by decide +kernel
theorem dX11_needsNew_47 : decode cX11_needsNew 47 = .ok (.iconst 1, 1) := by decide +kernel
theorem dX11_needsNew_48 : decode cX11_needsNew 48 = .ok (.ireturn, 1) := by decide +kernel
theorem dX11_needsSkin_0 : decode cX11_needsSkin 0 = .ok (.aload_n 0, 1) := by decide +kernel
theorem dX11_needsSkin_1 : decode cX11_needsSkin 1 = .ok (.invokevirtual 276, 3) := by decide +kernel
theorem dX11_needsSkin_4 : decode cX11_needsSkin 4 = .ok (.ifCond .eq 9, 3) := by decide +kernel
theorem dX11_needsSkin_7 : decode cX11_needsSkin 7 = .ok (.aload_n 0, 1) := by decide +kernel
theorem dX11_needsSkin_8 : decode cX11_needsSkin 8 = .ok (.iconst 1, 1) := by decide +kernel
theorem dX11_needsSkin_9 : decode cX11_needsSkin 9 = .ok (.invokevirtual 208, 3) := by decide +kernel
theorem dX11_needsSkin_12 : decode cX11_needsSkin 12 = .ok (.ireturn, 1) := by decide +kernel
theorem dX11_needsSkin_13 : decode cX11_needsSkin 13 = .ok (.aload_n 0, 1) := by decide +kernel
theorem dX11_needsSkin_14 : decode cX11_needsSkin 14 = .ok (.aload_n 0, 1) := by decide +kernel
theorem dX11_needsSkin_15 : decode cX11_needsSkin 15 = .ok (.iload_n 1, 1) := by decide +kernel
theorem dX11_needsSkin_16 : decode cX11_needsSkin 16 = .ok (.invokevirtual 280, 3) := by decide +kernel
theorem dX11_needsSkin_19 : decode cX11_needsSkin 19 = .ok (.putfield 269, 3) := by decide +kernel
theorem dX11_needsSkin_22 : decode cX11_needsSkin 22 = .ok (.aload_n 0, 1) := by decide +kernel
theorem dX11_needsSkin_23 : decode cX11_needsSkin 23 = .ok (.getfield 269, 3) := by decide +kernel
theorem dX11_needsSkin_26 : decode cX11_needsSkin 26 = .ok (.ifCond .ge 9, 3) := by decide +kernel
theorem dX11_needsSkin_29 : decode cX11_needsSkin 29 = .ok (.aload_n 0, 1) := by decide +kernel
theorem dX11_needsSkin_30 : decode cX11_needsSkin 30 = .ok (.iconst 2, 1) := by decide +kernel
theorem dX11_needsSkin_31 : decode cX11_needsSkin 31 = .ok (.invokevirtual 208, 3) := by decide +kernel
theorem dX11_needsSkin_34 : decode cX11_needsSkin 34 = .ok (.ireturn, 1) := by decide +kernel
theorem dX11_needsSkin_35 : decode cX11_needsSkin 35 = .ok (.aload_n 0, 1) := by decide +kernel
theorem dX11_needsSkin_36 : decode cX11_needsSkin 36 = .ok (.invokevirtual 215, 3) := by decide +kernel
theorem dX11_needsSkin_39 : decode cX11_needsSkin 39 = .ok (.iconst 1, 1) := by decide +kernel
theorem dX11_needsSkin_40 : decode cX11_needsSkin 40 = .ok (.ireturn, 1) := by decide +kernel
theorem dX11_needsText_0 : decode cX11_needsText 0 = .ok (.aload_n 0, 1) := by decide +kernel
theorem dX11_needsText_1 : decode cX11_needsText 1 = .ok (.invokevirtual 276, 3) := by decide +kernel
theorem dX11_needsText_4 : decode cX11_needsText 4 = .ok (.ifCond .eq 9, 3) := by decide +kernel
theorem dX11_needsText_7 : decode cX11_needsText 7 = .ok (.aload_n 0, 1) := by decide +kernel
theorem dX11_needsText_8 : decode cX11_needsText 8 = .ok (.iconst 1, 1) := by decide +kernel
theorem dX11_needsText_9 : decode cX11_needsText 9 = .ok (.invokevirtual 208, 3) := by decide +kernel
theorem dX11_needsText_12 : decode cX11_needsText 12 = .ok (.ireturn, 1) := by decide +kernel
theorem dX11_needsText_13 : decode cX11_needsText 13 = .ok (.aload_n 0, 1) := by decide +kernel
theorem dX11_needsText_14 : decode cX11_needsText 14 = .ok (.aload_n 0, 1) := by decide +kernel
theorem dX11_needsText_15 : decode cX11_needsText 15 = .ok (.iconst 0, 1) := by decide +kernel
theorem dX11_needsText_16 : decode cX11_needsText 16 = .ok (.invokevirtual 283, 3) := by decide +kernel
theorem dX11_needsText_19 : decode cX11_needsText 19 = .ok (.putfield 269, 3) := by decide +kernel
theorem dX11_needsText_22 : decode cX11_needsText 22 = .ok (.aload_n 0, 1) := by decide +kernel
theorem dX11_needsText_23 : decode cX11_needsText 23 = .ok (.getfield 269, 3) := by decide +kernel
theorem dX11_needsText_26 : decode cX11_needsText 26 = .ok (.ifCond .ge 9, 3) := by decide +kernel
theorem dX11_needsText_29 : decode cX11_needsText 29 = .ok (.aload_n 0, 1) := by decide +kernel
theorem dX11_needsText_30 : decode cX11_needsText 30 = .ok (.iconst 2, 1) := by decide +kernel
theorem dX11_needsText_31 : decode cX11_needsText 31 = .ok (.invokevirtual 208, 3) := by decide +kernel
theorem dX11_needsText_34 : decode cX11_needsText 34 = .ok (.ireturn, 1) := by decide +kernel
theorem dX11_needsText_35 : decode cX11_needsText 35 = .ok (.aload_n 0, 1) := by decide +kernel
theorem dX11_needsText_36 : decode cX11_needsText 36 = .ok (.invokevirtual 215, 3) := by decide +kernel
theorem dX11_needsText_39 : decode cX11_needsText 39 = .ok (.iconst 1, 1) := by decide +kernel
theorem dX11_needsText_40 : decode cX11_needsText 40 = .ok (.ireturn, 1) := by decide +kernel
theorem dX11_readsSkin_0 : decode cX11_readsSkin 0 = .ok (.iconst 3, 1) := by decide +kernel
theorem dX11_readsSkin_1 : decode cX11_readsSkin 1 = .ok (.aload_n 0, 1) := by decide +kernel
theorem dX11_readsSkin_2 : decode cX11_readsSkin 2 = .ok (.getfield 13, 3) := by decide +kernel
theorem dX11_readsSkin_5 : decode cX11_readsSkin 5 = .ok (.iconst 3, 1) := by decide +kernel
theorem dX11_readsSkin_6 : decode cX11_readsSkin 6 = .ok (.iaload, 1) := by decide +kernel
theorem dX11_readsSkin_7 : decode cX11_readsSkin 7 = .ok (.iadd, 1) := by decide +kernel
theorem dX11_readsSkin_8 : decode cX11_readsSkin 8 = .ok (.istore_n 1, 1) := by decide +kernel
theorem dX11_readsSkin_9 : decode cX11_readsSkin 9 = .ok (.iload_n 1, 1) := by decide +kernel
theorem dX11_readsSkin_10 : decode cX11_readsSkin 10 = .ok (.bipush 6, 2) := by decide +kernel
theorem dX11_readsSkin_12 : decode cX11_readsSkin 12 = .ok (.if_icmp .ne 9, 3) := by decide +kernel
theorem dX11_readsSkin_15 : decode cX11_readsSkin 15 = .ok (.aload_n 0, 1) := by decide +kernel
theorem dX11_readsSkin_16 : decode cX11_readsSkin 16 = .ok (.iconst 5, 1) := by decide +kernel
theorem dX11_readsSkin_17 : decode cX11_readsSkin 17 = .ok (.invokevirtual 208, 3) := by decide +kernel
theorem dX11_readsSkin_20 : decode cX11_readsSkin 20 = .ok (.ireturn, 1) := by decide +kernel
theorem dX11_readsSkin_21 : decode cX11_readsSkin 21 = .ok (.aload_n 0, 1) := by decide +kernel
theorem dX11_readsSkin_22 : decode cX11_readsSkin 22 = .ok (.invokevirtual 215, 3) := by decide +kernel
theorem dX11_readsSkin_25 : decode cX11_readsSkin 25 = .ok (.aload_n 0, 1) := by decide +kernel
theorem dX11_readsSkin_26 : decode cX11_readsSkin 26 = .ok (.invokevirtual 289, 3) := by decide +kernel
theorem dX11_readsSkin_29 : decode cX11_readsSkin 29 = .ok (.ifCond .eq 16, 3) := by decide +kernel
theorem dX11_readsSkin_32 : decode cX11_readsSkin 32 = .ok (.aload_n 0, 1) := by decide +kernel
theorem dX11_readsSkin_33 : decode cX11_readsSkin 33 = .ok (.ldc2_w 233, 3) := by decide +kernel
theorem dX11_readsSkin_36 : decode cX11_readsSkin 36 = .ok (.iconst 1, 1) := by decide +kernel
theorem dX11_readsSkin_37 : decode cX11_readsSkin 37 = .ok (.bipush 6, 2) := by decide +kernel
theorem dX11_readsSkin_39 : decode cX11_readsSkin 39 = .ok (.invokevirtual 292, 3) := by decide +kernel
theorem dX11_readsSkin_42 : decode cX11_readsSkin 42 = .ok (.ifCond .ne 5, 3) := by decide +kernel
theorem dX11_readsSkin_45 : decode cX11_readsSkin 45 = .ok (.iconst 0, 1) := by decide +kernel
theorem dX11_readsSkin_46 : decode cX11_readsSkin 46 = .ok (.ireturn, 1) := by decide +kernel
theorem dX11_readsSkin_47 : decode cX11_readsSkin 47 = .ok (.aload_n 0, 1) := by decide +kernel
theorem dX11_readsSkin_48 : decode cX11_readsSkin 48 = .ok (.getfield 23, 3) := by decide +kernel
theorem dX11_readsSkin_51 : decode cX11_readsSkin 51 = .ok (.iload_n 1, 1) := by decide +kernel
theorem dX11_readsSkin_52 : decode cX11_readsSkin 52 = .ok (.aload_n 0, 1) := by decide +kernel
theorem dX11_readsSkin_53 : decode cX11_readsSkin 53 = .ok (.getfield 269, 3) := by decide +kernel
theorem dX11_readsSkin_56 : decode cX11_readsSkin 56 = .ok (.iastore, 1) := by decide +kernel
theorem dX11_readsSkin_57 : decode cX11_readsSkin 57 = .ok (.aload_n 0, 1) := by decide +kernel
theorem dX11_readsSkin_58 : decode cX11_readsSkin 58 = .ok (.ldc2_w 235, 3) := by decide +kernel
theorem dX11_readsSkin_61 : decode cX11_readsSkin 61 = .ok (.iconst 1, 1) := by decide +kernel
theorem dX11_readsSkin_62 : decode cX11_readsSkin 62 = .ok (.bipush 30, 2) := by decide +kernel
theorem dX11_readsSkin_64 : decode cX11_readsSkin 64 = .ok (.invokevirtual 292, 3) := by decide +kernel
theorem dX11_readsSkin_67 : decode cX11_readsSkin 67 = .ok (.ifCond .ne 5, 3) := by decide +kernel
theorem dX11_readsSkin_70 : decode cX11_readsSkin 70 = .ok (.iconst 0, 1) := by decide +kernel
theorem dX11_readsSkin_71 : decode cX11_readsSkin 71 = .ok (.ireturn, 1) := by decide +kernel
theorem dX11_readsSkin_72 : decode cX11_readsSkin 72 = .ok (.aload_n 0, 1) := by decide +kernel
theorem dX11_readsSkin_73 : decode cX11_readsSkin 73 = .ok (.getfield 26, 3) := by decide +kernel
theorem dX11_readsSkin_76 : decode cX11_readsSkin 76 = .ok (.iload_n 1, 1) := by decide +kernel
theorem dX11_readsSkin_77 : decode cX11_readsSkin 77 = .ok (.aload_n 0, 1) := by decide +kernel
theorem dX11_readsSkin_78 : decode cX11_readsSkin 78 = .ok (.getfield 269, 3) := by decide +kernel
theorem dX11_readsSkin_81 : decode cX11_readsSkin 81 = .ok (.iastore, 1) := by decide +kernel
theorem dX11_readsSkin_82 : decode cX11_readsSkin 82 = .ok (.aload_n 0, 1) := by decide +kernel
theorem dX11_readsSkin_83 : decode cX11_readsSkin 83 = .ok (.getfield 29, 3) := by decide +kernel
theorem dX11_readsSkin_86 : decode cX11_readsSkin 86 = .ok (.iload_n 1, 1) := by decide +kernel
theorem dX11_readsSkin_87 : decode cX11_readsSkin 87 = .ok (.iconst 0, 1) := by decide +kernel
theorem dX11_readsSkin_88 : decode cX11_readsSkin 88 = .ok (.iastore, 1) := by decide +kernel
theorem dX11_readsSkin_89 : decode cX11_readsSkin 89 = .ok (.aload_n 0, 1) := by decide +kernel
theorem dX11_readsSkin_90 : decode cX11_readsSkin 90 = .ok (.getfield 16, 3) := by decide +kernel
theorem dX11_readsSkin_93 : decode cX11_readsSkin 93 = .ok (.iload_n 1, 1) := by decide +kernel
theorem dX11_readsSkin_94 : decode cX11_readsSkin 94 = .ok (.aload_n 0, 1) := by decide +kernel
theorem dX11_readsSkin_95 : decode cX11_readsSkin 95 = .ok (.getfield 286, 3) := by decide +kernel
theorem dX11_readsSkin_98 : decode cX11_readsSkin 98 = .ok (.lastore, 1) := by decide +kernel
theorem dX11_readsSkin_99 : decode cX11_readsSkin 99 = .ok (.aload_n 0, 1) := by decide +kernel
theorem dX11_readsSkin_100 : decode cX11_readsSkin 100 = .ok (.getfield 13, 3) := by decide +kernel
theorem dX11_readsSkin_103 : decode cX11_readsSkin 103 = .ok (.iconst 3, 1) := by decide +kernel
theorem dX11_readsSkin_104 : decode cX11_readsSkin 104 = .ok (.dup2, 1) := by decide +kernel
theorem dX11_readsSkin_105 : decode cX11_readsSkin 105 = .ok (.iaload, 1) := by decide +kernel
theorem dX11_readsSkin_106 : decode cX11_readsSkin 106 = .ok (.iconst 1, 1) := by decide +kernel
theorem dX11_readsSkin_107 : decode cX11_readsSkin 107 = .ok (.iadd, 1) := by decide +kernel
theorem dX11_readsSkin_108 : decode cX11_readsSkin 108 = .ok (.iastore, 1) := by decide +kernel
theorem dX11_readsSkin_109 : decode cX11_readsSkin 109 = .ok (.aload_n 0, 1) := by decide +kernel
theorem dX11_readsSkin_110 : decode cX11_readsSkin 110 = .ok (.invokevirtual 296, 3) := by decide +kernel
theorem dX11_readsSkin_113 : decode cX11_readsSkin 113 = .ok (.ireturn, 1) := by decide +kernel
theorem dX11_readsHole_0 : decode cX11_readsHole 0 = .ok (.aload_n 0, 1) := by decide +kernel
theorem dX11_readsHole_1 : decode cX11_readsHole 1 = .ok (.invokevirtual 215, 3) := by decide +kernel
theorem dX11_readsHole_4 : decode cX11_readsHole 4 = .ok (.aload_n 0, 1) := by decide +kernel
theorem dX11_readsHole_5 : decode cX11_readsHole 5 = .ok (.iconst 1, 1) := by decide +kernel
theorem dX11_readsHole_6 : decode cX11_readsHole 6 = .ok (.invokevirtual 299, 3) := by decide +kernel
theorem dX11_readsHole_9 : decode cX11_readsHole 9 = .ok (.ifCond .ne 5, 3) := by decide +kernel
theorem dX11_readsHole_12 : decode cX11_readsHole 12 = .ok (.iconst 0, 1) := by decide +kernel
theorem dX11_readsHole_13 : decode cX11_readsHole 13 = .ok (.ireturn, 1) := by decide +kernel
theorem dX11_readsHole_14 : decode cX11_readsHole 14 = .ok (.iconst 3, 1) := by decide +kernel
theorem dX11_readsHole_15 : decode cX11_readsHole 15 = .ok (.aload_n 0, 1) := by decide +kernel
theorem dX11_readsHole_16 : decode cX11_readsHole 16 = .ok (.getfield 269, 3) := by decide +kernel
theorem dX11_readsHole_19 : decode cX11_readsHole 19 = .ok (.iadd, 1) := by decide +kernel
theorem dX11_readsHole_20 : decode cX11_readsHole 20 = .ok (.istore_n 1, 1) := by decide +kernel
theorem dX11_readsHole_21 : decode cX11_readsHole 21 = .ok (.aload_n 0, 1) := by decide +kernel
theorem dX11_readsHole_22 : decode cX11_readsHole 22 = .ok (.getfield 169, 3) := by decide +kernel
theorem dX11_readsHole_25 : decode cX11_readsHole 25 = .ok (.iconst 2, 1) := by decide +kernel
theorem dX11_readsHole_26 : decode cX11_readsHole 26 = .ok (.if_icmp .eq 9, 3) := by decide +kernel
theorem dX11_readsHole_29 : decode cX11_readsHole 29 = .ok (.aload_n 0, 1) := by decide +kernel
theorem dX11_readsHole_30 : decode cX11_readsHole 30 = .ok (.iconst 1, 1) := by decide +kernel
theorem dX11_readsHole_31 : decode cX11_readsHole 31 = .ok (.invokevirtual 208, 3) := by decide +kernel
theorem dX11_readsHole_34 : decode cX11_readsHole 34 = .ok (.ireturn, 1) := by decide +kernel
theorem dX11_readsHole_35 : decode cX11_readsHole 35 = .ok (.aload_n 0, 1) := by decide +kernel
theorem dX11_readsHole_36 : decode cX11_readsHole 36 = .ok (.getfield 166, 3) := by decide +kernel
theorem dX11_readsHole_39 : decode cX11_readsHole 39 = .ok (.aload_n 0, 1) := by decide +kernel
theorem dX11_readsHole_40 : decode cX11_readsHole 40 = .ok (.getfield 23, 3) := by decide +kernel
theorem dX11_readsHole_43 : decode cX11_readsHole 43 = .ok (.iload_n 1, 1) := by decide +kernel
theorem dX11_readsHole_44 : decode cX11_readsHole 44 = .ok (.iaload, 1) := by decide +kernel
theorem dX11_readsHole_45 : decode cX11_readsHole 45 = .ok (.if_icmp .lt 9, 3) := by decide +kernel
theorem dX11_readsHole_48 : decode cX11_readsHole 48 = .ok (.aload_n 0, 1) := by decide +kernel
theorem dX11_readsHole_49 : decode cX11_readsHole 49 = .ok (.iconst 4, 1) := by decide +kernel
theorem dX11_readsHole_50 : decode cX11_readsHole 50 = .ok (.invokevirtual 208, 3) := by decide +kernel
theorem dX11_readsHole_53 : decode cX11_readsHole 53 = .ok (.ireturn, 1) := by decide +kernel
theorem dX11_readsHole_54 : decode cX11_readsHole 54 = .ok (.aload_n 0, 1) := by decide +kernel
theorem dX11_readsHole_55 : decode cX11_readsHole 55 = .ok (.getfield 29, 3) := by decide +kernel
theorem dX11_readsHole_58 : decode cX11_readsHole 58 = .ok (.iload_n 1, 1) := by decide +kernel
theorem dX11_readsHole_59 : decode cX11_readsHole 59 = .ok (.iaload, 1) := by decide +kernel
theorem dX11_readsHole_60 : decode cX11_readsHole 60 = .ok (.aload_n 0, 1) := by decide +kernel
theorem dX11_readsHole_61 : decode cX11_readsHole 61 = .ok (.getfield 166, 3) := by decide +kernel
theorem dX11_readsHole_64 : decode cX11_readsHole 64 = .ok (.ishr, 1) := by decide +kernel
theorem dX11_readsHole_65 : decode cX11_readsHole 65 = .ok (.iconst 1, 1) := by decide +kernel
theorem dX11_readsHole_66 : decode cX11_readsHole 66 = .ok (.iand, 1) := by decide +kernel
theorem dX11_readsHole_67 : decode cX11_readsHole 67 = .ok (.iconst 1, 1) := by decide +kernel
theorem dX11_readsHole_68 : decode cX11_readsHole 68 = .ok (.if_icmp .ne 9, 3) := by decide +kernel
theorem dX11_readsHole_71 : decode cX11_readsHole 71 = .ok (.aload_n 0, 1) := by decide +kernel
theorem dX11_readsHole_72 : decode cX11_readsHole 72 = .ok (.iconst 3, 1) := by decide +kernel
theorem dX11_readsHole_73 : decode cX11_readsHole 73 = .ok (.invokevirtual 208, 3) := by decide +kernel
theorem dX11_readsHole_76 : decode cX11_readsHole 76 = .ok (.ireturn, 1) := by decide +kernel
theorem dX11_readsHole_77 : decode cX11_readsHole 77 = .ok (.aload_n 0, 1) := by decide +kernel
theorem dX11_readsHole_78 : decode cX11_readsHole 78 = .ok (.getfield 29, 3) := by decide +kernel
theorem dX11_readsHole_81 : decode cX11_readsHole 81 = .ok (.iload_n 1, 1) := by decide +kernel
theorem dX11_readsHole_82 : decode cX11_readsHole 82 = .ok (.dup2, 1) := by decide +kernel
theorem dX11_readsHole_83 : decode cX11_readsHole 83 = .ok (.iaload, 1) := by decide +kernel
theorem dX11_readsHole_84 : decode cX11_readsHole 84 = .ok (.iconst 1, 1) := by decide +kernel
theorem dX11_readsHole_85 : decode cX11_readsHole 85 = .ok (.aload_n 0, 1) := by decide +kernel
theorem dX11_readsHole_86 : decode cX11_readsHole 86 = .ok (.getfield 166, 3) := by decide +kernel
theorem dX11_readsHole_89 : decode cX11_readsHole 89 = .ok (.ishl, 1) := by decide +kernel
theorem dX11_readsHole_90 : decode cX11_readsHole 90 = .ok (.ior, 1) := by decide +kernel
theorem dX11_readsHole_91 : decode cX11_readsHole 91 = .ok (.iastore, 1) := by decide +kernel
theorem dX11_readsHole_92 : decode cX11_readsHole 92 = .ok (.aload_n 0, 1) := by decide +kernel
theorem dX11_readsHole_93 : decode cX11_readsHole 93 = .ok (.invokevirtual 215, 3) := by decide +kernel
theorem dX11_readsHole_96 : decode cX11_readsHole 96 = .ok (.aload_n 0, 1) := by decide +kernel
theorem dX11_readsHole_97 : decode cX11_readsHole 97 = .ok (.invokevirtual 296, 3) := by decide +kernel
theorem dX11_readsHole_100 : decode cX11_readsHole 100 = .ok (.ireturn, 1) := by decide +kernel
theorem dX11_readsText_0 : decode cX11_readsText 0 = .ok (.bipush 6, 2) := by decide +kernel
theorem dX11_readsText_2 : decode cX11_readsText 2 = .ok (.aload_n 0, 1) := by decide +kernel
theorem dX11_readsText_3 : decode cX11_readsText 3 = .ok (.getfield 13, 3) := by decide +kernel
theorem dX11_readsText_6 : decode cX11_readsText 6 = .ok (.iconst 4, 1) := by decide +kernel
theorem dX11_readsText_7 : decode cX11_readsText 7 = .ok (.iaload, 1) := by decide +kernel
theorem dX11_readsText_8 : decode cX11_readsText 8 = .ok (.iadd, 1) := by decide +kernel
theorem dX11_readsText_9 : decode cX11_readsText 9 = .ok (.istore_n 1, 1) := by decide +kernel
theorem dX11_readsText_10 : decode cX11_readsText 10 = .ok (.iload_n 1, 1) := by decide +kernel
theorem dX11_readsText_11 : decode cX11_readsText 11 = .ok (.bipush 12, 2) := by decide +kernel
theorem dX11_readsText_13 : decode cX11_readsText 13 = .ok (.if_icmp .ne 9, 3) := by decide +kernel
theorem dX11_readsText_16 : decode cX11_readsText 16 = .ok (.aload_n 0, 1) := by decide +kernel
theorem dX11_readsText_17 : decode cX11_readsText 17 = .ok (.iconst 5, 1) := by decide +kernel
theorem dX11_readsText_18 : decode cX11_readsText 18 = .ok (.invokevirtual 208, 3) := by decide +kernel
theorem dX11_readsText_21 : decode cX11_readsText 21 = .ok (.ireturn, 1) := by decide +kernel
theorem dX11_readsText_22 : decode cX11_readsText 22 = .ok (.aload_n 0, 1) := by decide +kernel
theorem dX11_readsText_23 : decode cX11_readsText 23 = .ok (.invokevirtual 215, 3) := by decide +kernel
theorem dX11_readsText_26 : decode cX11_readsText 26 = .ok (.aload_n 0, 1) := by decide +kernel
theorem dX11_readsText_27 : decode cX11_readsText 27 = .ok (.invokevirtual 289, 3) := by decide +kernel
theorem dX11_readsText_30 : decode cX11_readsText 30 = .ok (.ifCond .ne 5, 3) := by decide +kernel
theorem dX11_readsText_33 : decode cX11_readsText 33 = .ok (.iconst 0, 1) := by decide +kernel
theorem dX11_readsText_34 : decode cX11_readsText 34 = .ok (.ireturn, 1) := by decide +kernel
theorem dX11_readsText_35 : decode cX11_readsText 35 = .ok (.aload_n 0, 1) := by decide +kernel
theorem dX11_readsText_36 : decode cX11_readsText 36 = .ok (.getfield 32, 3) := by decide +kernel
theorem dX11_readsText_39 : decode cX11_readsText 39 = .ok (.iload_n 1, 1) := by decide +kernel
theorem dX11_readsText_40 : decode cX11_readsText 40 = .ok (.aload_n 0, 1) := by decide +kernel
theorem dX11_readsText_41 : decode cX11_readsText 41 = .ok (.ldc2_w 257, 3) := by decide +kernel
theorem dX11_readsText_44 : decode cX11_readsText 44 = .ok (.invokevirtual 200, 3) := by decide +kernel
theorem dX11_readsText_47 : decode cX11_readsText 47 = .ok (.ifCond .eq 7, 3) := by decide +kernel
theorem dX11_readsText_50 : decode cX11_readsText 50 = .ok (.iconst 0, 1) := by decide +kernel
theorem dX11_readsText_51 : decode cX11_readsText 51 = .ok (.goto 46, 3) := by decide +kernel
theorem dX11_readsText_54 : decode cX11_readsText 54 = .ok (.aload_n 0, 1) := by decide +kernel
theorem dX11_readsText_55 : decode cX11_readsText 55 = .ok (.ldc2_w 259, 3) := by decide +kernel
theorem dX11_readsText_58 : decode cX11_readsText 58 = .ok (.invokevirtual 200, 3) := by decide +kernel
theorem dX11_readsText_61 : decode cX11_readsText 61 = .ok (.ifCond .eq 7, 3) := by decide +kernel
theorem dX11_readsText_64 : decode cX11_readsText 64 = .ok (.iconst 1, 1) := by decide +kernel
theorem dX11_readsText_65 : decode cX11_readsText 65 = .ok (.goto 32, 3) := by decide +kernel
theorem dX11_readsText_68 : decode cX11_readsText 68 = .ok (.aload_n 0, 1) := by decide +kernel
theorem dX11_readsText_69 : decode cX11_readsText 69 = .ok (.ldc2_w 261, 3) := by decide +kernel
theorem dX11_readsText_72 : decode cX11_readsText 72 = .ok (.invokevirtual 200, 3) := by decide +kernel
theorem dX11_readsText_75 : decode cX11_readsText 75 = .ok (.ifCond .eq 7, 3) := by decide +kernel
theorem dX11_readsText_78 : decode cX11_readsText 78 = .ok (.iconst 2, 1) := by decide +kernel
theorem dX11_readsText_79 : decode cX11_readsText 79 = .ok (.goto 18, 3) := by decide +kernel
theorem dX11_readsText_82 : decode cX11_readsText 82 = .ok (.aload_n 0, 1) := by decide +kernel
theorem dX11_readsText_83 : decode cX11_readsText 83 = .ok (.ldc2_w 263, 3) := by decide +kernel
theorem dX11_readsText_86 : decode cX11_readsText 86 = .ok (.invokevirtual 200, 3) := by decide +kernel
theorem dX11_readsText_89 : decode cX11_readsText 89 = .ok (.ifCond .eq 7, 3) := by decide +kernel
theorem dX11_readsText_92 : decode cX11_readsText 92 = .ok (.iconst 3, 1) := by decide +kernel
theorem dX11_readsText_93 : decode cX11_readsText 93 = .ok (.goto 4, 3) := by decide +kernel
theorem dX11_readsText_96 : decode cX11_readsText 96 = .ok (.iconst (-1), 1) := by decide +kernel
theorem dX11_readsText_97 : decode cX11_readsText 97 = .ok (.iastore, 1) := by decide +kernel
theorem dX11_readsText_98 : decode cX11_readsText 98 = .ok (.aload_n 0, 1) := by decide +kernel
theorem dX11_readsText_99 : decode cX11_readsText 99 = .ok (.getfield 32, 3) := by decide +kernel
theorem dX11_readsText_102 : decode cX11_readsText 102 = .ok (.iload_n 1, 1) := by decide +kernel
theorem dX11_readsText_103 : decode cX11_readsText 103 = .ok (.iaload, 1) := by decide +kernel
theorem dX11_readsText_104 : decode cX11_readsText 104 = .ok (.ifCond .ge 9, 3) := by decide +kernel
theorem dX11_readsText_107 : decode cX11_readsText 107 = .ok (.aload_n 0, 1) := by decide +kernel
theorem dX11_readsText_108 : decode cX11_readsText 108 = .ok (.iconst 1, 1) := by decide +kernel
theorem dX11_readsText_109 : decode cX11_readsText 109 = .ok (.invokevirtual 208, 3) := by decide +kernel
theorem dX11_readsText_112 : decode cX11_readsText 112 = .ok (.ireturn, 1) := by decide +kernel
theorem dX11_readsText_113 : decode cX11_readsText 113 = .ok (.aload_n 0, 1) := by decide +kernel
theorem dX11_readsText_114 : decode cX11_readsText 114 = .ok (.invokevirtual 215, 3) := by decide +kernel
theorem dX11_readsText_117 : decode cX11_readsText 117 = .ok (.aload_n 0, 1) := by decide +kernel
theorem dX11_readsText_118 : decode cX11_readsText 118 = .ok (.getfield 35, 3) := by decide +kernel
theorem dX11_readsText_121 : decode cX11_readsText 121 = .ok (.iload_n 1, 1) := by decide +kernel
theorem dX11_readsText_122 : decode cX11_readsText 122 = .ok (.aload_n 0, 1) := by decide +kernel
theorem dX11_readsText_123 : decode cX11_readsText 123 = .ok (.ldc2_w 253, 3) := by decide +kernel
theorem dX11_readsText_126 : decode cX11_readsText 126 = .ok (.invokevirtual 200, 3) := by decide +kernel
theorem dX11_readsText_129 : decode cX11_readsText 129 = .ok (.ifCond .eq 7, 3) := by decide +kernel
theorem dX11_readsText_132 : decode cX11_readsText 132 = .ok (.iconst 1, 1) := by decide +kernel
theorem dX11_readsText_133 : decode cX11_readsText 133 = .ok (.goto 18, 3) := by decide +kernel
theorem dX11_readsText_136 : decode cX11_readsText 136 = .ok (.aload_n 0, 1) := by decide +kernel
theorem dX11_readsText_137 : decode cX11_readsText 137 = .ok (.ldc2_w 255, 3) := by decide +kernel
theorem dX11_readsText_140 : decode cX11_readsText 140 = .ok (.invokevirtual 200, 3) := by decide +kernel
theorem dX11_readsText_143 : decode cX11_readsText 143 = .ok (.ifCond .eq 7, 3) := by decide +kernel
theorem dX11_readsText_146 : decode cX11_readsText 146 = .ok (.iconst 0, 1) := by decide +kernel
theorem dX11_readsText_147 : decode cX11_readsText 147 = .ok (.goto 4, 3) := by decide +kernel
theorem dX11_readsText_150 : decode cX11_readsText 150 = .ok (.iconst (-1), 1) := by decide +kernel
theorem dX11_readsText_151 : decode cX11_readsText 151 = .ok (.iastore, 1) := by decide +kernel
theorem dX11_readsText_152 : decode cX11_readsText 152 = .ok (.aload_n 0, 1) := by decide +kernel
theorem dX11_readsText_153 : decode cX11_readsText 153 = .ok (.getfield 35, 3) := by decide +kernel
theorem dX11_readsText_156 : decode cX11_readsText 156 = .ok (.iload_n 1, 1) := by decide +kernel
theorem dX11_readsText_157 : decode cX11_readsText 157 = .ok (.iaload, 1) := by decide +kernel
theorem dX11_readsText_158 : decode cX11_readsText 158 = .ok (.ifCond .ge 9, 3) := by decide +kernel
theorem dX11_readsText_161 : decode cX11_readsText 161 = .ok (.aload_n 0, 1) := by decide +kernel
theorem dX11_readsText_162 : decode cX11_readsText 162 = .ok (.iconst 1, 1) := by decide +kernel
theorem dX11_readsText_163 : decode cX11_readsText 163 = .ok (.invokevirtual 208, 3) := by decide +kernel
theorem dX11_readsText_166 : decode cX11_readsText 166 = .ok (.ireturn, 1) := by decide +kernel
theorem dX11_readsText_167 : decode cX11_readsText 167 = .ok (.aload_n 0, 1) := by decide +kernel
theorem dX11_readsText_168 : decode cX11_readsText 168 = .ok (.invokevirtual 215, 3) := by decide +kernel
theorem dX11_readsText_171 : decode cX11_readsText 171 = .ok (.aload_n 0, 1) := by decide +kernel
theorem dX11_readsText_172 : decode cX11_readsText 172 = .ok (.ldc2_w 233, 3) := by decide +kernel
theorem dX11_readsText_175 : decode cX11_readsText 175 = .ok (.iconst 1, 1) := by decide +kernel
theorem dX11_readsText_176 : decode cX11_readsText 176 = .ok (.bipush 6, 2) := by decide +kernel
theorem dX11_readsText_178 : decode cX11_readsText 178 = .ok (.invokevirtual 292, 3) := by decide +kernel
theorem dX11_readsText_181 : decode cX11_readsText 181 = .ok (.ifCond .ne 5, 3) := by decide +kernel
theorem dX11_readsText_184 : decode cX11_readsText 184 = .ok (.iconst 0, 1) := by decide +kernel
theorem dX11_readsText_185 : decode cX11_readsText 185 = .ok (.ireturn, 1) := by decide +kernel
theorem dX11_readsText_186 : decode cX11_readsText 186 = .ok (.aload_n 0, 1) := by decide +kernel
theorem dX11_readsText_187 : decode cX11_readsText 187 = .ok (.getfield 38, 3) := by decide +kernel
theorem dX11_readsText_190 : decode cX11_readsText 190 = .ok (.iload_n 1, 1) := by decide +kernel
theorem dX11_readsText_191 : decode cX11_readsText 191 = .ok (.aload_n 0, 1) := by decide +kernel
theorem dX11_readsText_192 : decode cX11_readsText 192 = .ok (.getfield 269, 3) := by decide +kernel
theorem dX11_readsText_195 : decode cX11_readsText 195 = .ok (.iastore, 1) := by decide +kernel
theorem dX11_readsText_196 : decode cX11_readsText 196 = .ok (.aload_n 0, 1) := by decide +kernel
theorem dX11_readsText_197 : decode cX11_readsText 197 = .ok (.getfield 20, 3) := by decide +kernel
theorem dX11_readsText_200 : decode cX11_readsText 200 = .ok (.iload_n 1, 1) := by decide +kernel
theorem dX11_readsText_201 : decode cX11_readsText 201 = .ok (.aload_n 0, 1) := by decide +kernel
theorem dX11_readsText_202 : decode cX11_readsText 202 = .ok (.getfield 286, 3) := by decide +kernel
theorem dX11_readsText_205 : decode cX11_readsText 205 = .ok (.lastore, 1) := by decide +kernel
theorem dX11_readsText_206 : decode cX11_readsText 206 = .ok (.aload_n 0, 1) := by decide +kernel
theorem dX11_readsText_207 : decode cX11_readsText 207 = .ok (.getfield 13, 3) := by decide +kernel
theorem dX11_readsText_210 : decode cX11_readsText 210 = .ok (.iconst 4, 1) := by decide +kernel
theorem dX11_readsText_211 : decode cX11_readsText 211 = .ok (.dup2, 1) := by decide +kernel
theorem dX11_readsText_212 : decode cX11_readsText 212 = .ok (.iaload, 1) := by decide +kernel
theorem dX11_readsText_213 : decode cX11_readsText 213 = .ok (.iconst 1, 1) := by decide +kernel
theorem dX11_readsText_214 : decode cX11_readsText 214 = .ok (.iadd, 1) := by decide +kernel
theorem dX11_readsText_215 : decode cX11_readsText 215 = .ok (.iastore, 1) := by decide +kernel
theorem dX11_readsText_216 : decode cX11_readsText 216 = .ok (.aload_n 0, 1) := by decide +kernel
theorem dX11_readsText_217 : decode cX11_readsText 217 = .ok (.invokevirtual 296, 3) := by decide +kernel
theorem dX11_readsText_220 : decode cX11_readsText 220 = .ok (.ireturn, 1) := by decide +kernel
theorem dX11_readsDamp_0 : decode cX11_readsDamp 0 = .ok (.aload_n 0, 1) := by decide +kernel
theorem dX11_readsDamp_1 : decode cX11_readsDamp 1 = .ok (.getfield 13, 3) := by decide +kernel
theorem dX11_readsDamp_4 : decode cX11_readsDamp 4 = .ok (.iconst 5, 1) := by decide +kernel
theorem dX11_readsDamp_5 : decode cX11_readsDamp 5 = .ok (.iaload, 1) := by decide +kernel
theorem dX11_readsDamp_6 : decode cX11_readsDamp 6 = .ok (.ifCond .le 9, 3) := by decide +kernel
theorem dX11_readsDamp_9 : decode cX11_readsDamp 9 = .ok (.aload_n 0, 1) := by decide +kernel
theorem dX11_readsDamp_10 : decode cX11_readsDamp 10 = .ok (.iconst 3, 1) := by decide +kernel
theorem dX11_readsDamp_11 : decode cX11_readsDamp 11 = .ok (.invokevirtual 208, 3) := by decide +kernel
theorem dX11_readsDamp_14 : decode cX11_readsDamp 14 = .ok (.ireturn, 1) := by decide +kernel
theorem dX11_readsDamp_15 : decode cX11_readsDamp 15 = .ok (.aload_n 0, 1) := by decide +kernel
theorem dX11_readsDamp_16 : decode cX11_readsDamp 16 = .ok (.invokevirtual 215, 3) := by decide +kernel
theorem dX11_readsDamp_19 : decode cX11_readsDamp 19 = .ok (.aload_n 0, 1) := by decide +kernel
theorem dX11_readsDamp_20 : decode cX11_readsDamp 20 = .ok (.getfield 13, 3) := by decide +kernel
theorem dX11_readsDamp_23 : decode cX11_readsDamp 23 = .ok (.iconst 5, 1) := by decide +kernel
theorem dX11_readsDamp_24 : decode cX11_readsDamp 24 = .ok (.iaload, 1) := by decide +kernel
theorem dX11_readsDamp_25 : decode cX11_readsDamp 25 = .ok (.ifCond .eq 11, 3) := by decide +kernel
theorem dX11_readsDamp_28 : decode cX11_readsDamp 28 = .ok (.aload_n 0, 1) := by decide +kernel
theorem dX11_readsDamp_29 : decode cX11_readsDamp 29 = .ok (.getfield 169, 3) := by decide +kernel
theorem dX11_readsDamp_32 : decode cX11_readsDamp 32 = .ok (.iconst 2, 1) := by decide +kernel
theorem dX11_readsDamp_33 : decode cX11_readsDamp 33 = .ok (.if_icmp .ne 84, 3) := by decide +kernel
theorem dX11_readsDamp_36 : decode cX11_readsDamp 36 = .ok (.aload_n 0, 1) := by decide +kernel
theorem dX11_readsDamp_37 : decode cX11_readsDamp 37 = .ok (.getfield 169, 3) := by decide +kernel
theorem dX11_readsDamp_40 : decode cX11_readsDamp 40 = .ok (.iconst 2, 1) := by decide +kernel
theorem dX11_readsDamp_41 : decode cX11_readsDamp 41 = .ok (.if_icmp .eq 9, 3) := by decide +kernel
theorem dX11_readsDamp_44 : decode cX11_readsDamp 44 = .ok (.aload_n 0, 1) := by decide +kernel
theorem dX11_readsDamp_45 : decode cX11_readsDamp 45 = .ok (.iconst 1, 1) := by decide +kernel
theorem dX11_readsDamp_46 : decode cX11_readsDamp 46 = .ok (.invokevirtual 208, 3) := by decide +kernel
theorem dX11_readsDamp_49 : decode cX11_readsDamp 49 = .ok (.ireturn, 1) := by decide +kernel
theorem dX11_readsDamp_50 : decode cX11_readsDamp 50 = .ok (.aload_n 0, 1) := by decide +kernel
theorem dX11_readsDamp_51 : decode cX11_readsDamp 51 = .ok (.getfield 166, 3) := by decide +kernel
theorem dX11_readsDamp_54 : decode cX11_readsDamp 54 = .ok (.bipush 9, 2) := by decide +kernel
theorem dX11_readsDamp_56 : decode cX11_readsDamp 56 = .ok (.if_icmp .le 9, 3) := by decide +kernel
theorem dX11_readsDamp_59 : decode cX11_readsDamp 59 = .ok (.aload_n 0, 1) := by decide +kernel
theorem dX11_readsDamp_60 : decode cX11_readsDamp 60 = .ok (.iconst 4, 1) := by decide +kernel
theorem dX11_readsDamp_61 : decode cX11_readsDamp 61 = .ok (.invokevirtual 208, 3) := by decide +kernel
theorem dX11_readsDamp_64 : decode cX11_readsDamp 64 = .ok (.ireturn, 1) := by decide +kernel
theorem dX11_readsDamp_65 : decode cX11_readsDamp 65 = .ok (.aload_n 0, 1) := by decide +kernel
theorem dX11_readsDamp_66 : decode cX11_readsDamp 66 = .ok (.getfield 13, 3) := by decide +kernel
theorem dX11_readsDamp_69 : decode cX11_readsDamp 69 = .ok (.iconst 5, 1) := by decide +kernel
theorem dX11_readsDamp_70 : decode cX11_readsDamp 70 = .ok (.iaload, 1) := by decide +kernel
theorem dX11_readsDamp_71 : decode cX11_readsDamp 71 = .ok (.bipush 12, 2) := by decide +kernel
theorem dX11_readsDamp_73 : decode cX11_readsDamp 73 = .ok (.if_icmp .ne 9, 3) := by decide +kernel
theorem dX11_readsDamp_76 : decode cX11_readsDamp 76 = .ok (.aload_n 0, 1) := by decide +kernel
theorem dX11_readsDamp_77 : decode cX11_readsDamp 77 = .ok (.iconst 5, 1) := by decide +kernel
theorem dX11_readsDamp_78 : decode cX11_readsDamp 78 = .ok (.invokevirtual 208, 3) := by decide +kernel
theorem dX11_readsDamp_81 : decode cX11_readsDamp 81 = .ok (.ireturn, 1) := by decide +kernel
theorem dX11_readsDamp_82 : decode cX11_readsDamp 82 = .ok (.aload_n 0, 1) := by decide +kernel
theorem dX11_readsDamp_83 : decode cX11_readsDamp 83 = .ok (.getfield 41, 3) := by decide +kernel
theorem dX11_readsDamp_86 : decode cX11_readsDamp 86 = .ok (.bipush 12, 2) := by decide +kernel
theorem dX11_readsDamp_88 : decode cX11_readsDamp 88 = .ok (.aload_n 0, 1) := by decide +kernel
theorem dX11_readsDamp_89 : decode cX11_readsDamp 89 = .ok (.getfield 13, 3) := by decide +kernel
theorem dX11_readsDamp_92 : decode cX11_readsDamp 92 = .ok (.iconst 5, 1) := by decide +kernel
theorem dX11_readsDamp_93 : decode cX11_readsDamp 93 = .ok (.iaload, 1) := by decide +kernel
theorem dX11_readsDamp_94 : decode cX11_readsDamp 94 = .ok (.iadd, 1) := by decide +kernel
theorem dX11_readsDamp_95 : decode cX11_readsDamp 95 = .ok (.aload_n 0, 1) := by decide +kernel
theorem dX11_readsDamp_96 : decode cX11_readsDamp 96 = .ok (.getfield 166, 3) := by decide +kernel
theorem dX11_readsDamp_99 : decode cX11_readsDamp 99 = .ok (.iastore, 1) := by decide +kernel
theorem dX11_readsDamp_100 : decode cX11_readsDamp 100 = .ok (.aload_n 0, 1) := by decide +kernel
theorem dX11_readsDamp_101 : decode cX11_readsDamp 101 = .ok (.getfield 13, 3) := by decide +kernel
theorem dX11_readsDamp_104 : decode cX11_readsDamp 104 = .ok (.iconst 5, 1) := by decide +kernel
theorem dX11_readsDamp_105 : decode cX11_readsDamp 105 = .ok (.dup2, 1) := by decide +kernel
theorem dX11_readsDamp_106 : decode cX11_readsDamp 106 = .ok (.iaload, 1) := by decide +kernel
theorem dX11_readsDamp_107 : decode cX11_readsDamp 107 = .ok (.iconst 1, 1) := by decide +kernel
theorem dX11_readsDamp_108 : decode cX11_readsDamp 108 = .ok (.iadd, 1) := by decide +kernel
theorem dX11_readsDamp_109 : decode cX11_readsDamp 109 = .ok (.iastore, 1) := by decide +kernel
theorem dX11_readsDamp_110 : decode cX11_readsDamp 110 = .ok (.aload_n 0, 1) := by decide +kernel
theorem dX11_readsDamp_111 : decode cX11_readsDamp 111 = .ok (.invokevirtual 215, 3) := by decide +kernel
theorem dX11_readsDamp_114 : decode cX11_readsDamp 114 = .ok (.goto (-95), 3) := by decide +kernel
theorem dX11_readsDamp_117 : decode cX11_readsDamp 117 = .ok (.aload_n 0, 1) := by decide +kernel
theorem dX11_readsDamp_118 : decode cX11_readsDamp 118 = .ok (.invokevirtual 296, 3) := by decide +kernel
theorem dX11_readsDamp_121 : decode cX11_readsDamp 121 = .ok (.ireturn, 1) := by decide +kernel
theorem dX11_readsShows_0 : decode cX11_readsShows 0 = .ok (.aload_n 0, 1) := by decide +kernel
theorem dX11_readsShows_1 : decode cX11_readsShows 1 = .ok (.getfield 47, 3) := by decide +kernel
theorem dX11_readsShows_4 : decode cX11_readsShows 4 = .ok (.iconst 1, 1) := by decide +kernel
theorem dX11_readsShows_5 : decode cX11_readsShows 5 = .ok (.iaload, 1) := by decide +kernel
theorem dX11_readsShows_6 : decode cX11_readsShows 6 = .ok (.aload_n 0, 1) := by decide +kernel
theorem dX11_readsShows_7 : decode cX11_readsShows 7 = .ok (.getfield 44, 3) := by decide +kernel
theorem dX11_readsShows_10 : decode cX11_readsShows 10 = .ok (.iconst 1, 1) := by decide +kernel
theorem dX11_readsShows_11 : decode cX11_readsShows 11 = .ok (.iaload, 1) := by decide +kernel
theorem dX11_readsShows_12 : decode cX11_readsShows 12 = .ok (.if_icmp .le 9, 3) := by decide +kernel
theorem dX11_readsShows_15 : decode cX11_readsShows 15 = .ok (.aload_n 0, 1) := by decide +kernel
theorem dX11_readsShows_16 : decode cX11_readsShows 16 = .ok (.iconst 3, 1) := by decide +kernel
theorem dX11_readsShows_17 : decode cX11_readsShows 17 = .ok (.invokevirtual 208, 3) := by decide +kernel
theorem dX11_readsShows_20 : decode cX11_readsShows 20 = .ok (.ireturn, 1) := by decide +kernel
theorem dX11_readsShows_21 : decode cX11_readsShows 21 = .ok (.aload_n 0, 1) := by decide +kernel
theorem dX11_readsShows_22 : decode cX11_readsShows 22 = .ok (.invokevirtual 215, 3) := by decide +kernel
theorem dX11_readsShows_25 : decode cX11_readsShows 25 = .ok (.aload_n 0, 1) := by decide +kernel
theorem dX11_readsShows_26 : decode cX11_readsShows 26 = .ok (.getfield 44, 3) := by decide +kernel
theorem dX11_readsShows_29 : decode cX11_readsShows 29 = .ok (.iconst 1, 1) := by decide +kernel
theorem dX11_readsShows_30 : decode cX11_readsShows 30 = .ok (.aload_n 0, 1) := by decide +kernel
theorem dX11_readsShows_31 : decode cX11_readsShows 31 = .ok (.getfield 183, 3) := by decide +kernel
theorem dX11_readsShows_34 : decode cX11_readsShows 34 = .ok (.iastore, 1) := by decide +kernel
theorem dX11_readsShows_35 : decode cX11_readsShows 35 = .ok (.aload_n 0, 1) := by decide +kernel
theorem dX11_readsShows_36 : decode cX11_readsShows 36 = .ok (.invokevirtual 302, 3) := by decide +kernel
theorem dX11_readsShows_39 : decode cX11_readsShows 39 = .ok (.ifCond .ne 5, 3) := by decide +kernel
theorem dX11_readsShows_42 : decode cX11_readsShows 42 = .ok (.iconst 0, 1) := by decide +kernel
theorem dX11_readsShows_43 : decode cX11_readsShows 43 = .ok (.ireturn, 1) := by decide +kernel
theorem dX11_readsShows_44 : decode cX11_readsShows 44 = .ok (.aload_n 0, 1) := by decide +kernel
theorem dX11_readsShows_45 : decode cX11_readsShows 45 = .ok (.getfield 47, 3) := by decide +kernel
theorem dX11_readsShows_48 : decode cX11_readsShows 48 = .ok (.iconst 1, 1) := by decide +kernel
theorem dX11_readsShows_49 : decode cX11_readsShows 49 = .ok (.aload_n 0, 1) := by decide +kernel
theorem dX11_readsShows_50 : decode cX11_readsShows 50 = .ok (.getfield 183, 3) := by decide +kernel
theorem dX11_readsShows_53 : decode cX11_readsShows 53 = .ok (.iastore, 1) := by decide +kernel
theorem dX11_readsShows_54 : decode cX11_readsShows 54 = .ok (.iconst 1, 1) := by decide +kernel
theorem dX11_readsShows_55 : decode cX11_readsShows 55 = .ok (.ireturn, 1) := by decide +kernel
theorem dX11_begins_0 : decode cX11_begins 0 = .ok (.aload_n 0, 1) := by decide +kernel
theorem dX11_begins_1 : decode cX11_begins 1 = .ok (.aload_n 0, 1) := by decide +kernel
theorem dX11_begins_2 : decode cX11_begins 2 = .ok (.getfield 150, 3) := by decide +kernel
theorem dX11_begins_5 : decode cX11_begins 5 = .ok (.putfield 153, 3) := by decide +kernel
theorem dX11_begins_8 : decode cX11_begins 8 = .ok (.aload_n 0, 1) := by decide +kernel
theorem dX11_begins_9 : decode cX11_begins 9 = .ok (.iconst 0, 1) := by decide +kernel
theorem dX11_begins_10 : decode cX11_begins 10 = .ok (.putfield 150, 3) := by decide +kernel
theorem dX11_begins_13 : decode cX11_begins 13 = .ok (.aload_n 0, 1) := by decide +kernel
theorem dX11_begins_14 : decode cX11_begins 14 = .ok (.iconst 0, 1) := by decide +kernel
theorem dX11_begins_15 : decode cX11_begins 15 = .ok (.putfield 156, 3) := by decide +kernel
theorem dX11_begins_18 : decode cX11_begins 18 = .ok (.aload_n 0, 1) := by decide +kernel
theorem dX11_begins_19 : decode cX11_begins 19 = .ok (.invokevirtual 215, 3) := by decide +kernel
theorem dX11_begins_22 : decode cX11_begins 22 = .ok (.return_, 1) := by decide +kernel
theorem dX11_readsAll_0 : decode cX11_readsAll 0 = .ok (.iconst 0, 1) := by decide +kernel
theorem dX11_readsAll_1 : decode cX11_readsAll 1 = .ok (.istore_n 1, 1) := by decide +kernel
theorem dX11_readsAll_2 : decode cX11_readsAll 2 = .ok (.iload_n 1, 1) := by decide +kernel
theorem dX11_readsAll_3 : decode cX11_readsAll 3 = .ok (.iconst 3, 1) := by decide +kernel
theorem dX11_readsAll_4 : decode cX11_readsAll 4 = .ok (.if_icmp .ge 18, 3) := by decide +kernel
theorem dX11_readsAll_7 : decode cX11_readsAll 7 = .ok (.aload_n 0, 1) := by decide +kernel
theorem dX11_readsAll_8 : decode cX11_readsAll 8 = .ok (.getfield 13, 3) := by decide +kernel
theorem dX11_readsAll_11 : decode cX11_readsAll 11 = .ok (.iconst 3, 1) := by decide +kernel
theorem dX11_readsAll_12 : decode cX11_readsAll 12 = .ok (.iload_n 1, 1) := by decide +kernel
theorem dX11_readsAll_13 : decode cX11_readsAll 13 = .ok (.iadd, 1) := by decide +kernel
theorem dX11_readsAll_14 : decode cX11_readsAll 14 = .ok (.iconst 0, 1) := by decide +kernel
theorem dX11_readsAll_15 : decode cX11_readsAll 15 = .ok (.iastore, 1) := by decide +kernel
theorem dX11_readsAll_16 : decode cX11_readsAll 16 = .ok (.iinc 1 1, 3) := by decide +kernel
theorem dX11_readsAll_19 : decode cX11_readsAll 19 = .ok (.goto (-17), 3) := by decide +kernel
theorem dX11_readsAll_22 : decode cX11_readsAll 22 = .ok (.aload_n 0, 1) := by decide +kernel
theorem dX11_readsAll_23 : decode cX11_readsAll 23 = .ok (.getfield 44, 3) := by decide +kernel
theorem dX11_readsAll_26 : decode cX11_readsAll 26 = .ok (.iconst 1, 1) := by decide +kernel
theorem dX11_readsAll_27 : decode cX11_readsAll 27 = .ok (.sipush 1000, 3) := by decide +kernel
theorem dX11_readsAll_30 : decode cX11_readsAll 30 = .ok (.iastore, 1) := by decide +kernel
theorem dX11_readsAll_31 : decode cX11_readsAll 31 = .ok (.aload_n 0, 1) := by decide +kernel
theorem dX11_readsAll_32 : decode cX11_readsAll 32 = .ok (.getfield 47, 3) := by decide +kernel
theorem dX11_readsAll_35 : decode cX11_readsAll 35 = .ok (.iconst 1, 1) := by decide +kernel
theorem dX11_readsAll_36 : decode cX11_readsAll 36 = .ok (.sipush 1000, 3) := by decide +kernel
theorem dX11_readsAll_39 : decode cX11_readsAll 39 = .ok (.iastore, 1) := by decide +kernel
theorem dX11_readsAll_40 : decode cX11_readsAll 40 = .ok (.aload_n 0, 1) := by decide +kernel
theorem dX11_readsAll_41 : decode cX11_readsAll 41 = .ok (.sipush 1000, 3) := by decide +kernel
theorem dX11_readsAll_44 : decode cX11_readsAll 44 = .ok (.putfield 183, 3) := by decide +kernel
theorem dX11_readsAll_47 : decode cX11_readsAll 47 = .ok (.aload_n 0, 1) := by decide +kernel
theorem dX11_readsAll_48 : decode cX11_readsAll 48 = .ok (.invokevirtual 305, 3) := by decide +kernel
theorem dX11_readsAll_51 : decode cX11_readsAll 51 = .ok (.aload_n 0, 1) := by decide +kernel
theorem dX11_readsAll_52 : decode cX11_readsAll 52 = .ok (.getfield 169, 3) := by decide +kernel
theorem dX11_readsAll_55 : decode cX11_readsAll 55 = .ok (.ifCond .eq 103, 3) := by decide +kernel
theorem dX11_readsAll_58 : decode cX11_readsAll 58 = .ok (.aload_n 0, 1) := by decide +kernel
theorem dX11_readsAll_59 : decode cX11_readsAll 59 = .ok (.ldc2_w 231, 3) := by decide +kernel
theorem dX11_readsAll_62 : decode cX11_readsAll 62 = .ok (.invokevirtual 200, 3) := by decide +kernel
theorem dX11_readsAll_65 : decode cX11_readsAll 65 = .ok (.ifCond .eq 10, 3) := by decide +kernel
theorem dX11_readsAll_68 : decode cX11_readsAll 68 = .ok (.aload_n 0, 1) := by decide +kernel
theorem dX11_readsAll_69 : decode cX11_readsAll 69 = .ok (.invokevirtual 308, 3) := by decide +kernel
theorem dX11_readsAll_72 : decode cX11_readsAll 72 = .ok (.goto 76, 3) := by decide +kernel
theorem dX11_readsAll_75 : decode cX11_readsAll 75 = .ok (.aload_n 0, 1) := by decide +kernel
theorem dX11_readsAll_76 : decode cX11_readsAll 76 = .ok (.ldc2_w 237, 3) := by decide +kernel
theorem dX11_readsAll_79 : decode cX11_readsAll 79 = .ok (.invokevirtual 200, 3) := by decide +kernel
theorem dX11_readsAll_82 : decode cX11_readsAll 82 = .ok (.ifCond .eq 10, 3) := by decide +kernel
theorem dX11_readsAll_85 : decode cX11_readsAll 85 = .ok (.aload_n 0, 1) := by decide +kernel
theorem dX11_readsAll_86 : decode cX11_readsAll 86 = .ok (.invokevirtual 311, 3) := by decide +kernel
theorem dX11_readsAll_89 : decode cX11_readsAll 89 = .ok (.goto 59, 3) := by decide +kernel
theorem dX11_readsAll_92 : decode cX11_readsAll 92 = .ok (.aload_n 0, 1) := by decide +kernel
theorem dX11_readsAll_93 : decode cX11_readsAll 93 = .ok (.ldc2_w 239, 3) := by decide +kernel
theorem dX11_readsAll_96 : decode cX11_readsAll 96 = .ok (.invokevirtual 200, 3) := by decide +kernel
theorem dX11_readsAll_99 : decode cX11_readsAll 99 = .ok (.ifCond .eq 10, 3) := by decide +kernel
theorem dX11_readsAll_102 : decode cX11_readsAll 102 = .ok (.aload_n 0, 1) := by decide +kernel
theorem dX11_readsAll_103 : decode cX11_readsAll 103 = .ok (.invokevirtual 314, 3) := by decide +kernel
theorem dX11_readsAll_106 : decode cX11_readsAll 106 = .ok (.goto 42, 3) := by decide +kernel
theorem dX11_readsAll_109 : decode cX11_readsAll 109 = .ok (.aload_n 0, 1) := by decide +kernel
theorem dX11_readsAll_110 : decode cX11_readsAll 110 = .ok (.ldc2_w 241, 3) := by decide +kernel
theorem dX11_readsAll_113 : decode cX11_readsAll 113 = .ok (.invokevirtual 200, 3) := by decide +kernel
theorem dX11_readsAll_116 : decode cX11_readsAll 116 = .ok (.ifCond .eq 10, 3) := by decide +kernel
theorem dX11_readsAll_119 : decode cX11_readsAll 119 = .ok (.aload_n 0, 1) := by decide +kernel
theorem dX11_readsAll_120 : decode cX11_readsAll 120 = .ok (.invokevirtual 317, 3) := by decide +kernel
theorem dX11_readsAll_123 : decode cX11_readsAll 123 = .ok (.goto 25, 3) := by decide +kernel
theorem dX11_readsAll_126 : decode cX11_readsAll 126 = .ok (.aload_n 0, 1) := by decide +kernel
theorem dX11_readsAll_127 : decode cX11_readsAll 127 = .ok (.ldc2_w 243, 3) := by decide +kernel
theorem dX11_readsAll_130 : decode cX11_readsAll 130 = .ok (.invokevirtual 200, 3) := by decide +kernel
theorem dX11_readsAll_133 : decode cX11_readsAll 133 = .ok (.ifCond .eq 10, 3) := by decide +kernel
theorem dX11_readsAll_136 : decode cX11_readsAll 136 = .ok (.aload_n 0, 1) := by decide +kernel
theorem dX11_readsAll_137 : decode cX11_readsAll 137 = .ok (.invokevirtual 320, 3) := by decide +kernel
theorem dX11_readsAll_140 : decode cX11_readsAll 140 = .ok (.goto 8, 3) := by decide +kernel
theorem dX11_readsAll_143 : decode cX11_readsAll 143 = .ok (.aload_n 0, 1) := by decide +kernel
theorem dX11_readsAll_144 : decode cX11_readsAll 144 = .ok (.iconst 1, 1) := by decide +kernel
theorem dX11_readsAll_145 : decode cX11_readsAll 145 = .ok (.invokevirtual 208, 3) := by decide +kernel
theorem dX11_readsAll_148 : decode cX11_readsAll 148 = .ok (.istore_n 1, 1) := by decide +kernel
theorem dX11_readsAll_149 : decode cX11_readsAll 149 = .ok (.iload_n 1, 1) := by decide +kernel
theorem dX11_readsAll_150 : decode cX11_readsAll 150 = .ok (.ifCond .ne 5, 3) := by decide +kernel
theorem dX11_readsAll_153 : decode cX11_readsAll 153 = .ok (.iconst 0, 1) := by decide +kernel
theorem dX11_readsAll_154 : decode cX11_readsAll 154 = .ok (.ireturn, 1) := by decide +kernel
theorem dX11_readsAll_155 : decode cX11_readsAll 155 = .ok (.goto (-104), 3) := by decide +kernel
theorem dX11_readsAll_158 : decode cX11_readsAll 158 = .ok (.iconst 1, 1) := by decide +kernel
theorem dX11_readsAll_159 : decode cX11_readsAll 159 = .ok (.ireturn, 1) := by decide +kernel
theorem dX11_shifts_0 : decode cX11_shifts 0 = .ok (.iconst 0, 1) := by decide +kernel
theorem dX11_shifts_1 : decode cX11_shifts 1 = .ok (.istore_n 2, 1) := by decide +kernel
theorem dX11_shifts_2 : decode cX11_shifts 2 = .ok (.iload_n 2, 1) := by decide +kernel
theorem dX11_shifts_3 : decode cX11_shifts 3 = .ok (.iload_n 1, 1) := by decide +kernel
theorem dX11_shifts_4 : decode cX11_shifts 4 = .ok (.if_icmp .ge 17, 3) := by decide +kernel
theorem dX11_shifts_7 : decode cX11_shifts 7 = .ok (.aload_n 0, 1) := by decide +kernel
theorem dX11_shifts_8 : decode cX11_shifts 8 = .ok (.iload_n 2, 1) := by decide +kernel
theorem dX11_shifts_9 : decode cX11_shifts 9 = .ok (.aload_n 0, 1) := by decide +kernel
theorem dX11_shifts_10 : decode cX11_shifts 10 = .ok (.iload_n 1, 1) := by decide +kernel
theorem dX11_shifts_11 : decode cX11_shifts 11 = .ok (.iload_n 2, 1) := by decide +kernel
theorem dX11_shifts_12 : decode cX11_shifts 12 = .ok (.iadd, 1) := by decide +kernel
theorem dX11_shifts_13 : decode cX11_shifts 13 = .ok (.iaload, 1) := by decide +kernel
theorem dX11_shifts_14 : decode cX11_shifts 14 = .ok (.iastore, 1) := by decide +kernel
theorem dX11_shifts_15 : decode cX11_shifts 15 = .ok (.iinc 2 1, 3) := by decide +kernel
theorem dX11_shifts_18 : decode cX11_shifts 18 = .ok (.goto (-16), 3) := by decide +kernel
theorem dX11_shifts_21 : decode cX11_shifts 21 = .ok (.return_, 1) := by decide +kernel
theorem dX11_shiftsNames_0 : decode cX11_shiftsNames 0 = .ok (.iconst 0, 1) := by decide +kernel
theorem dX11_shiftsNames_1 : decode cX11_shiftsNames 1 = .ok (.istore_n 2, 1) := by decide +kernel
theorem dX11_shiftsNames_2 : decode cX11_shiftsNames 2 = .ok (.iload_n 2, 1) := by decide +kernel
theorem dX11_shiftsNames_3 : decode cX11_shiftsNames 3 = .ok (.iload_n 1, 1) := by decide +kernel
theorem dX11_shiftsNames_4 : decode cX11_shiftsNames 4 = .ok (.if_icmp .ge 17, 3) := by decide +kernel
theorem dX11_shiftsNames_7 : decode cX11_shiftsNames 7 = .ok (.aload_n 0, 1) := by decide +kernel
theorem dX11_shiftsNames_8 : decode cX11_shiftsNames 8 = .ok (.iload_n 2, 1) := by decide +kernel
theorem dX11_shiftsNames_9 : decode cX11_shiftsNames 9 = .ok (.aload_n 0, 1) := by decide +kernel
theorem dX11_shiftsNames_10 : decode cX11_shiftsNames 10 = .ok (.iload_n 1, 1) := by decide +kernel
theorem dX11_shiftsNames_11 : decode cX11_shiftsNames 11 = .ok (.iload_n 2, 1) := by decide +kernel
theorem dX11_shiftsNames_12 : decode cX11_shiftsNames 12 = .ok (.iadd, 1) := by decide +kernel
theorem dX11_shiftsNames_13 : decode cX11_shiftsNames 13 = .ok (.laload, 1) := by decide +kernel
theorem dX11_shiftsNames_14 : decode cX11_shiftsNames 14 = .ok (.lastore, 1) := by decide +kernel
theorem dX11_shiftsNames_15 : decode cX11_shiftsNames 15 = .ok (.iinc 2 1, 3) := by decide +kernel
theorem dX11_shiftsNames_18 : decode cX11_shiftsNames 18 = .ok (.goto (-16), 3) := by decide +kernel
theorem dX11_shiftsNames_21 : decode cX11_shiftsNames 21 = .ok (.return_, 1) := by decide +kernel
theorem dX11_lays_0 : decode cX11_lays 0 = .ok (.aload_n 0, 1) := by decide +kernel
theorem dX11_lays_1 : decode cX11_lays 1 = .ok (.getfield 13, 3) := by decide +kernel
theorem dX11_lays_4 : decode cX11_lays 4 = .ok (.iconst 3, 1) := by decide +kernel
theorem dX11_lays_5 : decode cX11_lays 5 = .ok (.invokestatic 323, 3) := by decide +kernel
theorem dX11_lays_8 : decode cX11_lays 8 = .ok (.aload_n 0, 1) := by decide +kernel
theorem dX11_lays_9 : decode cX11_lays 9 = .ok (.getfield 16, 3) := by decide +kernel
theorem dX11_lays_12 : decode cX11_lays 12 = .ok (.iconst 3, 1) := by decide +kernel
theorem dX11_lays_13 : decode cX11_lays 13 = .ok (.invokestatic 327, 3) := by decide +kernel
theorem dX11_lays_16 : decode cX11_lays 16 = .ok (.aload_n 0, 1) := by decide +kernel
theorem dX11_lays_17 : decode cX11_lays 17 = .ok (.getfield 20, 3) := by decide +kernel
theorem dX11_lays_20 : decode cX11_lays 20 = .ok (.bipush 6, 2) := by decide +kernel
theorem dX11_lays_22 : decode cX11_lays 22 = .ok (.invokestatic 327, 3) := by decide +kernel
theorem dX11_lays_25 : decode cX11_lays 25 = .ok (.aload_n 0, 1) := by decide +kernel
theorem dX11_lays_26 : decode cX11_lays 26 = .ok (.getfield 23, 3) := by decide +kernel
theorem dX11_lays_29 : decode cX11_lays 29 = .ok (.iconst 3, 1) := by decide +kernel
theorem dX11_lays_30 : decode cX11_lays 30 = .ok (.invokestatic 323, 3) := by decide +kernel
theorem dX11_lays_33 : decode cX11_lays 33 = .ok (.aload_n 0, 1) := by decide +kernel
theorem dX11_lays_34 : decode cX11_lays 34 = .ok (.getfield 26, 3) := by decide +kernel
theorem dX11_lays_37 : decode cX11_lays 37 = .ok (.iconst 3, 1) := by decide +kernel
theorem dX11_lays_38 : decode cX11_lays 38 = .ok (.invokestatic 323, 3) := by decide +kernel
theorem dX11_lays_41 : decode cX11_lays 41 = .ok (.aload_n 0, 1) := by decide +kernel
theorem dX11_lays_42 : decode cX11_lays 42 = .ok (.getfield 29, 3) := by decide +kernel
theorem dX11_lays_45 : decode cX11_lays 45 = .ok (.iconst 3, 1) := by decide +kernel
theorem dX11_lays_46 : decode cX11_lays 46 = .ok (.invokestatic 323, 3) := by decide +kernel
theorem dX11_lays_49 : decode cX11_lays 49 = .ok (.aload_n 0, 1) := by decide +kernel
theorem dX11_lays_50 : decode cX11_lays 50 = .ok (.getfield 32, 3) := by decide +kernel
theorem dX11_lays_53 : decode cX11_lays 53 = .ok (.bipush 6, 2) := by decide +kernel
theorem dX11_lays_55 : decode cX11_lays 55 = .ok (.invokestatic 323, 3) := by decide +kernel
theorem dX11_lays_58 : decode cX11_lays 58 = .ok (.aload_n 0, 1) := by decide +kernel
theorem dX11_lays_59 : decode cX11_lays 59 = .ok (.getfield 35, 3) := by decide +kernel
theorem dX11_lays_62 : decode cX11_lays 62 = .ok (.bipush 6, 2) := by decide +kernel
theorem dX11_lays_64 : decode cX11_lays 64 = .ok (.invokestatic 323, 3) := by decide +kernel
theorem dX11_lays_67 : decode cX11_lays 67 = .ok (.aload_n 0, 1) := by decide +kernel
theorem dX11_lays_68 : decode cX11_lays 68 = .ok (.getfield 38, 3) := by decide +kernel
theorem dX11_lays_71 : decode cX11_lays 71 = .ok (.bipush 6, 2) := by decide +kernel
theorem dX11_lays_73 : decode cX11_lays 73 = .ok (.invokestatic 323, 3) := by decide +kernel
theorem dX11_lays_76 : decode cX11_lays 76 = .ok (.aload_n 0, 1) := by decide +kernel
theorem dX11_lays_77 : decode cX11_lays 77 = .ok (.getfield 41, 3) := by decide +kernel
theorem dX11_lays_80 : decode cX11_lays 80 = .ok (.bipush 12, 2) := by decide +kernel
theorem dX11_lays_82 : decode cX11_lays 82 = .ok (.invokestatic 323, 3) := by decide +kernel
theorem dX11_lays_85 : decode cX11_lays 85 = .ok (.aload_n 0, 1) := by decide +kernel
theorem dX11_lays_86 : decode cX11_lays 86 = .ok (.getfield 50, 3) := by decide +kernel
theorem dX11_lays_89 : decode cX11_lays 89 = .ok (.sipush 1000, 3) := by decide +kernel
theorem dX11_lays_92 : decode cX11_lays 92 = .ok (.invokestatic 323, 3) := by decide +kernel
theorem dX11_lays_95 : decode cX11_lays 95 = .ok (.aload_n 0, 1) := by decide +kernel
theorem dX11_lays_96 : decode cX11_lays 96 = .ok (.getfield 44, 3) := by decide +kernel
theorem dX11_lays_99 : decode cX11_lays 99 = .ok (.iconst 0, 1) := by decide +kernel
theorem dX11_lays_100 : decode cX11_lays 100 = .ok (.aload_n 0, 1) := by decide +kernel
theorem dX11_lays_101 : decode cX11_lays 101 = .ok (.getfield 44, 3) := by decide +kernel
theorem dX11_lays_104 : decode cX11_lays 104 = .ok (.iconst 1, 1) := by decide +kernel
theorem dX11_lays_105 : decode cX11_lays 105 = .ok (.iaload, 1) := by decide +kernel
theorem dX11_lays_106 : decode cX11_lays 106 = .ok (.sipush 1000, 3) := by decide +kernel
theorem dX11_lays_109 : decode cX11_lays 109 = .ok (.isub, 1) := by decide +kernel
theorem dX11_lays_110 : decode cX11_lays 110 = .ok (.iastore, 1) := by decide +kernel
theorem dX11_lays_111 : decode cX11_lays 111 = .ok (.aload_n 0, 1) := by decide +kernel
theorem dX11_lays_112 : decode cX11_lays 112 = .ok (.getfield 47, 3) := by decide +kernel
theorem dX11_lays_115 : decode cX11_lays 115 = .ok (.iconst 0, 1) := by decide +kernel
theorem dX11_lays_116 : decode cX11_lays 116 = .ok (.aload_n 0, 1) := by decide +kernel
theorem dX11_lays_117 : decode cX11_lays 117 = .ok (.getfield 47, 3) := by decide +kernel
theorem dX11_lays_120 : decode cX11_lays 120 = .ok (.iconst 1, 1) := by decide +kernel
theorem dX11_lays_121 : decode cX11_lays 121 = .ok (.iaload, 1) := by decide +kernel
theorem dX11_lays_122 : decode cX11_lays 122 = .ok (.sipush 1000, 3) := by decide +kernel
theorem dX11_lays_125 : decode cX11_lays 125 = .ok (.isub, 1) := by decide +kernel
theorem dX11_lays_126 : decode cX11_lays 126 = .ok (.iastore, 1) := by decide +kernel
theorem dX11_lays_127 : decode cX11_lays 127 = .ok (.return_, 1) := by decide +kernel
theorem dX11_copies_0 : decode cX11_copies 0 = .ok (.iconst 0, 1) := by decide +kernel
theorem dX11_copies_1 : decode cX11_copies 1 = .ok (.istore 4, 2) := by decide +kernel
theorem dX11_copies_3 : decode cX11_copies 3 = .ok (.iload 4, 2) := by decide +kernel
theorem dX11_copies_5 : decode cX11_copies 5 = .ok (.bipush 25, 2) := by decide +kernel
theorem dX11_copies_7 : decode cX11_copies 7 = .ok (.if_icmp .ge 21, 3) := by decide +kernel
theorem dX11_copies_10 : decode cX11_copies 10 = .ok (.aload_n 2, 1) := by decide +kernel
theorem dX11_copies_11 : decode cX11_copies 11 = .ok (.iload_n 3, 1) := by decide +kernel
theorem dX11_copies_12 : decode cX11_copies 12 = .ok (.iload 4, 2) := by decide +kernel
theorem dX11_copies_14 : decode cX11_copies 14 = .ok (.iadd, 1) := by decide +kernel
theorem dX11_copies_15 : decode cX11_copies 15 = .ok (.aload_n 0, 1) := by decide +kernel
theorem dX11_copies_16 : decode cX11_copies 16 = .ok (.iload_n 1, 1) := by decide +kernel
theorem dX11_copies_17 : decode cX11_copies 17 = .ok (.iload 4, 2) := by decide +kernel
theorem dX11_copies_19 : decode cX11_copies 19 = .ok (.iadd, 1) := by decide +kernel
theorem dX11_copies_20 : decode cX11_copies 20 = .ok (.iaload, 1) := by decide +kernel
theorem dX11_copies_21 : decode cX11_copies 21 = .ok (.iastore, 1) := by decide +kernel
theorem dX11_copies_22 : decode cX11_copies 22 = .ok (.iinc 4 1, 3) := by decide +kernel
theorem dX11_copies_25 : decode cX11_copies 25 = .ok (.goto (-22), 3) := by decide +kernel
theorem dX11_copies_28 : decode cX11_copies 28 = .ok (.return_, 1) := by decide +kernel
theorem dX11_readsLine_0 : decode cX11_readsLine 0 = .ok (.aload_n 0, 1) := by decide +kernel
theorem dX11_readsLine_1 : decode cX11_readsLine 1 = .ok (.ldc2_w 245, 3) := by decide +kernel
theorem dX11_readsLine_4 : decode cX11_readsLine 4 = .ok (.invokevirtual 200, 3) := by decide +kernel
theorem dX11_readsLine_7 : decode cX11_readsLine 7 = .ok (.ifCond .eq 7, 3) := by decide +kernel
theorem dX11_readsLine_10 : decode cX11_readsLine 10 = .ok (.iconst 0, 1) := by decide +kernel
theorem dX11_readsLine_11 : decode cX11_readsLine 11 = .ok (.goto 46, 3) := by decide +kernel
theorem dX11_readsLine_14 : decode cX11_readsLine 14 = .ok (.aload_n 0, 1) := by decide +kernel
theorem dX11_readsLine_15 : decode cX11_readsLine 15 = .ok (.ldc2_w 247, 3) := by decide +kernel
theorem dX11_readsLine_18 : decode cX11_readsLine 18 = .ok (.invokevirtual 200, 3) := by decide +kernel
