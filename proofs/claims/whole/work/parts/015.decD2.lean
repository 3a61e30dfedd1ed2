theorem dX5_go_35 : decode cX5_go 35 = .ok (.iload_n 3, 1) := by decide +kernel
theorem dX5_go_36 : decode cX5_go 36 = .ok (.iadd, 1) := by decide +kernel
theorem dX5_go_37 : decode cX5_go 37 = .ok (.istore 4, 2) := by decide +kernel
theorem dX5_go_39 : decode cX5_go 39 = .ok (.aload_n 0, 1) := by decide +kernel
theorem dX5_go_40 : decode cX5_go 40 = .ok (.iload 4, 2) := by decide +kernel
theorem dX5_go_42 : decode cX5_go 42 = .ok (.invokevirtual 153, 3) := by decide +kernel
theorem dX5_go_45 : decode cX5_go 45 = .ok (.ifCond .eq 21, 3) := by decide +kernel
theorem dX5_go_48 : decode cX5_go 48 = .ok (.aload_n 0, 1) := by decide +kernel
theorem dX5_go_49 : decode cX5_go 49 = .ok (.iload 4, 2) := by decide +kernel
theorem dX5_go_51 : decode cX5_go 51 = .ok (.invokevirtual 162, 3) := by decide +kernel
theorem dX5_go_54 : decode cX5_go 54 = .ok (.ifCond .ne 12, 3) := by decide +kernel
theorem dX5_go_57 : decode cX5_go 57 = .ok (.iload 4, 2) := by decide +kernel
theorem dX5_go_59 : decode cX5_go 59 = .ok (.iload_n 3, 1) := by decide +kernel
theorem dX5_go_60 : decode cX5_go 60 = .ok (.iadd, 1) := by decide +kernel
theorem dX5_go_61 : decode cX5_go 61 = .ok (.istore 4, 2) := by decide +kernel
theorem dX5_go_63 : decode cX5_go 63 = .ok (.goto (-24), 3) := by decide +kernel
theorem dX5_go_66 : decode cX5_go 66 = .ok (.aload_n 0, 1) := by decide +kernel
theorem dX5_go_67 : decode cX5_go 67 = .ok (.iload 4, 2) := by decide +kernel
theorem dX5_go_69 : decode cX5_go 69 = .ok (.invokevirtual 153, 3) := by decide +kernel
theorem dX5_go_72 : decode cX5_go 72 = .ok (.ifCond .eq 8, 3) := by decide +kernel
theorem dX5_go_75 : decode cX5_go 75 = .ok (.iload 4, 2) := by decide +kernel
theorem dX5_go_77 : decode cX5_go 77 = .ok (.goto 5, 3) := by decide +kernel
theorem dX5_go_80 : decode cX5_go 80 = .ok (.bipush (-4), 2) := by decide +kernel
theorem dX5_go_82 : decode cX5_go 82 = .ok (.ireturn, 1) := by decide +kernel
theorem dX5_go_83 : decode cX5_go 83 = .ok (.aload_n 0, 1) := by decide +kernel
theorem dX5_go_84 : decode cX5_go 84 = .ok (.invokevirtual 150, 3) := by decide +kernel
theorem dX5_go_87 : decode cX5_go 87 = .ok (.aload_n 0, 1) := by decide +kernel
theorem dX5_go_88 : decode cX5_go 88 = .ok (.iload_n 1, 1) := by decide +kernel
theorem dX5_go_89 : decode cX5_go 89 = .ok (.invokevirtual 217, 3) := by decide +kernel
theorem dX5_go_92 : decode cX5_go 92 = .ok (.istore_n 3, 1) := by decide +kernel
theorem dX5_go_93 : decode cX5_go 93 = .ok (.iload_n 3, 1) := by decide +kernel
theorem dX5_go_94 : decode cX5_go 94 = .ok (.bipush (-4), 2) := by decide +kernel
theorem dX5_go_96 : decode cX5_go 96 = .ok (.if_icmp .ne 10, 3) := by decide +kernel
theorem dX5_go_99 : decode cX5_go 99 = .ok (.aload_n 0, 1) := by decide +kernel
theorem dX5_go_100 : decode cX5_go 100 = .ok (.getfield 144, 3) := by decide +kernel
theorem dX5_go_103 : decode cX5_go 103 = .ok (.goto 9, 3) := by decide +kernel
theorem dX5_go_106 : decode cX5_go 106 = .ok (.aload_n 0, 1) := by decide +kernel
theorem dX5_go_107 : decode cX5_go 107 = .ok (.getfield 44, 3) := by decide +kernel
theorem dX5_go_110 : decode cX5_go 110 = .ok (.iload_n 3, 1) := by decide +kernel
theorem dX5_go_111 : decode cX5_go 111 = .ok (.iaload, 1) := by decide +kernel
theorem dX5_go_112 : decode cX5_go 112 = .ok (.istore 4, 2) := by decide +kernel
theorem dX5_go_114 : decode cX5_go 114 = .ok (.iload_n 3, 1) := by decide +kernel
theorem dX5_go_115 : decode cX5_go 115 = .ok (.bipush (-4), 2) := by decide +kernel
theorem dX5_go_117 : decode cX5_go 117 = .ok (.if_icmp .ne 10, 3) := by decide +kernel
theorem dX5_go_120 : decode cX5_go 120 = .ok (.aload_n 0, 1) := by decide +kernel
theorem dX5_go_121 : decode cX5_go 121 = .ok (.getfield 147, 3) := by decide +kernel
theorem dX5_go_124 : decode cX5_go 124 = .ok (.goto 9, 3) := by decide +kernel
theorem dX5_go_127 : decode cX5_go 127 = .ok (.aload_n 0, 1) := by decide +kernel
theorem dX5_go_128 : decode cX5_go 128 = .ok (.getfield 47, 3) := by decide +kernel
theorem dX5_go_131 : decode cX5_go 131 = .ok (.iload_n 3, 1) := by decide +kernel
theorem dX5_go_132 : decode cX5_go 132 = .ok (.iaload, 1) := by decide +kernel
theorem dX5_go_133 : decode cX5_go 133 = .ok (.istore 5, 2) := by decide +kernel
theorem dX5_go_135 : decode cX5_go 135 = .ok (.iload_n 2, 1) := by decide +kernel
theorem dX5_go_136 : decode cX5_go 136 = .ok (.iconst 2, 1) := by decide +kernel
theorem dX5_go_137 : decode cX5_go 137 = .ok (.if_icmp .ne 10, 3) := by decide +kernel
theorem dX5_go_140 : decode cX5_go 140 = .ok (.iload 4, 2) := by decide +kernel
theorem dX5_go_142 : decode cX5_go 142 = .ok (.iconst 1, 1) := by decide +kernel
theorem dX5_go_143 : decode cX5_go 143 = .ok (.isub, 1) := by decide +kernel
theorem dX5_go_144 : decode cX5_go 144 = .ok (.goto 7, 3) := by decide +kernel
theorem dX5_go_147 : decode cX5_go 147 = .ok (.iload 4, 2) := by decide +kernel
theorem dX5_go_149 : decode cX5_go 149 = .ok (.iconst 1, 1) := by decide +kernel
theorem dX5_go_150 : decode cX5_go 150 = .ok (.iadd, 1) := by decide +kernel
theorem dX5_go_151 : decode cX5_go 151 = .ok (.istore 6, 2) := by decide +kernel
theorem dX5_go_153 : decode cX5_go 153 = .ok (.aload_n 0, 1) := by decide +kernel
theorem dX5_go_154 : decode cX5_go 154 = .ok (.iload 6, 2) := by decide +kernel
theorem dX5_go_156 : decode cX5_go 156 = .ok (.invokevirtual 223, 3) := by decide +kernel
theorem dX5_go_159 : decode cX5_go 159 = .ok (.ifCond .eq 14, 3) := by decide +kernel
theorem dX5_go_162 : decode cX5_go 162 = .ok (.aload_n 0, 1) := by decide +kernel
theorem dX5_go_163 : decode cX5_go 163 = .ok (.iload 6, 2) := by decide +kernel
theorem dX5_go_165 : decode cX5_go 165 = .ok (.iload 5, 2) := by decide +kernel
theorem dX5_go_167 : decode cX5_go 167 = .ok (.invokevirtual 226, 3) := by decide +kernel
theorem dX5_go_170 : decode cX5_go 170 = .ok (.goto 5, 3) := by decide +kernel
theorem dX5_go_173 : decode cX5_go 173 = .ok (.bipush (-4), 2) := by decide +kernel
theorem dX5_go_175 : decode cX5_go 175 = .ok (.ireturn, 1) := by decide +kernel
theorem dX5_row_0 : decode cX5_row 0 = .ok (.aload_n 0, 1) := by decide +kernel
theorem dX5_row_1 : decode cX5_row 1 = .ok (.invokevirtual 150, 3) := by decide +kernel
theorem dX5_row_4 : decode cX5_row 4 = .ok (.aload_n 0, 1) := by decide +kernel
theorem dX5_row_5 : decode cX5_row 5 = .ok (.iload_n 1, 1) := by decide +kernel
theorem dX5_row_6 : decode cX5_row 6 = .ok (.invokevirtual 223, 3) := by decide +kernel
theorem dX5_row_9 : decode cX5_row 9 = .ok (.ifCond .eq 12, 3) := by decide +kernel
theorem dX5_row_12 : decode cX5_row 12 = .ok (.iload_n 2, 1) := by decide +kernel
theorem dX5_row_13 : decode cX5_row 13 = .ok (.iconst 0, 1) := by decide +kernel
theorem dX5_row_14 : decode cX5_row 14 = .ok (.iconst 1, 1) := by decide +kernel
theorem dX5_row_15 : decode cX5_row 15 = .ok (.invokestatic 103, 3) := by decide +kernel
theorem dX5_row_18 : decode cX5_row 18 = .ok (.ifCond .ne 5, 3) := by decide +kernel
theorem dX5_row_21 : decode cX5_row 21 = .ok (.iconst (-1), 1) := by decide +kernel
theorem dX5_row_22 : decode cX5_row 22 = .ok (.ireturn, 1) := by decide +kernel
theorem dX5_row_23 : decode cX5_row 23 = .ok (.iload_n 2, 1) := by decide +kernel
theorem dX5_row_24 : decode cX5_row 24 = .ok (.ifCond .ne 12, 3) := by decide +kernel
theorem dX5_row_27 : decode cX5_row 27 = .ok (.aload_n 0, 1) := by decide +kernel
theorem dX5_row_28 : decode cX5_row 28 = .ok (.getfield 53, 3) := by decide +kernel
theorem dX5_row_31 : decode cX5_row 31 = .ok (.iload_n 1, 1) := by decide +kernel
theorem dX5_row_32 : decode cX5_row 32 = .ok (.iaload, 1) := by decide +kernel
theorem dX5_row_33 : decode cX5_row 33 = .ok (.goto 9, 3) := by decide +kernel
theorem dX5_row_36 : decode cX5_row 36 = .ok (.aload_n 0, 1) := by decide +kernel
theorem dX5_row_37 : decode cX5_row 37 = .ok (.getfield 56, 3) := by decide +kernel
theorem dX5_row_40 : decode cX5_row 40 = .ok (.iload_n 1, 1) := by decide +kernel
theorem dX5_row_41 : decode cX5_row 41 = .ok (.iaload, 1) := by decide +kernel
theorem dX5_row_42 : decode cX5_row 42 = .ok (.ireturn, 1) := by decide +kernel
theorem dX5_nowMany_0 : decode cX5_nowMany 0 = .ok (.iconst 0, 1) := by decide +kernel
theorem dX5_nowMany_1 : decode cX5_nowMany 1 = .ok (.istore_n 2, 1) := by decide +kernel
theorem dX5_nowMany_2 : decode cX5_nowMany 2 = .ok (.iconst 0, 1) := by decide +kernel
theorem dX5_nowMany_3 : decode cX5_nowMany 3 = .ok (.istore_n 3, 1) := by decide +kernel
theorem dX5_nowMany_4 : decode cX5_nowMany 4 = .ok (.iload_n 3, 1) := by decide +kernel
theorem dX5_nowMany_5 : decode cX5_nowMany 5 = .ok (.aload_n 0, 1) := by decide +kernel
theorem dX5_nowMany_6 : decode cX5_nowMany 6 = .ok (.getfield 117, 3) := by decide +kernel
theorem dX5_nowMany_9 : decode cX5_nowMany 9 = .ok (.if_icmp .ge 38, 3) := by decide +kernel
theorem dX5_nowMany_12 : decode cX5_nowMany 12 = .ok (.iload_n 2, 1) := by decide +kernel
theorem dX5_nowMany_13 : decode cX5_nowMany 13 = .ok (.aload_n 0, 1) := by decide +kernel
theorem dX5_nowMany_14 : decode cX5_nowMany 14 = .ok (.getfield 44, 3) := by decide +kernel
theorem dX5_nowMany_17 : decode cX5_nowMany 17 = .ok (.iload_n 3, 1) := by decide +kernel
theorem dX5_nowMany_18 : decode cX5_nowMany 18 = .ok (.iaload, 1) := by decide +kernel
theorem dX5_nowMany_19 : decode cX5_nowMany 19 = .ok (.iload_n 1, 1) := by decide +kernel
theorem dX5_nowMany_20 : decode cX5_nowMany 20 = .ok (.if_icmp .ne 18, 3) := by decide +kernel
theorem dX5_nowMany_23 : decode cX5_nowMany 23 = .ok (.aload_n 0, 1) := by decide +kernel
theorem dX5_nowMany_24 : decode cX5_nowMany 24 = .ok (.getfield 38, 3) := by decide +kernel
theorem dX5_nowMany_27 : decode cX5_nowMany 27 = .ok (.iload_n 3, 1) := by decide +kernel
theorem dX5_nowMany_28 : decode cX5_nowMany 28 = .ok (.iaload, 1) := by decide +kernel
theorem dX5_nowMany_29 : decode cX5_nowMany 29 = .ok (.bipush 27, 2) := by decide +kernel
theorem dX5_nowMany_31 : decode cX5_nowMany 31 = .ok (.if_icmp .eq 7, 3) := by decide +kernel
theorem dX5_nowMany_34 : decode cX5_nowMany 34 = .ok (.iconst 1, 1) := by decide +kernel
theorem dX5_nowMany_35 : decode cX5_nowMany 35 = .ok (.goto 4, 3) := by decide +kernel
theorem dX5_nowMany_38 : decode cX5_nowMany 38 = .ok (.iconst 0, 1) := by decide +kernel
theorem dX5_nowMany_39 : decode cX5_nowMany 39 = .ok (.iadd, 1) := by decide +kernel
theorem dX5_nowMany_40 : decode cX5_nowMany 40 = .ok (.istore_n 2, 1) := by decide +kernel
theorem dX5_nowMany_41 : decode cX5_nowMany 41 = .ok (.iinc 3 1, 3) := by decide +kernel
theorem dX5_nowMany_44 : decode cX5_nowMany 44 = .ok (.goto (-40), 3) := by decide +kernel
theorem dX5_nowMany_47 : decode cX5_nowMany 47 = .ok (.iload_n 2, 1) := by decide +kernel
theorem dX5_nowMany_48 : decode cX5_nowMany 48 = .ok (.ireturn, 1) := by decide +kernel
theorem dX5_wereMany_0 : decode cX5_wereMany 0 = .ok (.iconst 0, 1) := by decide +kernel
theorem dX5_wereMany_1 : decode cX5_wereMany 1 = .ok (.istore_n 2, 1) := by decide +kernel
theorem dX5_wereMany_2 : decode cX5_wereMany 2 = .ok (.iconst 0, 1) := by decide +kernel
theorem dX5_wereMany_3 : decode cX5_wereMany 3 = .ok (.istore_n 3, 1) := by decide +kernel
theorem dX5_wereMany_4 : decode cX5_wereMany 4 = .ok (.iload_n 3, 1) := by decide +kernel
theorem dX5_wereMany_5 : decode cX5_wereMany 5 = .ok (.aload_n 0, 1) := by decide +kernel
theorem dX5_wereMany_6 : decode cX5_wereMany 6 = .ok (.getfield 165, 3) := by decide +kernel
theorem dX5_wereMany_9 : decode cX5_wereMany 9 = .ok (.if_icmp .ge 38, 3) := by decide +kernel
theorem dX5_wereMany_12 : decode cX5_wereMany 12 = .ok (.iload_n 2, 1) := by decide +kernel
theorem dX5_wereMany_13 : decode cX5_wereMany 13 = .ok (.aload_n 0, 1) := by decide +kernel
theorem dX5_wereMany_14 : decode cX5_wereMany 14 = .ok (.getfield 71, 3) := by decide +kernel
theorem dX5_wereMany_17 : decode cX5_wereMany 17 = .ok (.iload_n 3, 1) := by decide +kernel
theorem dX5_wereMany_18 : decode cX5_wereMany 18 = .ok (.iaload, 1) := by decide +kernel
theorem dX5_wereMany_19 : decode cX5_wereMany 19 = .ok (.iload_n 1, 1) := by decide +kernel
theorem dX5_wereMany_20 : decode cX5_wereMany 20 = .ok (.if_icmp .ne 18, 3) := by decide +kernel
theorem dX5_wereMany_23 : decode cX5_wereMany 23 = .ok (.aload_n 0, 1) := by decide +kernel
theorem dX5_wereMany_24 : decode cX5_wereMany 24 = .ok (.getfield 68, 3) := by decide +kernel
theorem dX5_wereMany_27 : decode cX5_wereMany 27 = .ok (.iload_n 3, 1) := by decide +kernel
theorem dX5_wereMany_28 : decode cX5_wereMany 28 = .ok (.iaload, 1) := by decide +kernel
theorem dX5_wereMany_29 : decode cX5_wereMany 29 = .ok (.bipush 27, 2) := by decide +kernel
theorem dX5_wereMany_31 : decode cX5_wereMany 31 = .ok (.if_icmp .eq 7, 3) := by decide +kernel
theorem dX5_wereMany_34 : decode cX5_wereMany 34 = .ok (.iconst 1, 1) := by decide +kernel
theorem dX5_wereMany_35 : decode cX5_wereMany 35 = .ok (.goto 4, 3) := by decide +kernel
theorem dX5_wereMany_38 : decode cX5_wereMany 38 = .ok (.iconst 0, 1) := by decide +kernel
theorem dX5_wereMany_39 : decode cX5_wereMany 39 = .ok (.iadd, 1) := by decide +kernel
theorem dX5_wereMany_40 : decode cX5_wereMany 40 = .ok (.istore_n 2, 1) := by decide +kernel
theorem dX5_wereMany_41 : decode cX5_wereMany 41 = .ok (.iinc 3 1, 3) := by decide +kernel
theorem dX5_wereMany_44 : decode cX5_wereMany 44 = .ok (.goto (-40), 3) := by decide +kernel
theorem dX5_wereMany_47 : decode cX5_wereMany 47 = .ok (.iload_n 2, 1) := by decide +kernel
theorem dX5_wereMany_48 : decode cX5_wereMany 48 = .ok (.ireturn, 1) := by decide +kernel
theorem dX5_stood_0 : decode cX5_stood 0 = .ok (.iconst 0, 1) := by decide +kernel
theorem dX5_stood_1 : decode cX5_stood 1 = .ok (.istore_n 2, 1) := by decide +kernel
theorem dX5_stood_2 : decode cX5_stood 2 = .ok (.iconst 0, 1) := by decide +kernel
theorem dX5_stood_3 : decode cX5_stood 3 = .ok (.istore_n 3, 1) := by decide +kernel
theorem dX5_stood_4 : decode cX5_stood 4 = .ok (.iload_n 3, 1) := by decide +kernel
theorem dX5_stood_5 : decode cX5_stood 5 = .ok (.aload_n 0, 1) := by decide +kernel
theorem dX5_stood_6 : decode cX5_stood 6 = .ok (.getfield 165, 3) := by decide +kernel
theorem dX5_stood_9 : decode cX5_stood 9 = .ok (.if_icmp .ge 79, 3) := by decide +kernel
theorem dX5_stood_12 : decode cX5_stood 12 = .ok (.iload_n 2, 1) := by decide +kernel
theorem dX5_stood_13 : decode cX5_stood 13 = .ok (.ifCond .ne 63, 3) := by decide +kernel
theorem dX5_stood_16 : decode cX5_stood 16 = .ok (.aload_n 0, 1) := by decide +kernel
theorem dX5_stood_17 : decode cX5_stood 17 = .ok (.getfield 71, 3) := by decide +kernel
theorem dX5_stood_20 : decode cX5_stood 20 = .ok (.iload_n 3, 1) := by decide +kernel
theorem dX5_stood_21 : decode cX5_stood 21 = .ok (.iaload, 1) := by decide +kernel
theorem dX5_stood_22 : decode cX5_stood 22 = .ok (.aload_n 0, 1) := by decide +kernel
theorem dX5_stood_23 : decode cX5_stood 23 = .ok (.getfield 44, 3) := by decide +kernel
theorem dX5_stood_26 : decode cX5_stood 26 = .ok (.iload_n 1, 1) := by decide +kernel
theorem dX5_stood_27 : decode cX5_stood 27 = .ok (.iaload, 1) := by decide +kernel
theorem dX5_stood_28 : decode cX5_stood 28 = .ok (.if_icmp .ne 52, 3) := by decide +kernel
theorem dX5_stood_31 : decode cX5_stood 31 = .ok (.aload_n 0, 1) := by decide +kernel
theorem dX5_stood_32 : decode cX5_stood 32 = .ok (.getfield 68, 3) := by decide +kernel
theorem dX5_stood_35 : decode cX5_stood 35 = .ok (.iload_n 3, 1) := by decide +kernel
theorem dX5_stood_36 : decode cX5_stood 36 = .ok (.iaload, 1) := by decide +kernel
theorem dX5_stood_37 : decode cX5_stood 37 = .ok (.aload_n 0, 1) := by decide +kernel
theorem dX5_stood_38 : decode cX5_stood 38 = .ok (.getfield 38, 3) := by decide +kernel
theorem dX5_stood_41 : decode cX5_stood 41 = .ok (.iload_n 1, 1) := by decide +kernel
theorem dX5_stood_42 : decode cX5_stood 42 = .ok (.iaload, 1) := by decide +kernel
theorem dX5_stood_43 : decode cX5_stood 43 = .ok (.if_icmp .ne 37, 3) := by decide +kernel
theorem dX5_stood_46 : decode cX5_stood 46 = .ok (.aload_n 0, 1) := by decide +kernel
theorem dX5_stood_47 : decode cX5_stood 47 = .ok (.getfield 74, 3) := by decide +kernel
theorem dX5_stood_50 : decode cX5_stood 50 = .ok (.iload_n 3, 1) := by decide +kernel
theorem dX5_stood_51 : decode cX5_stood 51 = .ok (.iaload, 1) := by decide +kernel
theorem dX5_stood_52 : decode cX5_stood 52 = .ok (.aload_n 0, 1) := by decide +kernel
theorem dX5_stood_53 : decode cX5_stood 53 = .ok (.getfield 47, 3) := by decide +kernel
theorem dX5_stood_56 : decode cX5_stood 56 = .ok (.iload_n 1, 1) := by decide +kernel
theorem dX5_stood_57 : decode cX5_stood 57 = .ok (.iaload, 1) := by decide +kernel
theorem dX5_stood_58 : decode cX5_stood 58 = .ok (.if_icmp .ne 22, 3) := by decide +kernel
theorem dX5_stood_61 : decode cX5_stood 61 = .ok (.aload_n 0, 1) := by decide +kernel
theorem dX5_stood_62 : decode cX5_stood 62 = .ok (.getfield 77, 3) := by decide +kernel
theorem dX5_stood_65 : decode cX5_stood 65 = .ok (.iload_n 3, 1) := by decide +kernel
theorem dX5_stood_66 : decode cX5_stood 66 = .ok (.iaload, 1) := by decide +kernel
theorem dX5_stood_67 : decode cX5_stood 67 = .ok (.aload_n 0, 1) := by decide +kernel
theorem dX5_stood_68 : decode cX5_stood 68 = .ok (.getfield 50, 3) := by decide +kernel
theorem dX5_stood_71 : decode cX5_stood 71 = .ok (.iload_n 1, 1) := by decide +kernel
theorem dX5_stood_72 : decode cX5_stood 72 = .ok (.iaload, 1) := by decide +kernel
theorem dX5_stood_73 : decode cX5_stood 73 = .ok (.if_icmp .ne 7, 3) := by decide +kernel
theorem dX5_stood_76 : decode cX5_stood 76 = .ok (.iconst 1, 1) := by decide +kernel
theorem dX5_stood_77 : decode cX5_stood 77 = .ok (.goto 4, 3) := by decide +kernel
theorem dX5_stood_80 : decode cX5_stood 80 = .ok (.iconst 0, 1) := by decide +kernel
theorem dX5_stood_81 : decode cX5_stood 81 = .ok (.istore_n 2, 1) := by decide +kernel
theorem dX5_stood_82 : decode cX5_stood 82 = .ok (.iinc 3 1, 3) := by decide +kernel
theorem dX5_stood_85 : decode cX5_stood 85 = .ok (.goto (-81), 3) := by decide +kernel
theorem dX5_stood_88 : decode cX5_stood 88 = .ok (.iload_n 2, 1) := by decide +kernel
theorem dX5_stood_89 : decode cX5_stood 89 = .ok (.ireturn, 1) := by decide +kernel
theorem dX5_isChanged_0 : decode cX5_isChanged 0 = .ok (.iload_n 1, 1) := by decide +kernel
theorem dX5_isChanged_1 : decode cX5_isChanged 1 = .ok (.aload_n 0, 1) := by decide +kernel
theorem dX5_isChanged_2 : decode cX5_isChanged 2 = .ok (.getfield 168, 3) := by decide +kernel
theorem dX5_isChanged_5 : decode cX5_isChanged 5 = .ok (.if_icmp .ge 24, 3) := by decide +kernel
theorem dX5_isChanged_8 : decode cX5_isChanged 8 = .ok (.iload_n 1, 1) := by decide +kernel
theorem dX5_isChanged_9 : decode cX5_isChanged 9 = .ok (.aload_n 0, 1) := by decide +kernel
theorem dX5_isChanged_10 : decode cX5_isChanged 10 = .ok (.getfield 144, 3) := by decide +kernel
theorem dX5_isChanged_13 : decode cX5_isChanged 13 = .ok (.if_icmp .gt 16, 3) := by decide +kernel
theorem dX5_isChanged_16 : decode cX5_isChanged 16 = .ok (.aload_n 0, 1) := by decide +kernel
theorem dX5_isChanged_17 : decode cX5_isChanged 17 = .ok (.iload_n 1, 1) := by decide +kernel
theorem dX5_isChanged_18 : decode cX5_isChanged 18 = .ok (.invokevirtual 229, 3) := by decide +kernel
theorem dX5_isChanged_21 : decode cX5_isChanged 21 = .ok (.aload_n 0, 1) := by decide +kernel
theorem dX5_isChanged_22 : decode cX5_isChanged 22 = .ok (.iload_n 1, 1) := by decide +kernel
theorem dX5_isChanged_23 : decode cX5_isChanged 23 = .ok (.invokevirtual 232, 3) := by decide +kernel
theorem dX5_isChanged_26 : decode cX5_isChanged 26 = .ok (.if_icmp .eq 5, 3) := by decide +kernel
theorem dX5_isChanged_29 : decode cX5_isChanged 29 = .ok (.iconst 1, 1) := by decide +kernel
theorem dX5_isChanged_30 : decode cX5_isChanged 30 = .ok (.ireturn, 1) := by decide +kernel
theorem dX5_isChanged_31 : decode cX5_isChanged 31 = .ok (.iconst 0, 1) := by decide +kernel
theorem dX5_isChanged_32 : decode cX5_isChanged 32 = .ok (.istore_n 2, 1) := by decide +kernel
theorem dX5_isChanged_33 : decode cX5_isChanged 33 = .ok (.iconst 0, 1) := by decide +kernel
theorem dX5_isChanged_34 : decode cX5_isChanged 34 = .ok (.istore_n 3, 1) := by decide +kernel
theorem dX5_isChanged_35 : decode cX5_isChanged 35 = .ok (.iload_n 3, 1) := by decide +kernel
theorem dX5_isChanged_36 : decode cX5_isChanged 36 = .ok (.aload_n 0, 1) := by decide +kernel
theorem dX5_isChanged_37 : decode cX5_isChanged 37 = .ok (.getfield 117, 3) := by decide +kernel
theorem dX5_isChanged_40 : decode cX5_isChanged 40 = .ok (.if_icmp .ge 48, 3) := by decide +kernel
theorem dX5_isChanged_43 : decode cX5_isChanged 43 = .ok (.iload_n 2, 1) := by decide +kernel
theorem dX5_isChanged_44 : decode cX5_isChanged 44 = .ok (.ifCond .ne 32, 3) := by decide +kernel
theorem dX5_isChanged_47 : decode cX5_isChanged 47 = .ok (.aload_n 0, 1) := by decide +kernel
theorem dX5_isChanged_48 : decode cX5_isChanged 48 = .ok (.getfield 44, 3) := by decide +kernel
theorem dX5_isChanged_51 : decode cX5_isChanged 51 = .ok (.iload_n 3, 1) := by decide +kernel
theorem dX5_isChanged_52 : decode cX5_isChanged 52 = .ok (.iaload, 1) := by decide +kernel
theorem dX5_isChanged_53 : decode cX5_isChanged 53 = .ok (.iload_n 1, 1) := by decide +kernel
theorem dX5_isChanged_54 : decode cX5_isChanged 54 = .ok (.if_icmp .ne 26, 3) := by decide +kernel
theorem dX5_isChanged_57 : decode cX5_isChanged 57 = .ok (.aload_n 0, 1) := by decide +kernel
theorem dX5_isChanged_58 : decode cX5_isChanged 58 = .ok (.getfield 38, 3) := by decide +kernel
theorem dX5_isChanged_61 : decode cX5_isChanged 61 = .ok (.iload_n 3, 1) := by decide +kernel
theorem dX5_isChanged_62 : decode cX5_isChanged 62 = .ok (.iaload, 1) := by decide +kernel
theorem dX5_isChanged_63 : decode cX5_isChanged 63 = .ok (.bipush 27, 2) := by decide +kernel
theorem dX5_isChanged_65 : decode cX5_isChanged 65 = .ok (.if_icmp .eq 15, 3) := by decide +kernel
theorem dX5_isChanged_68 : decode cX5_isChanged 68 = .ok (.aload_n 0, 1) := by decide +kernel
theorem dX5_isChanged_69 : decode cX5_isChanged 69 = .ok (.iload_n 3, 1) := by decide +kernel
theorem dX5_isChanged_70 : decode cX5_isChanged 70 = .ok (.invokevirtual 235, 3) := by decide +kernel
theorem dX5_isChanged_73 : decode cX5_isChanged 73 = .ok (.ifCond .ne 7, 3) := by decide +kernel
theorem dX5_isChanged_76 : decode cX5_isChanged 76 = .ok (.iconst 1, 1) := by decide +kernel
theorem dX5_isChanged_77 : decode cX5_isChanged 77 = .ok (.goto 4, 3) := by decide +kernel
theorem dX5_isChanged_80 : decode cX5_isChanged 80 = .ok (.iconst 0, 1) := by decide +kernel
theorem dX5_isChanged_81 : decode cX5_isChanged 81 = .ok (.istore_n 2, 1) := by decide +kernel
theorem dX5_isChanged_82 : decode cX5_isChanged 82 = .ok (.iinc 3 1, 3) := by decide +kernel
theorem dX5_isChanged_85 : decode cX5_isChanged 85 = .ok (.goto (-50), 3) := by decide +kernel
theorem dX5_isChanged_88 : decode cX5_isChanged 88 = .ok (.iload_n 2, 1) := by decide +kernel
theorem dX5_isChanged_89 : decode cX5_isChanged 89 = .ok (.ireturn, 1) := by decide +kernel
theorem dX5_changed_0 : decode cX5_changed 0 = .ok (.iload_n 1, 1) := by decide +kernel
theorem dX5_changed_1 : decode cX5_changed 1 = .ok (.iconst 0, 1) := by decide +kernel
theorem dX5_changed_2 : decode cX5_changed 2 = .ok (.iconst 1, 1) := by decide +kernel
theorem dX5_changed_3 : decode cX5_changed 3 = .ok (.invokestatic 103, 3) := by decide +kernel
theorem dX5_changed_6 : decode cX5_changed 6 = .ok (.ifCond .ne 5, 3) := by decide +kernel
theorem dX5_changed_9 : decode cX5_changed 9 = .ok (.iconst (-1), 1) := by decide +kernel
theorem dX5_changed_10 : decode cX5_changed 10 = .ok (.ireturn, 1) := by decide +kernel
theorem dX5_changed_11 : decode cX5_changed 11 = .ok (.aload_n 0, 1) := by decide +kernel
theorem dX5_changed_12 : decode cX5_changed 12 = .ok (.invokevirtual 150, 3) := by decide +kernel
theorem dX5_changed_15 : decode cX5_changed 15 = .ok (.bipush (-4), 2) := by decide +kernel
theorem dX5_changed_17 : decode cX5_changed 17 = .ok (.istore_n 2, 1) := by decide +kernel
theorem dX5_changed_18 : decode cX5_changed 18 = .ok (.iconst 0, 1) := by decide +kernel
theorem dX5_changed_19 : decode cX5_changed 19 = .ok (.istore_n 3, 1) := by decide +kernel
theorem dX5_changed_20 : decode cX5_changed 20 = .ok (.iconst 0, 1) := by decide +kernel
theorem dX5_changed_21 : decode cX5_changed 21 = .ok (.istore 4, 2) := by decide +kernel
theorem dX5_changed_23 : decode cX5_changed 23 = .ok (.aload_n 0, 1) := by decide +kernel
theorem dX5_changed_24 : decode cX5_changed 24 = .ok (.getfield 171, 3) := by decide +kernel
theorem dX5_changed_27 : decode cX5_changed 27 = .ok (.ifCond .eq 50, 3) := by decide +kernel
theorem dX5_changed_30 : decode cX5_changed 30 = .ok (.iload 4, 2) := by decide +kernel
theorem dX5_changed_32 : decode cX5_changed 32 = .ok (.aload_n 0, 1) := by decide +kernel
theorem dX5_changed_33 : decode cX5_changed 33 = .ok (.getfield 168, 3) := by decide +kernel
theorem dX5_changed_36 : decode cX5_changed 36 = .ok (.if_icmp .lt 12, 3) := by decide +kernel
theorem dX5_changed_39 : decode cX5_changed 39 = .ok (.iload 4, 2) := by decide +kernel
theorem dX5_changed_41 : decode cX5_changed 41 = .ok (.aload_n 0, 1) := by decide +kernel
theorem dX5_changed_42 : decode cX5_changed 42 = .ok (.getfield 144, 3) := by decide +kernel
theorem dX5_changed_45 : decode cX5_changed 45 = .ok (.if_icmp .gt 32, 3) := by decide +kernel
theorem dX5_changed_48 : decode cX5_changed 48 = .ok (.aload_n 0, 1) := by decide +kernel
theorem dX5_changed_49 : decode cX5_changed 49 = .ok (.iload 4, 2) := by decide +kernel
theorem dX5_changed_51 : decode cX5_changed 51 = .ok (.invokevirtual 238, 3) := by decide +kernel
theorem dX5_changed_54 : decode cX5_changed 54 = .ok (.ifCond .eq 17, 3) := by decide +kernel
theorem dX5_changed_57 : decode cX5_changed 57 = .ok (.iload_n 3, 1) := by decide +kernel
theorem dX5_changed_58 : decode cX5_changed 58 = .ok (.ifCond .ne 8, 3) := by decide +kernel
theorem dX5_changed_61 : decode cX5_changed 61 = .ok (.iload 4, 2) := by decide +kernel
theorem dX5_changed_63 : decode cX5_changed 63 = .ok (.goto 4, 3) := by decide +kernel
theorem dX5_changed_66 : decode cX5_changed 66 = .ok (.iload_n 2, 1) := by decide +kernel
theorem dX5_changed_67 : decode cX5_changed 67 = .ok (.istore_n 2, 1) := by decide +kernel
theorem dX5_changed_68 : decode cX5_changed 68 = .ok (.iinc 3 1, 3) := by decide +kernel
theorem dX5_changed_71 : decode cX5_changed 71 = .ok (.iinc 4 1, 3) := by decide +kernel
theorem dX5_changed_74 : decode cX5_changed 74 = .ok (.goto (-51), 3) := by decide +kernel
theorem dX5_changed_77 : decode cX5_changed 77 = .ok (.iload_n 1, 1) := by decide +kernel
theorem dX5_changed_78 : decode cX5_changed 78 = .ok (.ifCond .ne 7, 3) := by decide +kernel
theorem dX5_changed_81 : decode cX5_changed 81 = .ok (.iload_n 2, 1) := by decide +kernel
theorem dX5_changed_82 : decode cX5_changed 82 = .ok (.goto 4, 3) := by decide +kernel
theorem dX5_changed_85 : decode cX5_changed 85 = .ok (.iload_n 3, 1) := by decide +kernel
theorem dX5_changed_86 : decode cX5_changed 86 = .ok (.ireturn, 1) := by decide +kernel
theorem dX5_fit_0 : decode cX5_fit 0 = .ok (.iload_n 1, 1) := by decide +kernel
theorem dX5_fit_1 : decode cX5_fit 1 = .ok (.iconst 1, 1) := by decide +kernel
theorem dX5_fit_2 : decode cX5_fit 2 = .ok (.bipush 40, 2) := by decide +kernel
theorem dX5_fit_4 : decode cX5_fit 4 = .ok (.invokestatic 103, 3) := by decide +kernel
theorem dX5_fit_7 : decode cX5_fit 7 = .ok (.ifCond .ne 5, 3) := by decide +kernel
theorem dX5_fit_10 : decode cX5_fit 10 = .ok (.iconst (-1), 1) := by decide +kernel
theorem dX5_fit_11 : decode cX5_fit 11 = .ok (.ireturn, 1) := by decide +kernel
theorem dX5_fit_12 : decode cX5_fit 12 = .ok (.aload_n 0, 1) := by decide +kernel
theorem dX5_fit_13 : decode cX5_fit 13 = .ok (.getfield 32, 3) := by decide +kernel
theorem dX5_fit_16 : decode cX5_fit 16 = .ok (.istore_n 2, 1) := by decide +kernel
theorem dX5_fit_17 : decode cX5_fit 17 = .ok (.bipush (-4), 2) := by decide +kernel
theorem dX5_fit_19 : decode cX5_fit 19 = .ok (.istore_n 3, 1) := by decide +kernel
theorem dX5_fit_20 : decode cX5_fit 20 = .ok (.bipush 20, 2) := by decide +kernel
theorem dX5_fit_22 : decode cX5_fit 22 = .ok (.istore 4, 2) := by decide +kernel
theorem dX5_fit_24 : decode cX5_fit 24 = .ok (.iload 4, 2) := by decide +kernel
theorem dX5_fit_26 : decode cX5_fit 26 = .ok (.iconst 4, 1) := by decide +kernel
theorem dX5_fit_27 : decode cX5_fit 27 = .ok (.if_icmp .lt 30, 3) := by decide +kernel
theorem dX5_fit_30 : decode cX5_fit 30 = .ok (.aload_n 0, 1) := by decide +kernel
theorem dX5_fit_31 : decode cX5_fit 31 = .ok (.iload 4, 2) := by decide +kernel
theorem dX5_fit_33 : decode cX5_fit 33 = .ok (.putfield 32, 3) := by decide +kernel
theorem dX5_fit_36 : decode cX5_fit 36 = .ok (.aload_n 0, 1) := by decide +kernel
theorem dX5_fit_37 : decode cX5_fit 37 = .ok (.invokevirtual 241, 3) := by decide +kernel
theorem dX5_fit_40 : decode cX5_fit 40 = .ok (.iload_n 1, 1) := by decide +kernel
theorem dX5_fit_41 : decode cX5_fit 41 = .ok (.if_icmp .gt 8, 3) := by decide +kernel
theorem dX5_fit_44 : decode cX5_fit 44 = .ok (.iload 4, 2) := by decide +kernel
theorem dX5_fit_46 : decode cX5_fit 46 = .ok (.goto 4, 3) := by decide +kernel
theorem dX5_fit_49 : decode cX5_fit 49 = .ok (.iload_n 3, 1) := by decide +kernel
theorem dX5_fit_50 : decode cX5_fit 50 = .ok (.istore_n 3, 1) := by decide +kernel
theorem dX5_fit_51 : decode cX5_fit 51 = .ok (.iinc 4 (-1), 3) := by decide +kernel
theorem dX5_fit_54 : decode cX5_fit 54 = .ok (.goto (-30), 3) := by decide +kernel
theorem dX5_fit_57 : decode cX5_fit 57 = .ok (.aload_n 0, 1) := by decide +kernel
theorem dX5_fit_58 : decode cX5_fit 58 = .ok (.iload_n 2, 1) := by decide +kernel
theorem dX5_fit_59 : decode cX5_fit 59 = .ok (.putfield 32, 3) := by decide +kernel
theorem dX5_fit_62 : decode cX5_fit 62 = .ok (.iload_n 3, 1) := by decide +kernel
theorem dX5_fit_63 : decode cX5_fit 63 = .ok (.ireturn, 1) := by decide +kernel
theorem dX5_saves_0 : decode cX5_saves 0 = .ok (.iload_n 1, 1) := by decide +kernel
theorem dX5_saves_1 : decode cX5_saves 1 = .ok (.iconst 0, 1) := by decide +kernel
theorem dX5_saves_2 : decode cX5_saves 2 = .ok (.iconst 1, 1) := by decide +kernel
theorem dX5_saves_3 : decode cX5_saves 3 = .ok (.invokestatic 103, 3) := by decide +kernel
theorem dX5_saves_6 : decode cX5_saves 6 = .ok (.ifCond .ne 5, 3) := by decide +kernel
theorem dX5_saves_9 : decode cX5_saves 9 = .ok (.iconst (-1), 1) := by decide +kernel
theorem dX5_saves_10 : decode cX5_saves 10 = .ok (.ireturn, 1) := by decide +kernel
theorem dX5_saves_11 : decode cX5_saves 11 = .ok (.bipush (-4), 2) := by decide +kernel
theorem dX5_saves_13 : decode cX5_saves 13 = .ok (.istore_n 2, 1) := by decide +kernel
theorem dX5_saves_14 : decode cX5_saves 14 = .ok (.ldc 245, 2) := by decide +kernel
theorem dX5_saves_16 : decode cX5_saves 16 = .ok (.istore_n 3, 1) := by decide +kernel
theorem dX5_saves_17 : decode cX5_saves 17 = .ok (.iconst 0, 1) := by decide +kernel
theorem dX5_saves_18 : decode cX5_saves 18 = .ok (.istore 4, 2) := by decide +kernel
theorem dX5_saves_20 : decode cX5_saves 20 = .ok (.iload 4, 2) := by decide +kernel
theorem dX5_saves_22 : decode cX5_saves 22 = .ok (.aload_n 0, 1) := by decide +kernel
theorem dX5_saves_23 : decode cX5_saves 23 = .ok (.getfield 107, 3) := by decide +kernel
theorem dX5_saves_26 : decode cX5_saves 26 = .ok (.if_icmp .ge 67, 3) := by decide +kernel
theorem dX5_saves_29 : decode cX5_saves 29 = .ok (.aload_n 0, 1) := by decide +kernel
theorem dX5_saves_30 : decode cX5_saves 30 = .ok (.getfield 19, 3) := by decide +kernel
theorem dX5_saves_33 : decode cX5_saves 33 = .ok (.iload 4, 2) := by decide +kernel
theorem dX5_saves_35 : decode cX5_saves 35 = .ok (.iaload, 1) := by decide +kernel
theorem dX5_saves_36 : decode cX5_saves 36 = .ok (.ifCond .ne 51, 3) := by decide +kernel
theorem dX5_saves_39 : decode cX5_saves 39 = .ok (.aload_n 0, 1) := by decide +kernel
theorem dX5_saves_40 : decode cX5_saves 40 = .ok (.getfield 19, 3) := by decide +kernel
theorem dX5_saves_43 : decode cX5_saves 43 = .ok (.iload 4, 2) := by decide +kernel
theorem dX5_saves_45 : decode cX5_saves 45 = .ok (.iconst 1, 1) := by decide +kernel
theorem dX5_saves_46 : decode cX5_saves 46 = .ok (.iastore, 1) := by decide +kernel
theorem dX5_saves_47 : decode cX5_saves 47 = .ok (.aload_n 0, 1) := by decide +kernel
theorem dX5_saves_48 : decode cX5_saves 48 = .ok (.invokevirtual 241, 3) := by decide +kernel
theorem dX5_saves_51 : decode cX5_saves 51 = .ok (.istore 5, 2) := by decide +kernel
theorem dX5_saves_53 : decode cX5_saves 53 = .ok (.aload_n 0, 1) := by decide +kernel
theorem dX5_saves_54 : decode cX5_saves 54 = .ok (.getfield 19, 3) := by decide +kernel
theorem dX5_saves_57 : decode cX5_saves 57 = .ok (.iload 4, 2) := by decide +kernel
theorem dX5_saves_59 : decode cX5_saves 59 = .ok (.iconst 0, 1) := by decide +kernel
theorem dX5_saves_60 : decode cX5_saves 60 = .ok (.iastore, 1) := by decide +kernel
theorem dX5_saves_61 : decode cX5_saves 61 = .ok (.iload 5, 2) := by decide +kernel
theorem dX5_saves_63 : decode cX5_saves 63 = .ok (.iload_n 3, 1) := by decide +kernel
theorem dX5_saves_64 : decode cX5_saves 64 = .ok (.if_icmp .ge 8, 3) := by decide +kernel
theorem dX5_saves_67 : decode cX5_saves 67 = .ok (.iload 4, 2) := by decide +kernel
theorem dX5_saves_69 : decode cX5_saves 69 = .ok (.goto 4, 3) := by decide +kernel
theorem dX5_saves_72 : decode cX5_saves 72 = .ok (.iload_n 2, 1) := by decide +kernel
theorem dX5_saves_73 : decode cX5_saves 73 = .ok (.istore_n 2, 1) := by decide +kernel
theorem dX5_saves_74 : decode cX5_saves 74 = .ok (.iload 5, 2) := by decide +kernel
theorem dX5_saves_76 : decode cX5_saves 76 = .ok (.iload_n 3, 1) := by decide +kernel
theorem dX5_saves_77 : decode cX5_saves 77 = .ok (.if_icmp .ge 8, 3) := by decide +kernel
theorem dX5_saves_80 : decode cX5_saves 80 = .ok (.iload 5, 2) := by decide +kernel
theorem dX5_saves_82 : decode cX5_saves 82 = .ok (.goto 4, 3) := by decide +kernel
theorem dX5_saves_85 : decode cX5_saves 85 = .ok (.iload_n 3, 1) := by decide +kernel
theorem dX5_saves_86 : decode cX5_saves 86 = .ok (.istore_n 3, 1) := by decide +kernel
theorem dX5_saves_87 : decode cX5_saves 87 = .ok (.iinc 4 1, 3) := by decide +kernel
theorem dX5_saves_90 : decode cX5_saves 90 = .ok (.goto (-70), 3) := by decide +kernel
theorem dX5_saves_93 : decode cX5_saves 93 = .ok (.iload_n 2, 1) := by decide +kernel
theorem dX5_saves_94 : decode cX5_saves 94 = .ok (.bipush (-4), 2) := by decide +kernel
theorem dX5_saves_96 : decode cX5_saves 96 = .ok (.if_icmp .eq 7, 3) := by decide +kernel
theorem dX5_saves_99 : decode cX5_saves 99 = .ok (.iload_n 1, 1) := by decide +kernel
theorem dX5_saves_100 : decode cX5_saves 100 = .ok (.ifCond .ne 7, 3) := by decide +kernel
theorem dX5_saves_103 : decode cX5_saves 103 = .ok (.iload_n 2, 1) := by decide +kernel
theorem dX5_saves_104 : decode cX5_saves 104 = .ok (.goto 4, 3) := by decide +kernel
theorem dX5_saves_107 : decode cX5_saves 107 = .ok (.iload_n 3, 1) := by decide +kernel
theorem dX5_saves_108 : decode cX5_saves 108 = .ok (.ireturn, 1) := by decide +kernel
theorem dX5_isTight_0 : decode cX5_isTight 0 = .ok (.aload_n 0, 1) := by decide +kernel
theorem dX5_isTight_1 : decode cX5_isTight 1 = .ok (.aload_n 0, 1) := by decide +kernel
theorem dX5_isTight_2 : decode cX5_isTight 2 = .ok (.getfield 65, 3) := by decide +kernel
theorem dX5_isTight_5 : decode cX5_isTight 5 = .ok (.iconst 0, 1) := by decide +kernel
theorem dX5_isTight_6 : decode cX5_isTight 6 = .ok (.invokevirtual 181, 3) := by decide +kernel
theorem dX5_isTight_9 : decode cX5_isTight 9 = .ok (.aload_n 0, 1) := by decide +kernel
theorem dX5_isTight_10 : decode cX5_isTight 10 = .ok (.iload_n 1, 1) := by decide +kernel
theorem dX5_isTight_11 : decode cX5_isTight 11 = .ok (.iconst 0, 1) := by decide +kernel
theorem dX5_isTight_12 : decode cX5_isTight 12 = .ok (.invokevirtual 195, 3) := by decide +kernel
theorem dX5_isTight_15 : decode cX5_isTight 15 = .ok (.aload_n 0, 1) := by decide +kernel
theorem dX5_isTight_16 : decode cX5_isTight 16 = .ok (.invokevirtual 241, 3) := by decide +kernel
theorem dX5_isTight_19 : decode cX5_isTight 19 = .ok (.iload_n 2, 1) := by decide +kernel
theorem dX5_isTight_20 : decode cX5_isTight 20 = .ok (.if_icmp .le 7, 3) := by decide +kernel
theorem dX5_isTight_23 : decode cX5_isTight 23 = .ok (.iconst 1, 1) := by decide +kernel
theorem dX5_isTight_24 : decode cX5_isTight 24 = .ok (.goto 4, 3) := by decide +kernel
theorem dX5_isTight_27 : decode cX5_isTight 27 = .ok (.iconst 0, 1) := by decide +kernel
theorem dX5_isTight_28 : decode cX5_isTight 28 = .ok (.istore_n 3, 1) := by decide +kernel
theorem dX5_isTight_29 : decode cX5_isTight 29 = .ok (.aload_n 0, 1) := by decide +kernel
theorem dX5_isTight_30 : decode cX5_isTight 30 = .ok (.aload_n 0, 1) := by decide +kernel
theorem dX5_isTight_31 : decode cX5_isTight 31 = .ok (.getfield 65, 3) := by decide +kernel
theorem dX5_isTight_34 : decode cX5_isTight 34 = .ok (.iconst 0, 1) := by decide +kernel
theorem dX5_isTight_35 : decode cX5_isTight 35 = .ok (.invokevirtual 211, 3) := by decide +kernel
theorem dX5_isTight_38 : decode cX5_isTight 38 = .ok (.iload_n 3, 1) := by decide +kernel
theorem dX5_isTight_39 : decode cX5_isTight 39 = .ok (.ireturn, 1) := by decide +kernel
theorem dX5_tight_0 : decode cX5_tight 0 = .ok (.iload_n 1, 1) := by decide +kernel
theorem dX5_tight_1 : decode cX5_tight 1 = .ok (.iconst (-1), 1) := by decide +kernel
theorem dX5_tight_2 : decode cX5_tight 2 = .ok (.if_icmp .ge 5, 3) := by decide +kernel
theorem dX5_tight_5 : decode cX5_tight 5 = .ok (.iconst (-1), 1) := by decide +kernel
theorem dX5_tight_6 : decode cX5_tight 6 = .ok (.ireturn, 1) := by decide +kernel
theorem dX5_tight_7 : decode cX5_tight 7 = .ok (.aload_n 0, 1) := by decide +kernel
theorem dX5_tight_8 : decode cX5_tight 8 = .ok (.invokevirtual 241, 3) := by decide +kernel
theorem dX5_tight_11 : decode cX5_tight 11 = .ok (.istore_n 2, 1) := by decide +kernel
theorem dX5_tight_12 : decode cX5_tight 12 = .ok (.iconst 0, 1) := by decide +kernel
theorem dX5_tight_13 : decode cX5_tight 13 = .ok (.istore_n 3, 1) := by decide +kernel
theorem dX5_tight_14 : decode cX5_tight 14 = .ok (.bipush (-4), 2) := by decide +kernel
theorem dX5_tight_16 : decode cX5_tight 16 = .ok (.istore 4, 2) := by decide +kernel
theorem dX5_tight_18 : decode cX5_tight 18 = .ok (.iconst 0, 1) := by decide +kernel
theorem dX5_tight_19 : decode cX5_tight 19 = .ok (.istore 5, 2) := by decide +kernel
theorem dX5_tight_21 : decode cX5_tight 21 = .ok (.iload 5, 2) := by decide +kernel
theorem dX5_tight_23 : decode cX5_tight 23 = .ok (.aload_n 0, 1) := by decide +kernel
theorem dX5_tight_24 : decode cX5_tight 24 = .ok (.getfield 89, 3) := by decide +kernel
theorem dX5_tight_27 : decode cX5_tight 27 = .ok (.if_icmp .gt 45, 3) := by decide +kernel
theorem dX5_tight_30 : decode cX5_tight 30 = .ok (.aload_n 0, 1) := by decide +kernel
theorem dX5_tight_31 : decode cX5_tight 31 = .ok (.getfield 89, 3) := by decide +kernel
theorem dX5_tight_34 : decode cX5_tight 34 = .ok (.bipush 40, 2) := by decide +kernel
theorem dX5_tight_36 : decode cX5_tight 36 = .ok (.if_icmp .ge 36, 3) := by decide +kernel
theorem dX5_tight_39 : decode cX5_tight 39 = .ok (.aload_n 0, 1) := by decide +kernel
theorem dX5_tight_40 : decode cX5_tight 40 = .ok (.iload 5, 2) := by decide +kernel
theorem dX5_tight_42 : decode cX5_tight 42 = .ok (.iload_n 2, 1) := by decide +kernel
theorem dX5_tight_43 : decode cX5_tight 43 = .ok (.invokevirtual 246, 3) := by decide +kernel
theorem dX5_tight_46 : decode cX5_tight 46 = .ok (.ifCond .eq 20, 3) := by decide +kernel
theorem dX5_tight_49 : decode cX5_tight 49 = .ok (.iload_n 3, 1) := by decide +kernel
theorem dX5_tight_50 : decode cX5_tight 50 = .ok (.iload_n 1, 1) := by decide +kernel
theorem dX5_tight_51 : decode cX5_tight 51 = .ok (.if_icmp .ne 8, 3) := by decide +kernel
theorem dX5_tight_54 : decode cX5_tight 54 = .ok (.iload 5, 2) := by decide +kernel
theorem dX5_tight_56 : decode cX5_tight 56 = .ok (.goto 5, 3) := by decide +kernel
theorem dX5_tight_59 : decode cX5_tight 59 = .ok (.iload 4, 2) := by decide +kernel
theorem dX5_tight_61 : decode cX5_tight 61 = .ok (.istore 4, 2) := by decide +kernel
theorem dX5_tight_63 : decode cX5_tight 63 = .ok (.iinc 3 1, 3) := by decide +kernel
theorem dX5_tight_66 : decode cX5_tight 66 = .ok (.iinc 5 1, 3) := by decide +kernel
theorem dX5_tight_69 : decode cX5_tight 69 = .ok (.goto (-48), 3) := by decide +kernel
theorem dX5_tight_72 : decode cX5_tight 72 = .ok (.iload_n 1, 1) := by decide +kernel
theorem dX5_tight_73 : decode cX5_tight 73 = .ok (.iconst (-1), 1) := by decide +kernel
theorem dX5_tight_74 : decode cX5_tight 74 = .ok (.if_icmp .ne 7, 3) := by decide +kernel
theorem dX5_tight_77 : decode cX5_tight 77 = .ok (.iload_n 3, 1) := by decide +kernel
theorem dX5_tight_78 : decode cX5_tight 78 = .ok (.goto 5, 3) := by decide +kernel
theorem dX5_tight_81 : decode cX5_tight 81 = .ok (.iload 4, 2) := by decide +kernel
theorem dX5_tight_83 : decode cX5_tight 83 = .ok (.ireturn, 1) := by decide +kernel
theorem dX5_turns_0 : decode cX5_turns 0 = .ok (.iload_n 1, 1) := by decide +kernel
theorem dX5_turns_1 : decode cX5_turns 1 = .ok (.iconst 4, 1) := by decide +kernel
theorem dX5_turns_2 : decode cX5_turns 2 = .ok (.irem, 1) := by decide +kernel
theorem dX5_turns_3 : decode cX5_turns 3 = .ok (.istore_n 2, 1) := by decide +kernel
theorem dX5_turns_4 : decode cX5_turns 4 = .ok (.iload_n 2, 1) := by decide +kernel
theorem dX5_turns_5 : decode cX5_turns 5 = .ok (.iconst 2, 1) := by decide +kernel
theorem dX5_turns_6 : decode cX5_turns 6 = .ok (.if_icmp .ge 38, 3) := by decide +kernel
theorem dX5_turns_9 : decode cX5_turns 9 = .ok (.aload_n 0, 1) := by decide +kernel
theorem dX5_turns_10 : decode cX5_turns 10 = .ok (.getfield 89, 3) := by decide +kernel
theorem dX5_turns_13 : decode cX5_turns 13 = .ok (.bipush 40, 2) := by decide +kernel
theorem dX5_turns_15 : decode cX5_turns 15 = .ok (.if_icmp .ge 89, 3) := by decide +kernel
theorem dX5_turns_18 : decode cX5_turns 18 = .ok (.aload_n 0, 1) := by decide +kernel
theorem dX5_turns_19 : decode cX5_turns 19 = .ok (.iload_n 1, 1) := by decide +kernel
theorem dX5_turns_20 : decode cX5_turns 20 = .ok (.sipush 256, 3) := by decide +kernel
theorem dX5_turns_23 : decode cX5_turns 23 = .ok (.idiv, 1) := by decide +kernel
theorem dX5_turns_24 : decode cX5_turns 24 = .ok (.aload_n 0, 1) := by decide +kernel
theorem dX5_turns_25 : decode cX5_turns 25 = .ok (.getfield 89, 3) := by decide +kernel
theorem dX5_turns_28 : decode cX5_turns 28 = .ok (.iconst 1, 1) := by decide +kernel
theorem dX5_turns_29 : decode cX5_turns 29 = .ok (.iadd, 1) := by decide +kernel
theorem dX5_turns_30 : decode cX5_turns 30 = .ok (.irem, 1) := by decide +kernel
theorem dX5_turns_31 : decode cX5_turns 31 = .ok (.iload_n 1, 1) := by decide +kernel
theorem dX5_turns_32 : decode cX5_turns 32 = .ok (.bipush 8, 2) := by decide +kernel
theorem dX5_turns_34 : decode cX5_turns 34 = .ok (.idiv, 1) := by decide +kernel
theorem dX5_turns_35 : decode cX5_turns 35 = .ok (.bipush 28, 2) := by decide +kernel
theorem dX5_turns_37 : decode cX5_turns 37 = .ok (.irem, 1) := by decide +kernel
theorem dX5_turns_38 : decode cX5_turns 38 = .ok (.invokevirtual 195, 3) := by decide +kernel
theorem dX5_turns_41 : decode cX5_turns 41 = .ok (.goto 63, 3) := by decide +kernel
theorem dX5_turns_44 : decode cX5_turns 44 = .ok (.iload_n 2, 1) := by decide +kernel
theorem dX5_turns_45 : decode cX5_turns 45 = .ok (.iconst 2, 1) := by decide +kernel
theorem dX5_turns_46 : decode cX5_turns 46 = .ok (.if_icmp .ne 27, 3) := by decide +kernel
theorem dX5_turns_49 : decode cX5_turns 49 = .ok (.aload_n 0, 1) := by decide +kernel
theorem dX5_turns_50 : decode cX5_turns 50 = .ok (.getfield 89, 3) := by decide +kernel
theorem dX5_turns_53 : decode cX5_turns 53 = .ok (.ifCond .le 51, 3) := by decide +kernel
theorem dX5_turns_56 : decode cX5_turns 56 = .ok (.aload_n 0, 1) := by decide +kernel
theorem dX5_turns_57 : decode cX5_turns 57 = .ok (.iload_n 1, 1) := by decide +kernel
theorem dX5_turns_58 : decode cX5_turns 58 = .ok (.sipush 256, 3) := by decide +kernel
theorem dX5_turns_61 : decode cX5_turns 61 = .ok (.idiv, 1) := by decide +kernel
theorem dX5_turns_62 : decode cX5_turns 62 = .ok (.aload_n 0, 1) := by decide +kernel
theorem dX5_turns_63 : decode cX5_turns 63 = .ok (.getfield 89, 3) := by decide +kernel
theorem dX5_turns_66 : decode cX5_turns 66 = .ok (.irem, 1) := by decide +kernel
theorem dX5_turns_67 : decode cX5_turns 67 = .ok (.invokevirtual 202, 3) := by decide +kernel
theorem dX5_turns_70 : decode cX5_turns 70 = .ok (.goto 34, 3) := by decide +kernel
theorem dX5_turns_73 : decode cX5_turns 73 = .ok (.aload_n 0, 1) := by decide +kernel
theorem dX5_turns_74 : decode cX5_turns 74 = .ok (.getfield 107, 3) := by decide +kernel
theorem dX5_turns_77 : decode cX5_turns 77 = .ok (.ifCond .le 27, 3) := by decide +kernel
theorem dX5_turns_80 : decode cX5_turns 80 = .ok (.iload_n 1, 1) := by decide +kernel
theorem dX5_turns_81 : decode cX5_turns 81 = .ok (.bipush 8, 2) := by decide +kernel
theorem dX5_turns_83 : decode cX5_turns 83 = .ok (.idiv, 1) := by decide +kernel
theorem dX5_turns_84 : decode cX5_turns 84 = .ok (.aload_n 0, 1) := by decide +kernel
theorem dX5_turns_85 : decode cX5_turns 85 = .ok (.getfield 107, 3) := by decide +kernel
theorem dX5_turns_88 : decode cX5_turns 88 = .ok (.irem, 1) := by decide +kernel
theorem dX5_turns_89 : decode cX5_turns 89 = .ok (.istore_n 3, 1) := by decide +kernel
theorem dX5_turns_90 : decode cX5_turns 90 = .ok (.aload_n 0, 1) := by decide +kernel
theorem dX5_turns_91 : decode cX5_turns 91 = .ok (.getfield 19, 3) := by decide +kernel
theorem dX5_turns_94 : decode cX5_turns 94 = .ok (.iload_n 3, 1) := by decide +kernel
theorem dX5_turns_95 : decode cX5_turns 95 = .ok (.iconst 1, 1) := by decide +kernel
theorem dX5_turns_96 : decode cX5_turns 96 = .ok (.aload_n 0, 1) := by decide +kernel
theorem dX5_turns_97 : decode cX5_turns 97 = .ok (.getfield 19, 3) := by decide +kernel
theorem dX5_turns_100 : decode cX5_turns 100 = .ok (.iload_n 3, 1) := by decide +kernel
theorem dX5_turns_101 : decode cX5_turns 101 = .ok (.iaload, 1) := by decide +kernel
theorem dX5_turns_102 : decode cX5_turns 102 = .ok (.isub, 1) := by decide +kernel
theorem dX5_turns_103 : decode cX5_turns 103 = .ok (.iastore, 1) := by decide +kernel
theorem dX5_turns_104 : decode cX5_turns 104 = .ok (.return_, 1) := by decide +kernel
theorem dX5_day_0 : decode cX5_day 0 = .ok (.iload_n 1, 1) := by decide +kernel
theorem dX5_day_1 : decode cX5_day 1 = .ok (.iconst 0, 1) := by decide +kernel
theorem dX5_day_2 : decode cX5_day 2 = .ok (.sipush 9999, 3) := by decide +kernel
theorem dX5_day_5 : decode cX5_day 5 = .ok (.invokestatic 103, 3) := by decide +kernel
theorem dX5_day_8 : decode cX5_day 8 = .ok (.ifCond .eq 22, 3) := by decide +kernel
theorem dX5_day_11 : decode cX5_day 11 = .ok (.iload_n 2, 1) := by decide +kernel
theorem dX5_day_12 : decode cX5_day 12 = .ok (.iconst 1, 1) := by decide +kernel
theorem dX5_day_13 : decode cX5_day 13 = .ok (.bipush 40, 2) := by decide +kernel
theorem dX5_day_15 : decode cX5_day 15 = .ok (.invokestatic 103, 3) := by decide +kernel
theorem dX5_day_18 : decode cX5_day 18 = .ok (.ifCond .eq 12, 3) := by decide +kernel
theorem dX5_day_21 : decode cX5_day 21 = .ok (.iload_n 3, 1) := by decide +kernel
theorem dX5_day_22 : decode cX5_day 22 = .ok (.iconst 0, 1) := by decide +kernel
theorem dX5_day_23 : decode cX5_day 23 = .ok (.iconst 2, 1) := by decide +kernel
theorem dX5_day_24 : decode cX5_day 24 = .ok (.invokestatic 103, 3) := by decide +kernel
theorem dX5_day_27 : decode cX5_day 27 = .ok (.ifCond .ne 5, 3) := by decide +kernel
theorem dX5_day_30 : decode cX5_day 30 = .ok (.iconst (-1), 1) := by decide +kernel
theorem dX5_day_31 : decode cX5_day 31 = .ok (.ireturn, 1) := by decide +kernel
theorem dX5_day_32 : decode cX5_day 32 = .ok (.aload_n 0, 1) := by decide +kernel
theorem dX5_day_33 : decode cX5_day 33 = .ok (.aload_n 0, 1) := by decide +kernel
theorem dX5_day_34 : decode cX5_day 34 = .ok (.getfield 80, 3) := by decide +kernel
theorem dX5_day_37 : decode cX5_day 37 = .ok (.iconst 0, 1) := by decide +kernel
theorem dX5_day_38 : decode cX5_day 38 = .ok (.invokevirtual 181, 3) := by decide +kernel
theorem dX5_day_41 : decode cX5_day 41 = .ok (.iconst 0, 1) := by decide +kernel
theorem dX5_day_42 : decode cX5_day 42 = .ok (.istore 4, 2) := by decide +kernel
theorem dX5_day_44 : decode cX5_day 44 = .ok (.iload 4, 2) := by decide +kernel
theorem dX5_day_46 : decode cX5_day 46 = .ok (.iload_n 2, 1) := by decide +kernel
theorem dX5_day_47 : decode cX5_day 47 = .ok (.if_icmp .ge 41, 3) := by decide +kernel
theorem dX5_day_50 : decode cX5_day 50 = .ok (.ldc2_w 249, 3) := by decide +kernel
theorem dX5_day_53 : decode cX5_day 53 = .ok (.iload_n 1, 1) := by decide +kernel
theorem dX5_day_54 : decode cX5_day 54 = .ok (.i2l, 1) := by decide +kernel
theorem dX5_day_55 : decode cX5_day 55 = .ok (.lmul, 1) := by decide +kernel
theorem dX5_day_56 : decode cX5_day 56 = .ok (.ldc2_w 251, 3) := by decide +kernel
theorem dX5_day_59 : decode cX5_day 59 = .ok (.iload 4, 2) := by decide +kernel
theorem dX5_day_61 : decode cX5_day 61 = .ok (.i2l, 1) := by decide +kernel
theorem dX5_day_62 : decode cX5_day 62 = .ok (.lmul, 1) := by decide +kernel
theorem dX5_day_63 : decode cX5_day 63 = .ok (.ladd, 1) := by decide +kernel
theorem dX5_day_64 : decode cX5_day 64 = .ok (.lconst 1, 1) := by decide +kernel
theorem dX5_day_65 : decode cX5_day 65 = .ok (.ladd, 1) := by decide +kernel
theorem dX5_day_66 : decode cX5_day 66 = .ok (.lstore 5, 2) := by decide +kernel
theorem dX5_day_68 : decode cX5_day 68 = .ok (.aload_n 0, 1) := by decide +kernel
theorem dX5_day_69 : decode cX5_day 69 = .ok (.lload 5, 2) := by decide +kernel
theorem dX5_day_71 : decode cX5_day 71 = .ok (.lload 5, 2) := by decide +kernel
theorem dX5_day_73 : decode cX5_day 73 = .ok (.lmul, 1) := by decide +kernel
theorem dX5_day_74 : decode cX5_day 74 = .ok (.ldc2_w 253, 3) := by decide +kernel
theorem dX5_day_77 : decode cX5_day 77 = .ok (.lrem, 1) := by decide +kernel
theorem dX5_day_78 : decode cX5_day 78 = .ok (.l2i, 1) := by decide +kernel
theorem dX5_day_79 : decode cX5_day 79 = .ok (.invokevirtual 255, 3) := by decide +kernel
theorem dX5_day_82 : decode cX5_day 82 = .ok (.iinc 4 1, 3) := by decide +kernel
theorem dX5_day_85 : decode cX5_day 85 = .ok (.goto (-41), 3) := by decide +kernel
theorem dX5_day_88 : decode cX5_day 88 = .ok (.iload_n 3, 1) := by decide +kernel
theorem dX5_day_89 : decode cX5_day 89 = .ok (.ifCond .ne 10, 3) := by decide +kernel
theorem dX5_day_92 : decode cX5_day 92 = .ok (.aload_n 0, 1) := by decide +kernel
theorem dX5_day_93 : decode cX5_day 93 = .ok (.getfield 89, 3) := by decide +kernel
theorem dX5_day_96 : decode cX5_day 96 = .ok (.goto 19, 3) := by decide +kernel
theorem dX5_day_99 : decode cX5_day 99 = .ok (.iload_n 3, 1) := by decide +kernel
theorem dX5_day_100 : decode cX5_day 100 = .ok (.iconst 1, 1) := by decide +kernel
theorem dX5_day_101 : decode cX5_day 101 = .ok (.if_icmp .ne 10, 3) := by decide +kernel
theorem dX5_day_104 : decode cX5_day 104 = .ok (.aload_n 0, 1) := by decide +kernel
theorem dX5_day_105 : decode cX5_day 105 = .ok (.invokevirtual 241, 3) := by decide +kernel
theorem dX5_day_108 : decode cX5_day 108 = .ok (.goto 7, 3) := by decide +kernel
theorem dX5_day_111 : decode cX5_day 111 = .ok (.aload_n 0, 1) := by decide +kernel
theorem dX5_day_112 : decode cX5_day 112 = .ok (.invokevirtual 258, 3) := by decide +kernel
theorem dX5_day_115 : decode cX5_day 115 = .ok (.istore 4, 2) := by decide +kernel
theorem dX5_day_117 : decode cX5_day 117 = .ok (.aload_n 0, 1) := by decide +kernel
theorem dX5_day_118 : decode cX5_day 118 = .ok (.aload_n 0, 1) := by decide +kernel
theorem dX5_day_119 : decode cX5_day 119 = .ok (.getfield 80, 3) := by decide +kernel
theorem dX5_day_122 : decode cX5_day 122 = .ok (.iconst 0, 1) := by decide +kernel
theorem dX5_day_123 : decode cX5_day 123 = .ok (.invokevirtual 211, 3) := by decide +kernel
theorem dX5_day_126 : decode cX5_day 126 = .ok (.iload 4, 2) := by decide +kernel
theorem dX5_day_128 : decode cX5_day 128 = .ok (.ireturn, 1) := by decide +kernel
theorem dX5_count_0 : decode cX5_count 0 = .ok (.iload_n 1, 1) := by decide +kernel
theorem dX5_count_1 : decode cX5_count 1 = .ok (.iconst 0, 1) := by decide +kernel
theorem dX5_count_2 : decode cX5_count 2 = .ok (.bipush 11, 2) := by decide +kernel
theorem dX5_count_4 : decode cX5_count 4 = .ok (.invokestatic 103, 3) := by decide +kernel
theorem dX5_count_7 : decode cX5_count 7 = .ok (.ifCond .ne 5, 3) := by decide +kernel
theorem dX5_count_10 : decode cX5_count 10 = .ok (.iconst (-1), 1) := by decide +kernel
theorem dX5_count_11 : decode cX5_count 11 = .ok (.ireturn, 1) := by decide +kernel
theorem dX5_count_12 : decode cX5_count 12 = .ok (.iload_n 1, 1) := by decide +kernel
theorem dX5_count_13 : decode cX5_count 13 = .ok (.tableswitch 114 0 10 #[59, 64, 69, 74, 79, 84, 89, 94, 99, 104, 109], 59) := by decide +kernel
theorem dX5_count_72 : decode cX5_count 72 = .ok (.aload_n 0, 1) := by decide +kernel
theorem dX5_count_73 : decode cX5_count 73 = .ok (.getfield 89, 3) := by decide +kernel
theorem dX5_count_76 : decode cX5_count 76 = .ok (.ireturn, 1) := by decide +kernel
theorem dX5_count_77 : decode cX5_count 77 = .ok (.aload_n 0, 1) := by decide +kernel
theorem dX5_count_78 : decode cX5_count 78 = .ok (.getfield 107, 3) := by decide +kernel
theorem dX5_count_81 : decode cX5_count 81 = .ok (.ireturn, 1) := by decide +kernel
theorem dX5_count_82 : decode cX5_count 82 = .ok (.aload_n 0, 1) := by decide +kernel
theorem dX5_count_83 : decode cX5_count 83 = .ok (.getfield 110, 3) := by decide +kernel
theorem dX5_count_86 : decode cX5_count 86 = .ok (.ireturn, 1) := by decide +kernel
theorem dX5_count_87 : decode cX5_count 87 = .ok (.aload_n 0, 1) := by decide +kernel
theorem dX5_count_88 : decode cX5_count 88 = .ok (.invokevirtual 241, 3) := by decide +kernel
theorem dX5_count_91 : decode cX5_count 91 = .ok (.ireturn, 1) := by decide +kernel
theorem dX5_count_92 : decode cX5_count 92 = .ok (.aload_n 0, 1) := by decide +kernel
theorem dX5_count_93 : decode cX5_count 93 = .ok (.invokevirtual 258, 3) := by decide +kernel
theorem dX5_count_96 : decode cX5_count 96 = .ok (.ireturn, 1) := by decide +kernel
theorem dX5_count_97 : decode cX5_count 97 = .ok (.aload_n 0, 1) := by decide +kernel
theorem dX5_count_98 : decode cX5_count 98 = .ok (.getfield 28, 3) := by decide +kernel
theorem dX5_count_101 : decode cX5_count 101 = .ok (.ireturn, 1) := by decide +kernel
theorem dX5_count_102 : decode cX5_count 102 = .ok (.aload_n 0, 1) := by decide +kernel
theorem dX5_count_103 : decode cX5_count 103 = .ok (.getfield 32, 3) := by decide +kernel
theorem dX5_count_106 : decode cX5_count 106 = .ok (.ireturn, 1) := by decide +kernel
theorem dX5_count_107 : decode cX5_count 107 = .ok (.aload_n 0, 1) := by decide +kernel
theorem dX5_count_108 : decode cX5_count 108 = .ok (.getfield 100, 3) := by decide +kernel
theorem dX5_count_111 : decode cX5_count 111 = .ok (.ireturn, 1) := by decide +kernel
theorem dX5_count_112 : decode cX5_count 112 = .ok (.aload_n 0, 1) := by decide +kernel
theorem dX5_count_113 : decode cX5_count 113 = .ok (.getfield 35, 3) := by decide +kernel
theorem dX5_count_116 : decode cX5_count 116 = .ok (.ireturn, 1) := by decide +kernel
theorem dX5_count_117 : decode cX5_count 117 = .ok (.aload_n 0, 1) := by decide +kernel
theorem dX5_count_118 : decode cX5_count 118 = .ok (.getfield 178, 3) := by decide +kernel
theorem dX5_count_121 : decode cX5_count 121 = .ok (.ireturn, 1) := by decide +kernel
theorem dX5_count_122 : decode cX5_count 122 = .ok (.aload_n 0, 1) := by decide +kernel
theorem dX5_count_123 : decode cX5_count 123 = .ok (.getfield 214, 3) := by decide +kernel
theorem dX5_count_126 : decode cX5_count 126 = .ok (.ireturn, 1) := by decide +kernel
theorem dX5_count_127 : decode cX5_count 127 = .ok (.aload_n 0, 1) := by decide +kernel
theorem dX5_count_128 : decode cX5_count 128 = .ok (.getfield 261, 3) := by decide +kernel
theorem dX5_count_131 : decode cX5_count 131 = .ok (.ireturn, 1) := by decide +kernel
theorem dX5_write_0 : decode cX5_write 0 = .ok (.iload_n 1, 1) := by decide +kernel
theorem dX5_write_1 : decode cX5_write 1 = .ok (.bipush 32, 2) := by decide +kernel
theorem dX5_write_3 : decode cX5_write 3 = .ok (.bipush 126, 2) := by decide +kernel
theorem dX5_write_5 : decode cX5_write 5 = .ok (.invokestatic 103, 3) := by decide +kernel
theorem dX5_write_8 : decode cX5_write 8 = .ok (.ifCond .ne 5, 3) := by decide +kernel
theorem dX5_write_11 : decode cX5_write 11 = .ok (.iconst (-1), 1) := by decide +kernel
theorem dX5_write_12 : decode cX5_write 12 = .ok (.ireturn, 1) := by decide +kernel
theorem dX5_write_13 : decode cX5_write 13 = .ok (.aload_n 0, 1) := by decide +kernel
theorem dX5_write_14 : decode cX5_write 14 = .ok (.getfield 261, 3) := by decide +kernel
theorem dX5_write_17 : decode cX5_write 17 = .ok (.sipush 200, 3) := by decide +kernel
theorem dX5_write_20 : decode cX5_write 20 = .ok (.if_icmp .ne 6, 3) := by decide +kernel
theorem dX5_write_23 : decode cX5_write 23 = .ok (.bipush (-3), 2) := by decide +kernel
theorem dX5_write_25 : decode cX5_write 25 = .ok (.ireturn, 1) := by decide +kernel
theorem dX5_write_26 : decode cX5_write 26 = .ok (.aload_n 0, 1) := by decide +kernel
theorem dX5_write_27 : decode cX5_write 27 = .ok (.getfield 83, 3) := by decide +kernel
theorem dX5_write_30 : decode cX5_write 30 = .ok (.aload_n 0, 1) := by decide +kernel
theorem dX5_write_31 : decode cX5_write 31 = .ok (.getfield 261, 3) := by decide +kernel
theorem dX5_write_34 : decode cX5_write 34 = .ok (.iload_n 1, 1) := by decide +kernel
theorem dX5_write_35 : decode cX5_write 35 = .ok (.iastore, 1) := by decide +kernel
theorem dX5_write_36 : decode cX5_write 36 = .ok (.aload_n 0, 1) := by decide +kernel
theorem dX5_write_37 : decode cX5_write 37 = .ok (.dup, 1) := by decide +kernel
theorem dX5_write_38 : decode cX5_write 38 = .ok (.getfield 261, 3) := by decide +kernel
theorem dX5_write_41 : decode cX5_write 41 = .ok (.iconst 1, 1) := by decide +kernel
theorem dX5_write_42 : decode cX5_write 42 = .ok (.iadd, 1) := by decide +kernel
theorem dX5_write_43 : decode cX5_write 43 = .ok (.putfield 261, 3) := by decide +kernel
theorem dX5_write_46 : decode cX5_write 46 = .ok (.aload_n 0, 1) := by decide +kernel
theorem dX5_write_47 : decode cX5_write 47 = .ok (.getfield 261, 3) := by decide +kernel
theorem dX5_write_50 : decode cX5_write 50 = .ok (.ireturn, 1) := by decide +kernel
theorem dX5_wipe_0 : decode cX5_wipe 0 = .ok (.aload_n 0, 1) := by decide +kernel
theorem dX5_wipe_1 : decode cX5_wipe 1 = .ok (.getfield 261, 3) := by decide +kernel
theorem dX5_wipe_4 : decode cX5_wipe 4 = .ok (.istore_n 1, 1) := by decide +kernel
theorem dX5_wipe_5 : decode cX5_wipe 5 = .ok (.aload_n 0, 1) := by decide +kernel
theorem dX5_wipe_6 : decode cX5_wipe 6 = .ok (.iconst 0, 1) := by decide +kernel
theorem dX5_wipe_7 : decode cX5_wipe 7 = .ok (.putfield 261, 3) := by decide +kernel
theorem dX5_wipe_10 : decode cX5_wipe 10 = .ok (.iload_n 1, 1) := by decide +kernel
theorem dX5_wipe_11 : decode cX5_wipe 11 = .ok (.ireturn, 1) := by decide +kernel
theorem dX5_here_0 : decode cX5_here 0 = .ok (.aload_n 0, 1) := by decide +kernel
theorem dX5_here_1 : decode cX5_here 1 = .ok (.getfield 264, 3) := by decide +kernel
theorem dX5_here_4 : decode cX5_here 4 = .ok (.aload_n 0, 1) := by decide +kernel
theorem dX5_here_5 : decode cX5_here 5 = .ok (.getfield 261, 3) := by decide +kernel
theorem dX5_here_8 : decode cX5_here 8 = .ok (.if_icmp .ge 15, 3) := by decide +kernel
theorem dX5_here_11 : decode cX5_here 11 = .ok (.aload_n 0, 1) := by decide +kernel
theorem dX5_here_12 : decode cX5_here 12 = .ok (.getfield 83, 3) := by decide +kernel
theorem dX5_here_15 : decode cX5_here 15 = .ok (.aload_n 0, 1) := by decide +kernel
theorem dX5_here_16 : decode cX5_here 16 = .ok (.getfield 264, 3) := by decide +kernel
theorem dX5_here_19 : decode cX5_here 19 = .ok (.iaload, 1) := by decide +kernel
theorem dX5_here_20 : decode cX5_here 20 = .ok (.goto 4, 3) := by decide +kernel
theorem dX5_here_23 : decode cX5_here 23 = .ok (.iconst 0, 1) := by decide +kernel
theorem dX5_here_24 : decode cX5_here 24 = .ok (.ireturn, 1) := by decide +kernel
theorem dX5_isFigure_0 : decode cX5_isFigure 0 = .ok (.aload_n 0, 1) := by decide +kernel
theorem dX5_isFigure_1 : decode cX5_isFigure 1 = .ok (.invokevirtual 267, 3) := by decide +kernel
theorem dX5_isFigure_4 : decode cX5_isFigure 4 = .ok (.bipush 48, 2) := by decide +kernel
theorem dX5_isFigure_6 : decode cX5_isFigure 6 = .ok (.bipush 57, 2) := by decide +kernel
theorem dX5_isFigure_8 : decode cX5_isFigure 8 = .ok (.invokestatic 103, 3) := by decide +kernel
theorem dX5_isFigure_11 : decode cX5_isFigure 11 = .ok (.ireturn, 1) := by decide +kernel
theorem dX5_number_0 : decode cX5_number 0 = .ok (.aload_n 0, 1) := by decide +kernel
theorem dX5_number_1 : decode cX5_number 1 = .ok (.invokevirtual 270, 3) := by decide +kernel
theorem dX5_number_4 : decode cX5_number 4 = .ok (.ifCond .ne 5, 3) := by decide +kernel
theorem dX5_number_7 : decode cX5_number 7 = .ok (.iconst 0, 1) := by decide +kernel
theorem dX5_number_8 : decode cX5_number 8 = .ok (.ireturn, 1) := by decide +kernel
theorem dX5_number_9 : decode cX5_number 9 = .ok (.aload_n 0, 1) := by decide +kernel
theorem dX5_number_10 : decode cX5_number 10 = .ok (.invokevirtual 267, 3) := by decide +kernel
theorem dX5_number_13 : decode cX5_number 13 = .ok (.bipush 48, 2) := by decide +kernel
theorem dX5_number_15 : decode cX5_number 15 = .ok (.isub, 1) := by decide +kernel
theorem dX5_number_16 : decode cX5_number 16 = .ok (.istore 4, 2) := by decide +kernel
theorem dX5_number_18 : decode cX5_number 18 = .ok (.aload_n 0, 1) := by decide +kernel
theorem dX5_number_19 : decode cX5_number 19 = .ok (.dup, 1) := by decide +kernel
theorem dX5_number_20 : decode cX5_number 20 = .ok (.getfield 264, 3) := by decide +kernel
theorem dX5_number_23 : decode cX5_number 23 = .ok (.iconst 1, 1) := by decide +kernel
theorem dX5_number_24 : decode cX5_number 24 = .ok (.iadd, 1) := by decide +kernel
theorem dX5_number_25 : decode cX5_number 25 = .ok (.putfield 264, 3) := by decide +kernel
theorem dX5_number_28 : decode cX5_number 28 = .ok (.aload_n 0, 1) := by decide +kernel
theorem dX5_number_29 : decode cX5_number 29 = .ok (.invokevirtual 270, 3) := by decide +kernel
theorem dX5_number_32 : decode cX5_number 32 = .ok (.ifCond .eq 28, 3) := by decide +kernel
theorem dX5_number_35 : decode cX5_number 35 = .ok (.bipush 10, 2) := by decide +kernel
theorem dX5_number_37 : decode cX5_number 37 = .ok (.iload 4, 2) := by decide +kernel
theorem dX5_number_39 : decode cX5_number 39 = .ok (.imul, 1) := by decide +kernel
theorem dX5_number_40 : decode cX5_number 40 = .ok (.aload_n 0, 1) := by decide +kernel
theorem dX5_number_41 : decode cX5_number 41 = .ok (.invokevirtual 267, 3) := by decide +kernel
theorem dX5_number_44 : decode cX5_number 44 = .ok (.iadd, 1) := by decide +kernel
theorem dX5_number_45 : decode cX5_number 45 = .ok (.bipush 48, 2) := by decide +kernel
theorem dX5_number_47 : decode cX5_number 47 = .ok (.isub, 1) := by decide +kernel
theorem dX5_number_48 : decode cX5_number 48 = .ok (.istore 4, 2) := by decide +kernel
theorem dX5_number_50 : decode cX5_number 50 = .ok (.aload_n 0, 1) := by decide +kernel
theorem dX5_number_51 : decode cX5_number 51 = .ok (.dup, 1) := by decide +kernel
theorem dX5_number_52 : decode cX5_number 52 = .ok (.getfield 264, 3) := by decide +kernel
theorem dX5_number_55 : decode cX5_number 55 = .ok (.iconst 1, 1) := by decide +kernel
theorem dX5_number_56 : decode cX5_number 56 = .ok (.iadd, 1) := by decide +kernel
theorem dX5_number_57 : decode cX5_number 57 = .ok (.putfield 264, 3) := by decide +kernel
theorem dX5_number_60 : decode cX5_number 60 = .ok (.aload_n 0, 1) := by decide +kernel
theorem dX5_number_61 : decode cX5_number 61 = .ok (.iload 4, 2) := by decide +kernel
theorem dX5_number_63 : decode cX5_number 63 = .ok (.putfield 274, 3) := by decide +kernel
theorem dX5_number_66 : decode cX5_number 66 = .ok (.aload_n 0, 1) := by decide +kernel
theorem dX5_number_67 : decode cX5_number 67 = .ok (.invokevirtual 267, 3) := by decide +kernel
theorem dX5_number_70 : decode cX5_number 70 = .ok (.iload_n 3, 1) := by decide +kernel
theorem dX5_number_71 : decode cX5_number 71 = .ok (.if_icmp .ne 13, 3) := by decide +kernel
theorem dX5_number_74 : decode cX5_number 74 = .ok (.iload 4, 2) := by decide +kernel
theorem dX5_number_76 : decode cX5_number 76 = .ok (.iload_n 1, 1) := by decide +kernel
theorem dX5_number_77 : decode cX5_number 77 = .ok (.iload_n 2, 1) := by decide +kernel
theorem dX5_number_78 : decode cX5_number 78 = .ok (.invokestatic 103, 3) := by decide +kernel
theorem dX5_number_81 : decode cX5_number 81 = .ok (.ifCond .ne 5, 3) := by decide +kernel
theorem dX5_number_84 : decode cX5_number 84 = .ok (.iconst 0, 1) := by decide +kernel
theorem dX5_number_85 : decode cX5_number 85 = .ok (.ireturn, 1) := by decide +kernel
theorem dX5_number_86 : decode cX5_number 86 = .ok (.aload_n 0, 1) := by decide +kernel
theorem dX5_number_87 : decode cX5_number 87 = .ok (.dup, 1) := by decide +kernel
theorem dX5_number_88 : decode cX5_number 88 = .ok (.getfield 264, 3) := by decide +kernel
theorem dX5_number_91 : decode cX5_number 91 = .ok (.iconst 1, 1) := by decide +kernel
theorem dX5_number_92 : decode cX5_number 92 = .ok (.iadd, 1) := by decide +kernel
theorem dX5_number_93 : decode cX5_number 93 = .ok (.putfield 264, 3) := by decide +kernel
theorem dX5_number_96 : decode cX5_number 96 = .ok (.iconst 1, 1) := by decide +kernel
theorem dX5_number_97 : decode cX5_number 97 = .ok (.ireturn, 1) := by decide +kernel
theorem dX5_readsSigns_0 : decode cX5_readsSigns 0 = .ok (.aload_n 0, 1) := by decide +kernel
theorem dX5_readsSigns_1 : decode cX5_readsSigns 1 = .ok (.invokevirtual 267, 3) := by decide +kernel
theorem dX5_readsSigns_4 : decode cX5_readsSigns 4 = .ok (.bipush 59, 2) := by decide +kernel
theorem dX5_readsSigns_6 : decode cX5_readsSigns 6 = .ok (.if_icmp .eq 110, 3) := by decide +kernel
theorem dX5_readsSigns_9 : decode cX5_readsSigns 9 = .ok (.aload_n 0, 1) := by decide +kernel
theorem dX5_readsSigns_10 : decode cX5_readsSigns 10 = .ok (.invokevirtual 267, 3) := by decide +kernel
theorem dX5_readsSigns_13 : decode cX5_readsSigns 13 = .ok (.istore_n 1, 1) := by decide +kernel
theorem dX5_readsSigns_14 : decode cX5_readsSigns 14 = .ok (.iload_n 1, 1) := by decide +kernel
theorem dX5_readsSigns_15 : decode cX5_readsSigns 15 = .ok (.bipush 97, 2) := by decide +kernel
theorem dX5_readsSigns_17 : decode cX5_readsSigns 17 = .ok (.bipush 122, 2) := by decide +kernel
theorem dX5_readsSigns_19 : decode cX5_readsSigns 19 = .ok (.invokestatic 103, 3) := by decide +kernel
theorem dX5_readsSigns_22 : decode cX5_readsSigns 22 = .ok (.ifCond .ne 15, 3) := by decide +kernel
theorem dX5_readsSigns_25 : decode cX5_readsSigns 25 = .ok (.iload_n 1, 1) := by decide +kernel
theorem dX5_readsSigns_26 : decode cX5_readsSigns 26 = .ok (.bipush 62, 2) := by decide +kernel
theorem dX5_readsSigns_28 : decode cX5_readsSigns 28 = .ok (.if_icmp .eq 9, 3) := by decide +kernel
theorem dX5_readsSigns_31 : decode cX5_readsSigns 31 = .ok (.iload_n 1, 1) := by decide +kernel
theorem dX5_readsSigns_32 : decode cX5_readsSigns 32 = .ok (.bipush 47, 2) := by decide +kernel
theorem dX5_readsSigns_34 : decode cX5_readsSigns 34 = .ok (.if_icmp .ne 7, 3) := by decide +kernel
theorem dX5_readsSigns_37 : decode cX5_readsSigns 37 = .ok (.iconst 1, 1) := by decide +kernel
theorem dX5_readsSigns_38 : decode cX5_readsSigns 38 = .ok (.goto 4, 3) := by decide +kernel
theorem dX5_readsSigns_41 : decode cX5_readsSigns 41 = .ok (.iconst 0, 1) := by decide +kernel
theorem dX5_readsSigns_42 : decode cX5_readsSigns 42 = .ok (.istore_n 2, 1) := by decide +kernel
theorem dX5_readsSigns_43 : decode cX5_readsSigns 43 = .ok (.iload_n 2, 1) := by decide +kernel
theorem dX5_readsSigns_44 : decode cX5_readsSigns 44 = .ok (.ifCond .eq 12, 3) := by decide +kernel
theorem dX5_readsSigns_47 : decode cX5_readsSigns 47 = .ok (.aload_n 0, 1) := by decide +kernel
theorem dX5_readsSigns_48 : decode cX5_readsSigns 48 = .ok (.getfield 89, 3) := by decide +kernel
theorem dX5_readsSigns_51 : decode cX5_readsSigns 51 = .ok (.bipush 40, 2) := by decide +kernel
theorem dX5_readsSigns_53 : decode cX5_readsSigns 53 = .ok (.if_icmp .ne 5, 3) := by decide +kernel
theorem dX5_readsSigns_56 : decode cX5_readsSigns 56 = .ok (.iconst 0, 1) := by decide +kernel
theorem dX5_readsSigns_57 : decode cX5_readsSigns 57 = .ok (.ireturn, 1) := by decide +kernel
theorem dX5_readsSigns_58 : decode cX5_readsSigns 58 = .ok (.aload_n 0, 1) := by decide +kernel
theorem dX5_readsSigns_59 : decode cX5_readsSigns 59 = .ok (.getfield 7, 3) := by decide +kernel
theorem dX5_readsSigns_62 : decode cX5_readsSigns 62 = .ok (.aload_n 0, 1) := by decide +kernel
theorem dX5_readsSigns_63 : decode cX5_readsSigns 63 = .ok (.getfield 89, 3) := by decide +kernel
theorem dX5_readsSigns_66 : decode cX5_readsSigns 66 = .ok (.iload_n 1, 1) := by decide +kernel
theorem dX5_readsSigns_67 : decode cX5_readsSigns 67 = .ok (.bipush 62, 2) := by decide +kernel
theorem dX5_readsSigns_69 : decode cX5_readsSigns 69 = .ok (.if_icmp .ne 8, 3) := by decide +kernel
theorem dX5_readsSigns_72 : decode cX5_readsSigns 72 = .ok (.bipush 26, 2) := by decide +kernel
theorem dX5_readsSigns_74 : decode cX5_readsSigns 74 = .ok (.goto 18, 3) := by decide +kernel
theorem dX5_readsSigns_77 : decode cX5_readsSigns 77 = .ok (.iload_n 1, 1) := by decide +kernel
theorem dX5_readsSigns_78 : decode cX5_readsSigns 78 = .ok (.bipush 47, 2) := by decide +kernel
theorem dX5_readsSigns_80 : decode cX5_readsSigns 80 = .ok (.if_icmp .ne 8, 3) := by decide +kernel
theorem dX5_readsSigns_83 : decode cX5_readsSigns 83 = .ok (.bipush 27, 2) := by decide +kernel
theorem dX5_readsSigns_85 : decode cX5_readsSigns 85 = .ok (.goto 7, 3) := by decide +kernel
theorem dX5_readsSigns_88 : decode cX5_readsSigns 88 = .ok (.iload_n 1, 1) := by decide +kernel
theorem dX5_readsSigns_89 : decode cX5_readsSigns 89 = .ok (.bipush 97, 2) := by decide +kernel
theorem dX5_readsSigns_91 : decode cX5_readsSigns 91 = .ok (.isub, 1) := by decide +kernel
theorem dX5_readsSigns_92 : decode cX5_readsSigns 92 = .ok (.iastore, 1) := by decide +kernel
theorem dX5_readsSigns_93 : decode cX5_readsSigns 93 = .ok (.aload_n 0, 1) := by decide +kernel
theorem dX5_readsSigns_94 : decode cX5_readsSigns 94 = .ok (.dup, 1) := by decide +kernel
theorem dX5_readsSigns_95 : decode cX5_readsSigns 95 = .ok (.getfield 89, 3) := by decide +kernel
theorem dX5_readsSigns_98 : decode cX5_readsSigns 98 = .ok (.iconst 1, 1) := by decide +kernel
theorem dX5_readsSigns_99 : decode cX5_readsSigns 99 = .ok (.iadd, 1) := by decide +kernel
theorem dX5_readsSigns_100 : decode cX5_readsSigns 100 = .ok (.putfield 89, 3) := by decide +kernel
theorem dX5_readsSigns_103 : decode cX5_readsSigns 103 = .ok (.aload_n 0, 1) := by decide +kernel
theorem dX5_readsSigns_104 : decode cX5_readsSigns 104 = .ok (.dup, 1) := by decide +kernel
theorem dX5_readsSigns_105 : decode cX5_readsSigns 105 = .ok (.getfield 264, 3) := by decide +kernel
theorem dX5_readsSigns_108 : decode cX5_readsSigns 108 = .ok (.iconst 1, 1) := by decide +kernel
theorem dX5_readsSigns_109 : decode cX5_readsSigns 109 = .ok (.iadd, 1) := by decide +kernel
theorem dX5_readsSigns_110 : decode cX5_readsSigns 110 = .ok (.putfield 264, 3) := by decide +kernel
theorem dX5_readsSigns_113 : decode cX5_readsSigns 113 = .ok (.goto (-113), 3) := by decide +kernel
theorem dX5_readsSigns_116 : decode cX5_readsSigns 116 = .ok (.aload_n 0, 1) := by decide +kernel
theorem dX5_readsSigns_117 : decode cX5_readsSigns 117 = .ok (.dup, 1) := by decide +kernel
theorem dX5_readsSigns_118 : decode cX5_readsSigns 118 = .ok (.getfield 264, 3) := by decide +kernel
theorem dX5_readsSigns_121 : decode cX5_readsSigns 121 = .ok (.iconst 1, 1) := by decide +kernel
theorem dX5_readsSigns_122 : decode cX5_readsSigns 122 = .ok (.iadd, 1) := by decide +kernel
theorem dX5_readsSigns_123 : decode cX5_readsSigns 123 = .ok (.putfield 264, 3) := by decide +kernel
theorem dX5_readsSigns_126 : decode cX5_readsSigns 126 = .ok (.iconst 1, 1) := by decide +kernel
theorem dX5_readsSigns_127 : decode cX5_readsSigns 127 = .ok (.ireturn, 1) := by decide +kernel
theorem dX5_readsFold_0 : decode cX5_readsFold 0 = .ok (.aload_n 0, 1) := by decide +kernel
theorem dX5_readsFold_1 : decode cX5_readsFold 1 = .ok (.getfield 107, 3) := by decide +kernel
theorem dX5_readsFold_4 : decode cX5_readsFold 4 = .ok (.iconst 4, 1) := by decide +kernel
theorem dX5_readsFold_5 : decode cX5_readsFold 5 = .ok (.if_icmp .eq 17, 3) := by decide +kernel
theorem dX5_readsFold_8 : decode cX5_readsFold 8 = .ok (.aload_n 0, 1) := by decide +kernel
theorem dX5_readsFold_9 : decode cX5_readsFold 9 = .ok (.iconst 0, 1) := by decide +kernel
theorem dX5_readsFold_10 : decode cX5_readsFold 10 = .ok (.aload_n 0, 1) := by decide +kernel
theorem dX5_readsFold_11 : decode cX5_readsFold 11 = .ok (.getfield 89, 3) := by decide +kernel
theorem dX5_readsFold_14 : decode cX5_readsFold 14 = .ok (.bipush 44, 2) := by decide +kernel
theorem dX5_readsFold_16 : decode cX5_readsFold 16 = .ok (.invokevirtual 277, 3) := by decide +kernel
theorem dX5_readsFold_19 : decode cX5_readsFold 19 = .ok (.ifCond .ne 5, 3) := by decide +kernel
theorem dX5_readsFold_22 : decode cX5_readsFold 22 = .ok (.iconst 0, 1) := by decide +kernel
theorem dX5_readsFold_23 : decode cX5_readsFold 23 = .ok (.ireturn, 1) := by decide +kernel
theorem dX5_readsFold_24 : decode cX5_readsFold 24 = .ok (.aload_n 0, 1) := by decide +kernel
theorem dX5_readsFold_25 : decode cX5_readsFold 25 = .ok (.getfield 274, 3) := by decide +kernel
theorem dX5_readsFold_28 : decode cX5_readsFold 28 = .ok (.istore_n 1, 1) := by decide +kernel
theorem dX5_readsFold_29 : decode cX5_readsFold 29 = .ok (.aload_n 0, 1) := by decide +kernel
theorem dX5_readsFold_30 : decode cX5_readsFold 30 = .ok (.iload_n 1, 1) := by decide +kernel
theorem dX5_readsFold_31 : decode cX5_readsFold 31 = .ok (.iconst 1, 1) := by decide +kernel
theorem dX5_readsFold_32 : decode cX5_readsFold 32 = .ok (.iadd, 1) := by decide +kernel
theorem dX5_readsFold_33 : decode cX5_readsFold 33 = .ok (.aload_n 0, 1) := by decide +kernel
theorem dX5_readsFold_34 : decode cX5_readsFold 34 = .ok (.getfield 89, 3) := by decide +kernel
theorem dX5_readsFold_37 : decode cX5_readsFold 37 = .ok (.bipush 59, 2) := by decide +kernel
theorem dX5_readsFold_39 : decode cX5_readsFold 39 = .ok (.invokevirtual 277, 3) := by decide +kernel
theorem dX5_readsFold_42 : decode cX5_readsFold 42 = .ok (.ifCond .eq 15, 3) := by decide +kernel
theorem dX5_readsFold_45 : decode cX5_readsFold 45 = .ok (.aload_n 0, 1) := by decide +kernel
theorem dX5_readsFold_46 : decode cX5_readsFold 46 = .ok (.iload_n 1, 1) := by decide +kernel
theorem dX5_readsFold_47 : decode cX5_readsFold 47 = .ok (.aload_n 0, 1) := by decide +kernel
theorem dX5_readsFold_48 : decode cX5_readsFold 48 = .ok (.getfield 274, 3) := by decide +kernel
theorem dX5_readsFold_51 : decode cX5_readsFold 51 = .ok (.invokevirtual 205, 3) := by decide +kernel
theorem dX5_readsFold_54 : decode cX5_readsFold 54 = .ok (.ifCond .ne 5, 3) := by decide +kernel
theorem dX5_readsFold_57 : decode cX5_readsFold 57 = .ok (.iconst 0, 1) := by decide +kernel
theorem dX5_readsFold_58 : decode cX5_readsFold 58 = .ok (.ireturn, 1) := by decide +kernel
theorem dX5_readsFold_59 : decode cX5_readsFold 59 = .ok (.aload_n 0, 1) := by decide +kernel
theorem dX5_readsFold_60 : decode cX5_readsFold 60 = .ok (.iload_n 1, 1) := by decide +kernel
theorem dX5_readsFold_61 : decode cX5_readsFold 61 = .ok (.aload_n 0, 1) := by decide +kernel
theorem dX5_readsFold_62 : decode cX5_readsFold 62 = .ok (.getfield 274, 3) := by decide +kernel
theorem dX5_readsFold_65 : decode cX5_readsFold 65 = .ok (.iconst 1, 1) := by decide +kernel
theorem dX5_readsFold_66 : decode cX5_readsFold 66 = .ok (.invokevirtual 92, 3) := by decide +kernel
theorem dX5_readsFold_69 : decode cX5_readsFold 69 = .ok (.pop, 1) := by decide +kernel
theorem dX5_readsFold_70 : decode cX5_readsFold 70 = .ok (.iconst 1, 1) := by decide +kernel
theorem dX5_readsFold_71 : decode cX5_readsFold 71 = .ok (.ireturn, 1) := by decide +kernel
theorem dX5_readsHint_0 : decode cX5_readsHint 0 = .ok (.aload_n 0, 1) := by decide +kernel
theorem dX5_readsHint_1 : decode cX5_readsHint 1 = .ok (.getfield 110, 3) := by decide +kernel
theorem dX5_readsHint_4 : decode cX5_readsHint 4 = .ok (.iconst 4, 1) := by decide +kernel
theorem dX5_readsHint_5 : decode cX5_readsHint 5 = .ok (.if_icmp .eq 17, 3) := by decide +kernel
theorem dX5_readsHint_8 : decode cX5_readsHint 8 = .ok (.aload_n 0, 1) := by decide +kernel
theorem dX5_readsHint_9 : decode cX5_readsHint 9 = .ok (.iconst 0, 1) := by decide +kernel
theorem dX5_readsHint_10 : decode cX5_readsHint 10 = .ok (.aload_n 0, 1) := by decide +kernel
theorem dX5_readsHint_11 : decode cX5_readsHint 11 = .ok (.getfield 89, 3) := by decide +kernel
theorem dX5_readsHint_14 : decode cX5_readsHint 14 = .ok (.bipush 44, 2) := by decide +kernel
theorem dX5_readsHint_16 : decode cX5_readsHint 16 = .ok (.invokevirtual 277, 3) := by decide +kernel
theorem dX5_readsHint_19 : decode cX5_readsHint 19 = .ok (.ifCond .ne 5, 3) := by decide +kernel
theorem dX5_readsHint_22 : decode cX5_readsHint 22 = .ok (.iconst 0, 1) := by decide +kernel
theorem dX5_readsHint_23 : decode cX5_readsHint 23 = .ok (.ireturn, 1) := by decide +kernel
theorem dX5_readsHint_24 : decode cX5_readsHint 24 = .ok (.aload_n 0, 1) := by decide +kernel
theorem dX5_readsHint_25 : decode cX5_readsHint 25 = .ok (.getfield 274, 3) := by decide +kernel
theorem dX5_readsHint_28 : decode cX5_readsHint 28 = .ok (.istore_n 1, 1) := by decide +kernel
theorem dX5_readsHint_29 : decode cX5_readsHint 29 = .ok (.aload_n 0, 1) := by decide +kernel
theorem dX5_readsHint_30 : decode cX5_readsHint 30 = .ok (.iload_n 1, 1) := by decide +kernel
theorem dX5_readsHint_31 : decode cX5_readsHint 31 = .ok (.invokevirtual 120, 3) := by decide +kernel
theorem dX5_readsHint_34 : decode cX5_readsHint 34 = .ok (.bipush (-4), 2) := by decide +kernel
theorem dX5_readsHint_36 : decode cX5_readsHint 36 = .ok (.if_icmp .ne 14, 3) := by decide +kernel
theorem dX5_readsHint_39 : decode cX5_readsHint 39 = .ok (.aload_n 0, 1) := by decide +kernel
theorem dX5_readsHint_40 : decode cX5_readsHint 40 = .ok (.iconst 1, 1) := by decide +kernel
theorem dX5_readsHint_41 : decode cX5_readsHint 41 = .ok (.iconst 5, 1) := by decide +kernel
theorem dX5_readsHint_42 : decode cX5_readsHint 42 = .ok (.bipush 59, 2) := by decide +kernel
theorem dX5_readsHint_44 : decode cX5_readsHint 44 = .ok (.invokevirtual 277, 3) := by decide +kernel
theorem dX5_readsHint_47 : decode cX5_readsHint 47 = .ok (.ifCond .ne 5, 3) := by decide +kernel
theorem dX5_readsHint_50 : decode cX5_readsHint 50 = .ok (.iconst 0, 1) := by decide +kernel
theorem dX5_readsHint_51 : decode cX5_readsHint 51 = .ok (.ireturn, 1) := by decide +kernel
theorem dX5_readsHint_52 : decode cX5_readsHint 52 = .ok (.aload_n 0, 1) := by decide +kernel
theorem dX5_readsHint_53 : decode cX5_readsHint 53 = .ok (.iload_n 1, 1) := by decide +kernel
theorem dX5_readsHint_54 : decode cX5_readsHint 54 = .ok (.aload_n 0, 1) := by decide +kernel
theorem dX5_readsHint_55 : decode cX5_readsHint 55 = .ok (.getfield 274, 3) := by decide +kernel
theorem dX5_readsHint_58 : decode cX5_readsHint 58 = .ok (.invokevirtual 96, 3) := by decide +kernel
theorem dX5_readsHint_61 : decode cX5_readsHint 61 = .ok (.pop, 1) := by decide +kernel
theorem dX5_readsHint_62 : decode cX5_readsHint 62 = .ok (.iconst 1, 1) := by decide +kernel
theorem dX5_readsHint_63 : decode cX5_readsHint 63 = .ok (.ireturn, 1) := by decide +kernel
theorem dX5_readsWide_0 : decode cX5_readsWide 0 = .ok (.aload_n 0, 1) := by decide +kernel
theorem dX5_readsWide_1 : decode cX5_readsWide 1 = .ok (.iconst 0, 1) := by decide +kernel
theorem dX5_readsWide_2 : decode cX5_readsWide 2 = .ok (.iconst 2, 1) := by decide +kernel
theorem dX5_readsWide_3 : decode cX5_readsWide 3 = .ok (.bipush 44, 2) := by decide +kernel
theorem dX5_readsWide_5 : decode cX5_readsWide 5 = .ok (.invokevirtual 277, 3) := by decide +kernel
theorem dX5_readsWide_8 : decode cX5_readsWide 8 = .ok (.ifCond .ne 5, 3) := by decide +kernel
theorem dX5_readsWide_11 : decode cX5_readsWide 11 = .ok (.iconst 0, 1) := by decide +kernel
theorem dX5_readsWide_12 : decode cX5_readsWide 12 = .ok (.ireturn, 1) := by decide +kernel
theorem dX5_readsWide_13 : decode cX5_readsWide 13 = .ok (.aload_n 0, 1) := by decide +kernel
theorem dX5_readsWide_14 : decode cX5_readsWide 14 = .ok (.getfield 274, 3) := by decide +kernel
theorem dX5_readsWide_17 : decode cX5_readsWide 17 = .ok (.istore_n 1, 1) := by decide +kernel
theorem dX5_readsWide_18 : decode cX5_readsWide 18 = .ok (.aload_n 0, 1) := by decide +kernel
theorem dX5_readsWide_19 : decode cX5_readsWide 19 = .ok (.iconst 4, 1) := by decide +kernel
theorem dX5_readsWide_20 : decode cX5_readsWide 20 = .ok (.bipush 20, 2) := by decide +kernel
theorem dX5_readsWide_22 : decode cX5_readsWide 22 = .ok (.bipush 44, 2) := by decide +kernel
theorem dX5_readsWide_24 : decode cX5_readsWide 24 = .ok (.invokevirtual 277, 3) := by decide +kernel
theorem dX5_readsWide_27 : decode cX5_readsWide 27 = .ok (.ifCond .ne 5, 3) := by decide +kernel
theorem dX5_readsWide_30 : decode cX5_readsWide 30 = .ok (.iconst 0, 1) := by decide +kernel
theorem dX5_readsWide_31 : decode cX5_readsWide 31 = .ok (.ireturn, 1) := by decide +kernel
theorem dX5_readsWide_32 : decode cX5_readsWide 32 = .ok (.aload_n 0, 1) := by decide +kernel
theorem dX5_readsWide_33 : decode cX5_readsWide 33 = .ok (.getfield 274, 3) := by decide +kernel
theorem dX5_readsWide_36 : decode cX5_readsWide 36 = .ok (.istore_n 2, 1) := by decide +kernel
theorem dX5_readsWide_37 : decode cX5_readsWide 37 = .ok (.aload_n 0, 1) := by decide +kernel
theorem dX5_readsWide_38 : decode cX5_readsWide 38 = .ok (.iconst 0, 1) := by decide +kernel
theorem dX5_readsWide_39 : decode cX5_readsWide 39 = .ok (.iconst 3, 1) := by decide +kernel
theorem dX5_readsWide_40 : decode cX5_readsWide 40 = .ok (.bipush 59, 2) := by decide +kernel
theorem dX5_readsWide_42 : decode cX5_readsWide 42 = .ok (.invokevirtual 277, 3) := by decide +kernel
theorem dX5_readsWide_45 : decode cX5_readsWide 45 = .ok (.ifCond .ne 5, 3) := by decide +kernel
theorem dX5_readsWide_48 : decode cX5_readsWide 48 = .ok (.iconst 0, 1) := by decide +kernel
theorem dX5_readsWide_49 : decode cX5_readsWide 49 = .ok (.ireturn, 1) := by decide +kernel
theorem dX5_readsWide_50 : decode cX5_readsWide 50 = .ok (.aload_n 0, 1) := by decide +kernel
theorem dX5_readsWide_51 : decode cX5_readsWide 51 = .ok (.iload_n 1, 1) := by decide +kernel
theorem dX5_readsWide_52 : decode cX5_readsWide 52 = .ok (.putfield 28, 3) := by decide +kernel
theorem dX5_readsWide_55 : decode cX5_readsWide 55 = .ok (.aload_n 0, 1) := by decide +kernel
theorem dX5_readsWide_56 : decode cX5_readsWide 56 = .ok (.iload_n 2, 1) := by decide +kernel
theorem dX5_readsWide_57 : decode cX5_readsWide 57 = .ok (.putfield 32, 3) := by decide +kernel
theorem dX5_readsWide_60 : decode cX5_readsWide 60 = .ok (.aload_n 0, 1) := by decide +kernel
theorem dX5_readsWide_61 : decode cX5_readsWide 61 = .ok (.aload_n 0, 1) := by decide +kernel
theorem dX5_readsWide_62 : decode cX5_readsWide 62 = .ok (.getfield 274, 3) := by decide +kernel
theorem dX5_readsWide_65 : decode cX5_readsWide 65 = .ok (.putfield 100, 3) := by decide +kernel
theorem dX5_readsWide_68 : decode cX5_readsWide 68 = .ok (.iconst 1, 1) := by decide +kernel
theorem dX5_readsWide_69 : decode cX5_readsWide 69 = .ok (.ireturn, 1) := by decide +kernel
theorem dX5_readsTabs_0 : decode cX5_readsTabs 0 = .ok (.aload_n 0, 1) := by decide +kernel
theorem dX5_readsTabs_1 : decode cX5_readsTabs 1 = .ok (.iconst 1, 1) := by decide +kernel
theorem dX5_readsTabs_2 : decode cX5_readsTabs 2 = .ok (.bipush 8, 2) := by decide +kernel
theorem dX5_readsTabs_4 : decode cX5_readsTabs 4 = .ok (.bipush 59, 2) := by decide +kernel
theorem dX5_readsTabs_6 : decode cX5_readsTabs 6 = .ok (.invokevirtual 277, 3) := by decide +kernel
theorem dX5_readsTabs_9 : decode cX5_readsTabs 9 = .ok (.ifCond .ne 5, 3) := by decide +kernel
theorem dX5_readsTabs_12 : decode cX5_readsTabs 12 = .ok (.iconst 0, 1) := by decide +kernel
theorem dX5_readsTabs_13 : decode cX5_readsTabs 13 = .ok (.ireturn, 1) := by decide +kernel
theorem dX5_readsTabs_14 : decode cX5_readsTabs 14 = .ok (.aload_n 0, 1) := by decide +kernel
theorem dX5_readsTabs_15 : decode cX5_readsTabs 15 = .ok (.aload_n 0, 1) := by decide +kernel
theorem dX5_readsTabs_16 : decode cX5_readsTabs 16 = .ok (.getfield 274, 3) := by decide +kernel
theorem dX5_readsTabs_19 : decode cX5_readsTabs 19 = .ok (.putfield 35, 3) := by decide +kernel
theorem dX5_readsTabs_22 : decode cX5_readsTabs 22 = .ok (.iconst 1, 1) := by decide +kernel
theorem dX5_readsTabs_23 : decode cX5_readsTabs 23 = .ok (.ireturn, 1) := by decide +kernel
theorem dX5_readsItem_0 : decode cX5_readsItem 0 = .ok (.aload_n 0, 1) := by decide +kernel
theorem dX5_readsItem_1 : decode cX5_readsItem 1 = .ok (.invokevirtual 267, 3) := by decide +kernel
theorem dX5_readsItem_4 : decode cX5_readsItem 4 = .ok (.istore_n 2, 1) := by decide +kernel
theorem dX5_readsItem_5 : decode cX5_readsItem 5 = .ok (.aload_n 0, 1) := by decide +kernel
theorem dX5_readsItem_6 : decode cX5_readsItem 6 = .ok (.dup, 1) := by decide +kernel
theorem dX5_readsItem_7 : decode cX5_readsItem 7 = .ok (.getfield 264, 3) := by decide +kernel
theorem dX5_readsItem_10 : decode cX5_readsItem 10 = .ok (.iconst 1, 1) := by decide +kernel
theorem dX5_readsItem_11 : decode cX5_readsItem 11 = .ok (.iadd, 1) := by decide +kernel
theorem dX5_readsItem_12 : decode cX5_readsItem 12 = .ok (.putfield 264, 3) := by decide +kernel
theorem dX5_readsItem_15 : decode cX5_readsItem 15 = .ok (.iload_n 2, 1) := by decide +kernel
theorem dX5_readsItem_16 : decode cX5_readsItem 16 = .ok (.lookupswitch 76 #[(102, 61), (104, 66), (116, 44), (119, 71)], 44) := by decide +kernel
theorem dX5_readsItem_60 : decode cX5_readsItem 60 = .ok (.iload_n 1, 1) := by decide +kernel
theorem dX5_readsItem_61 : decode cX5_readsItem 61 = .ok (.ifCond .eq 14, 3) := by decide +kernel
theorem dX5_readsItem_64 : decode cX5_readsItem 64 = .ok (.aload_n 0, 1) := by decide +kernel
theorem dX5_readsItem_65 : decode cX5_readsItem 65 = .ok (.invokevirtual 280, 3) := by decide +kernel
theorem dX5_readsItem_68 : decode cX5_readsItem 68 = .ok (.ifCond .eq 7, 3) := by decide +kernel
theorem dX5_readsItem_71 : decode cX5_readsItem 71 = .ok (.iconst 1, 1) := by decide +kernel
theorem dX5_readsItem_72 : decode cX5_readsItem 72 = .ok (.goto 4, 3) := by decide +kernel
theorem dX5_readsItem_75 : decode cX5_readsItem 75 = .ok (.iconst 0, 1) := by decide +kernel
theorem dX5_readsItem_76 : decode cX5_readsItem 76 = .ok (.ireturn, 1) := by decide +kernel
theorem dX5_readsItem_77 : decode cX5_readsItem 77 = .ok (.aload_n 0, 1) := by decide +kernel
theorem dX5_readsItem_78 : decode cX5_readsItem 78 = .ok (.invokevirtual 283, 3) := by decide +kernel
theorem dX5_readsItem_81 : decode cX5_readsItem 81 = .ok (.ireturn, 1) := by decide +kernel
theorem dX5_readsItem_82 : decode cX5_readsItem 82 = .ok (.aload_n 0, 1) := by decide +kernel
theorem dX5_readsItem_83 : decode cX5_readsItem 83 = .ok (.invokevirtual 286, 3) := by decide +kernel
theorem dX5_readsItem_86 : decode cX5_readsItem 86 = .ok (.ireturn, 1) := by decide +kernel
theorem dX5_readsItem_87 : decode cX5_readsItem 87 = .ok (.aload_n 0, 1) := by decide +kernel
theorem dX5_readsItem_88 : decode cX5_readsItem 88 = .ok (.invokevirtual 289, 3) := by decide +kernel
theorem dX5_readsItem_91 : decode cX5_readsItem 91 = .ok (.ireturn, 1) := by decide +kernel
theorem dX5_readsItem_92 : decode cX5_readsItem 92 = .ok (.iload_n 2, 1) := by decide +kernel
theorem dX5_readsItem_93 : decode cX5_readsItem 93 = .ok (.bipush 98, 2) := by decide +kernel
theorem dX5_readsItem_95 : decode cX5_readsItem 95 = .ok (.if_icmp .ne 14, 3) := by decide +kernel
theorem dX5_readsItem_98 : decode cX5_readsItem 98 = .ok (.aload_n 0, 1) := by decide +kernel
theorem dX5_readsItem_99 : decode cX5_readsItem 99 = .ok (.invokevirtual 292, 3) := by decide +kernel
theorem dX5_readsItem_102 : decode cX5_readsItem 102 = .ok (.ifCond .eq 7, 3) := by decide +kernel
theorem dX5_readsItem_105 : decode cX5_readsItem 105 = .ok (.iconst 1, 1) := by decide +kernel
theorem dX5_readsItem_106 : decode cX5_readsItem 106 = .ok (.goto 4, 3) := by decide +kernel
theorem dX5_readsItem_109 : decode cX5_readsItem 109 = .ok (.iconst 0, 1) := by decide +kernel
theorem dX5_readsItem_110 : decode cX5_readsItem 110 = .ok (.ireturn, 1) := by decide +kernel
theorem dX5_readsAll_0 : decode cX5_readsAll 0 = .ok (.aload_n 0, 1) := by decide +kernel
theorem dX5_readsAll_1 : decode cX5_readsAll 1 = .ok (.iconst 0, 1) := by decide +kernel
theorem dX5_readsAll_2 : decode cX5_readsAll 2 = .ok (.putfield 264, 3) := by decide +kernel
theorem dX5_readsAll_5 : decode cX5_readsAll 5 = .ok (.aload_n 0, 1) := by decide +kernel
theorem dX5_readsAll_6 : decode cX5_readsAll 6 = .ok (.iconst 0, 1) := by decide +kernel
theorem dX5_readsAll_7 : decode cX5_readsAll 7 = .ok (.putfield 89, 3) := by decide +kernel
theorem dX5_readsAll_10 : decode cX5_readsAll 10 = .ok (.aload_n 0, 1) := by decide +kernel
theorem dX5_readsAll_11 : decode cX5_readsAll 11 = .ok (.iconst 0, 1) := by decide +kernel
theorem dX5_readsAll_12 : decode cX5_readsAll 12 = .ok (.putfield 107, 3) := by decide +kernel
theorem dX5_readsAll_15 : decode cX5_readsAll 15 = .ok (.aload_n 0, 1) := by decide +kernel
theorem dX5_readsAll_16 : decode cX5_readsAll 16 = .ok (.iconst 0, 1) := by decide +kernel
theorem dX5_readsAll_17 : decode cX5_readsAll 17 = .ok (.putfield 110, 3) := by decide +kernel
theorem dX5_readsAll_20 : decode cX5_readsAll 20 = .ok (.aload_n 0, 1) := by decide +kernel
theorem dX5_readsAll_21 : decode cX5_readsAll 21 = .ok (.iconst 1, 1) := by decide +kernel
theorem dX5_readsAll_22 : decode cX5_readsAll 22 = .ok (.putfield 28, 3) := by decide +kernel
theorem dX5_readsAll_25 : decode cX5_readsAll 25 = .ok (.aload_n 0, 1) := by decide +kernel
theorem dX5_readsAll_26 : decode cX5_readsAll 26 = .ok (.bipush 8, 2) := by decide +kernel
theorem dX5_readsAll_28 : decode cX5_readsAll 28 = .ok (.putfield 32, 3) := by decide +kernel
theorem dX5_readsAll_31 : decode cX5_readsAll 31 = .ok (.aload_n 0, 1) := by decide +kernel
theorem dX5_readsAll_32 : decode cX5_readsAll 32 = .ok (.iconst 0, 1) := by decide +kernel
theorem dX5_readsAll_33 : decode cX5_readsAll 33 = .ok (.putfield 100, 3) := by decide +kernel
theorem dX5_readsAll_36 : decode cX5_readsAll 36 = .ok (.aload_n 0, 1) := by decide +kernel
theorem dX5_readsAll_37 : decode cX5_readsAll 37 = .ok (.iconst 4, 1) := by decide +kernel
theorem dX5_readsAll_38 : decode cX5_readsAll 38 = .ok (.putfield 35, 3) := by decide +kernel
theorem dX5_readsAll_41 : decode cX5_readsAll 41 = .ok (.aload_n 0, 1) := by decide +kernel
theorem dX5_readsAll_42 : decode cX5_readsAll 42 = .ok (.getfield 264, 3) := by decide +kernel
theorem dX5_readsAll_45 : decode cX5_readsAll 45 = .ok (.aload_n 0, 1) := by decide +kernel
theorem dX5_readsAll_46 : decode cX5_readsAll 46 = .ok (.getfield 261, 3) := by decide +kernel
theorem dX5_readsAll_49 : decode cX5_readsAll 49 = .ok (.if_icmp .ge 29, 3) := by decide +kernel
theorem dX5_readsAll_52 : decode cX5_readsAll 52 = .ok (.aload_n 0, 1) := by decide +kernel
theorem dX5_readsAll_53 : decode cX5_readsAll 53 = .ok (.getfield 264, 3) := by decide +kernel
theorem dX5_readsAll_56 : decode cX5_readsAll 56 = .ok (.istore_n 1, 1) := by decide +kernel
theorem dX5_readsAll_57 : decode cX5_readsAll 57 = .ok (.aload_n 0, 1) := by decide +kernel
theorem dX5_readsAll_58 : decode cX5_readsAll 58 = .ok (.iload_n 1, 1) := by decide +kernel
theorem dX5_readsAll_59 : decode cX5_readsAll 59 = .ok (.ifCond .ne 7, 3) := by decide +kernel
theorem dX5_readsAll_62 : decode cX5_readsAll 62 = .ok (.iconst 1, 1) := by decide +kernel
theorem dX5_readsAll_63 : decode cX5_readsAll 63 = .ok (.goto 4, 3) := by decide +kernel
theorem dX5_readsAll_66 : decode cX5_readsAll 66 = .ok (.iconst 0, 1) := by decide +kernel
theorem dX5_readsAll_67 : decode cX5_readsAll 67 = .ok (.invokevirtual 295, 3) := by decide +kernel
theorem dX5_readsAll_70 : decode cX5_readsAll 70 = .ok (.ifCond .ne 5, 3) := by decide +kernel
theorem dX5_readsAll_73 : decode cX5_readsAll 73 = .ok (.iload_n 1, 1) := by decide +kernel
theorem dX5_readsAll_74 : decode cX5_readsAll 74 = .ok (.ireturn, 1) := by decide +kernel
theorem dX5_readsAll_75 : decode cX5_readsAll 75 = .ok (.goto (-34), 3) := by decide +kernel
theorem dX5_readsAll_78 : decode cX5_readsAll 78 = .ok (.bipush (-4), 2) := by decide +kernel
theorem dX5_readsAll_80 : decode cX5_readsAll 80 = .ok (.ireturn, 1) := by decide +kernel
theorem dX5_fault_0 : decode cX5_fault 0 = .ok (.aload_n 0, 1) := by decide +kernel
theorem dX5_fault_1 : decode cX5_fault 1 = .ok (.aload_n 0, 1) := by decide +kernel
theorem dX5_fault_2 : decode cX5_fault 2 = .ok (.getfield 86, 3) := by decide +kernel
theorem dX5_fault_5 : decode cX5_fault 5 = .ok (.iconst 0, 1) := by decide +kernel
theorem dX5_fault_6 : decode cX5_fault 6 = .ok (.invokevirtual 181, 3) := by decide +kernel
theorem dX5_fault_9 : decode cX5_fault 9 = .ok (.aload_n 0, 1) := by decide +kernel
theorem dX5_fault_10 : decode cX5_fault 10 = .ok (.invokevirtual 299, 3) := by decide +kernel
theorem dX5_fault_13 : decode cX5_fault 13 = .ok (.istore_n 1, 1) := by decide +kernel
theorem dX5_fault_14 : decode cX5_fault 14 = .ok (.aload_n 0, 1) := by decide +kernel
theorem dX5_fault_15 : decode cX5_fault 15 = .ok (.aload_n 0, 1) := by decide +kernel
theorem dX5_fault_16 : decode cX5_fault 16 = .ok (.getfield 86, 3) := by decide +kernel
theorem dX5_fault_19 : decode cX5_fault 19 = .ok (.iconst 0, 1) := by decide +kernel
theorem dX5_fault_20 : decode cX5_fault 20 = .ok (.invokevirtual 211, 3) := by decide +kernel
theorem dX5_fault_23 : decode cX5_fault 23 = .ok (.iload_n 1, 1) := by decide +kernel
theorem dX5_fault_24 : decode cX5_fault 24 = .ok (.ireturn, 1) := by decide +kernel
theorem dX5_lay_0 : decode cX5_lay 0 = .ok (.aload_n 0, 1) := by decide +kernel
theorem dX5_lay_1 : decode cX5_lay 1 = .ok (.aload_n 0, 1) := by decide +kernel
theorem dX5_lay_2 : decode cX5_lay 2 = .ok (.getfield 86, 3) := by decide +kernel
theorem dX5_lay_5 : decode cX5_lay 5 = .ok (.iconst 0, 1) := by decide +kernel
theorem dX5_lay_6 : decode cX5_lay 6 = .ok (.invokevirtual 181, 3) := by decide +kernel
theorem dX5_lay_9 : decode cX5_lay 9 = .ok (.aload_n 0, 1) := by decide +kernel
theorem dX5_lay_10 : decode cX5_lay 10 = .ok (.invokevirtual 299, 3) := by decide +kernel
theorem dX5_lay_13 : decode cX5_lay 13 = .ok (.bipush (-4), 2) := by decide +kernel
theorem dX5_lay_15 : decode cX5_lay 15 = .ok (.if_icmp .eq 15, 3) := by decide +kernel
theorem dX5_lay_18 : decode cX5_lay 18 = .ok (.aload_n 0, 1) := by decide +kernel
theorem dX5_lay_19 : decode cX5_lay 19 = .ok (.aload_n 0, 1) := by decide +kernel
theorem dX5_lay_20 : decode cX5_lay 20 = .ok (.getfield 86, 3) := by decide +kernel
theorem dX5_lay_23 : decode cX5_lay 23 = .ok (.iconst 0, 1) := by decide +kernel
theorem dX5_lay_24 : decode cX5_lay 24 = .ok (.invokevirtual 211, 3) := by decide +kernel
theorem dX5_lay_27 : decode cX5_lay 27 = .ok (.bipush (-2), 2) := by decide +kernel
theorem dX5_lay_29 : decode cX5_lay 29 = .ok (.ireturn, 1) := by decide +kernel
theorem dX5_lay_30 : decode cX5_lay 30 = .ok (.aload_n 0, 1) := by decide +kernel
theorem dX5_lay_31 : decode cX5_lay 31 = .ok (.iconst 0, 1) := by decide +kernel
theorem dX5_lay_32 : decode cX5_lay 32 = .ok (.putfield 178, 3) := by decide +kernel
theorem dX5_lay_35 : decode cX5_lay 35 = .ok (.aload_n 0, 1) := by decide +kernel
theorem dX5_lay_36 : decode cX5_lay 36 = .ok (.iconst 0, 1) := by decide +kernel
theorem dX5_lay_37 : decode cX5_lay 37 = .ok (.putfield 214, 3) := by decide +kernel
theorem dX5_lay_40 : decode cX5_lay 40 = .ok (.aload_n 0, 1) := by decide +kernel
theorem dX5_lay_41 : decode cX5_lay 41 = .ok (.iconst 0, 1) := by decide +kernel
theorem dX5_lay_42 : decode cX5_lay 42 = .ok (.putfield 171, 3) := by decide +kernel
theorem dX5_lay_45 : decode cX5_lay 45 = .ok (.aload_n 0, 1) := by decide +kernel
theorem dX5_lay_46 : decode cX5_lay 46 = .ok (.getfield 89, 3) := by decide +kernel
theorem dX5_lay_49 : decode cX5_lay 49 = .ok (.ireturn, 1) := by decide +kernel
