theorem dX5_lays_133 : decode cX5_lays 133 = .ok (.getfield 25, 3) := by decide +kernel
theorem dX5_lays_136 : decode cX5_lays 136 = .ok (.iload_n 3, 1) := by decide +kernel
theorem dX5_lays_137 : decode cX5_lays 137 = .ok (.iaload, 1) := by decide +kernel
theorem dX5_lays_138 : decode cX5_lays 138 = .ok (.iastore, 1) := by decide +kernel
theorem dX5_lays_139 : decode cX5_lays 139 = .ok (.iinc 3 1, 3) := by decide +kernel
theorem dX5_lays_142 : decode cX5_lays 142 = .ok (.goto (-78), 3) := by decide +kernel
theorem dX5_lays_145 : decode cX5_lays 145 = .ok (.iconst 0, 1) := by decide +kernel
theorem dX5_lays_146 : decode cX5_lays 146 = .ok (.istore_n 3, 1) := by decide +kernel
theorem dX5_lays_147 : decode cX5_lays 147 = .ok (.iload_n 3, 1) := by decide +kernel
theorem dX5_lays_148 : decode cX5_lays 148 = .ok (.bipush 40, 2) := by decide +kernel
theorem dX5_lays_150 : decode cX5_lays 150 = .ok (.if_icmp .ge 23, 3) := by decide +kernel
theorem dX5_lays_153 : decode cX5_lays 153 = .ok (.aload_n 1, 1) := by decide +kernel
theorem dX5_lays_154 : decode cX5_lays 154 = .ok (.iload_n 2, 1) := by decide +kernel
theorem dX5_lays_155 : decode cX5_lays 155 = .ok (.bipush 27, 2) := by decide +kernel
theorem dX5_lays_157 : decode cX5_lays 157 = .ok (.iadd, 1) := by decide +kernel
theorem dX5_lays_158 : decode cX5_lays 158 = .ok (.iload_n 3, 1) := by decide +kernel
theorem dX5_lays_159 : decode cX5_lays 159 = .ok (.iadd, 1) := by decide +kernel
theorem dX5_lays_160 : decode cX5_lays 160 = .ok (.aload_n 0, 1) := by decide +kernel
theorem dX5_lays_161 : decode cX5_lays 161 = .ok (.getfield 7, 3) := by decide +kernel
theorem dX5_lays_164 : decode cX5_lays 164 = .ok (.iload_n 3, 1) := by decide +kernel
theorem dX5_lays_165 : decode cX5_lays 165 = .ok (.iaload, 1) := by decide +kernel
theorem dX5_lays_166 : decode cX5_lays 166 = .ok (.iastore, 1) := by decide +kernel
theorem dX5_lays_167 : decode cX5_lays 167 = .ok (.iinc 3 1, 3) := by decide +kernel
theorem dX5_lays_170 : decode cX5_lays 170 = .ok (.goto (-23), 3) := by decide +kernel
theorem dX5_lays_173 : decode cX5_lays 173 = .ok (.return_, 1) := by decide +kernel
theorem dX5_takes_0 : decode cX5_takes 0 = .ok (.aload_n 0, 1) := by decide +kernel
theorem dX5_takes_1 : decode cX5_takes 1 = .ok (.aload_n 1, 1) := by decide +kernel
theorem dX5_takes_2 : decode cX5_takes 2 = .ok (.iload_n 2, 1) := by decide +kernel
theorem dX5_takes_3 : decode cX5_takes 3 = .ok (.iaload, 1) := by decide +kernel
theorem dX5_takes_4 : decode cX5_takes 4 = .ok (.putfield 89, 3) := by decide +kernel
theorem dX5_takes_7 : decode cX5_takes 7 = .ok (.aload_n 0, 1) := by decide +kernel
theorem dX5_takes_8 : decode cX5_takes 8 = .ok (.aload_n 1, 1) := by decide +kernel
theorem dX5_takes_9 : decode cX5_takes 9 = .ok (.iload_n 2, 1) := by decide +kernel
theorem dX5_takes_10 : decode cX5_takes 10 = .ok (.iconst 1, 1) := by decide +kernel
theorem dX5_takes_11 : decode cX5_takes 11 = .ok (.iadd, 1) := by decide +kernel
theorem dX5_takes_12 : decode cX5_takes 12 = .ok (.iaload, 1) := by decide +kernel
theorem dX5_takes_13 : decode cX5_takes 13 = .ok (.putfield 107, 3) := by decide +kernel
theorem dX5_takes_16 : decode cX5_takes 16 = .ok (.aload_n 0, 1) := by decide +kernel
theorem dX5_takes_17 : decode cX5_takes 17 = .ok (.aload_n 1, 1) := by decide +kernel
theorem dX5_takes_18 : decode cX5_takes 18 = .ok (.iload_n 2, 1) := by decide +kernel
theorem dX5_takes_19 : decode cX5_takes 19 = .ok (.iconst 2, 1) := by decide +kernel
theorem dX5_takes_20 : decode cX5_takes 20 = .ok (.iadd, 1) := by decide +kernel
theorem dX5_takes_21 : decode cX5_takes 21 = .ok (.iaload, 1) := by decide +kernel
theorem dX5_takes_22 : decode cX5_takes 22 = .ok (.putfield 110, 3) := by decide +kernel
theorem dX5_takes_25 : decode cX5_takes 25 = .ok (.aload_n 0, 1) := by decide +kernel
theorem dX5_takes_26 : decode cX5_takes 26 = .ok (.aload_n 1, 1) := by decide +kernel
theorem dX5_takes_27 : decode cX5_takes 27 = .ok (.iload_n 2, 1) := by decide +kernel
theorem dX5_takes_28 : decode cX5_takes 28 = .ok (.iconst 3, 1) := by decide +kernel
theorem dX5_takes_29 : decode cX5_takes 29 = .ok (.iadd, 1) := by decide +kernel
theorem dX5_takes_30 : decode cX5_takes 30 = .ok (.iaload, 1) := by decide +kernel
theorem dX5_takes_31 : decode cX5_takes 31 = .ok (.putfield 28, 3) := by decide +kernel
theorem dX5_takes_34 : decode cX5_takes 34 = .ok (.aload_n 0, 1) := by decide +kernel
theorem dX5_takes_35 : decode cX5_takes 35 = .ok (.aload_n 1, 1) := by decide +kernel
theorem dX5_takes_36 : decode cX5_takes 36 = .ok (.iload_n 2, 1) := by decide +kernel
theorem dX5_takes_37 : decode cX5_takes 37 = .ok (.iconst 4, 1) := by decide +kernel
theorem dX5_takes_38 : decode cX5_takes 38 = .ok (.iadd, 1) := by decide +kernel
theorem dX5_takes_39 : decode cX5_takes 39 = .ok (.iaload, 1) := by decide +kernel
theorem dX5_takes_40 : decode cX5_takes 40 = .ok (.putfield 32, 3) := by decide +kernel
theorem dX5_takes_43 : decode cX5_takes 43 = .ok (.aload_n 0, 1) := by decide +kernel
theorem dX5_takes_44 : decode cX5_takes 44 = .ok (.aload_n 1, 1) := by decide +kernel
theorem dX5_takes_45 : decode cX5_takes 45 = .ok (.iload_n 2, 1) := by decide +kernel
theorem dX5_takes_46 : decode cX5_takes 46 = .ok (.iconst 5, 1) := by decide +kernel
theorem dX5_takes_47 : decode cX5_takes 47 = .ok (.iadd, 1) := by decide +kernel
theorem dX5_takes_48 : decode cX5_takes 48 = .ok (.iaload, 1) := by decide +kernel
theorem dX5_takes_49 : decode cX5_takes 49 = .ok (.putfield 100, 3) := by decide +kernel
theorem dX5_takes_52 : decode cX5_takes 52 = .ok (.aload_n 0, 1) := by decide +kernel
theorem dX5_takes_53 : decode cX5_takes 53 = .ok (.aload_n 1, 1) := by decide +kernel
theorem dX5_takes_54 : decode cX5_takes 54 = .ok (.iload_n 2, 1) := by decide +kernel
theorem dX5_takes_55 : decode cX5_takes 55 = .ok (.bipush 6, 2) := by decide +kernel
theorem dX5_takes_57 : decode cX5_takes 57 = .ok (.iadd, 1) := by decide +kernel
theorem dX5_takes_58 : decode cX5_takes 58 = .ok (.iaload, 1) := by decide +kernel
theorem dX5_takes_59 : decode cX5_takes 59 = .ok (.putfield 35, 3) := by decide +kernel
theorem dX5_takes_62 : decode cX5_takes 62 = .ok (.iconst 0, 1) := by decide +kernel
theorem dX5_takes_63 : decode cX5_takes 63 = .ok (.istore_n 3, 1) := by decide +kernel
theorem dX5_takes_64 : decode cX5_takes 64 = .ok (.iload_n 3, 1) := by decide +kernel
theorem dX5_takes_65 : decode cX5_takes 65 = .ok (.iconst 4, 1) := by decide +kernel
theorem dX5_takes_66 : decode cX5_takes 66 = .ok (.if_icmp .ge 79, 3) := by decide +kernel
theorem dX5_takes_69 : decode cX5_takes 69 = .ok (.aload_n 0, 1) := by decide +kernel
theorem dX5_takes_70 : decode cX5_takes 70 = .ok (.getfield 13, 3) := by decide +kernel
theorem dX5_takes_73 : decode cX5_takes 73 = .ok (.iload_n 3, 1) := by decide +kernel
theorem dX5_takes_74 : decode cX5_takes 74 = .ok (.aload_n 1, 1) := by decide +kernel
theorem dX5_takes_75 : decode cX5_takes 75 = .ok (.iload_n 2, 1) := by decide +kernel
theorem dX5_takes_76 : decode cX5_takes 76 = .ok (.bipush 7, 2) := by decide +kernel
theorem dX5_takes_78 : decode cX5_takes 78 = .ok (.iadd, 1) := by decide +kernel
theorem dX5_takes_79 : decode cX5_takes 79 = .ok (.iload_n 3, 1) := by decide +kernel
theorem dX5_takes_80 : decode cX5_takes 80 = .ok (.iadd, 1) := by decide +kernel
theorem dX5_takes_81 : decode cX5_takes 81 = .ok (.iaload, 1) := by decide +kernel
theorem dX5_takes_82 : decode cX5_takes 82 = .ok (.iastore, 1) := by decide +kernel
theorem dX5_takes_83 : decode cX5_takes 83 = .ok (.aload_n 0, 1) := by decide +kernel
theorem dX5_takes_84 : decode cX5_takes 84 = .ok (.getfield 16, 3) := by decide +kernel
theorem dX5_takes_87 : decode cX5_takes 87 = .ok (.iload_n 3, 1) := by decide +kernel
theorem dX5_takes_88 : decode cX5_takes 88 = .ok (.aload_n 1, 1) := by decide +kernel
theorem dX5_takes_89 : decode cX5_takes 89 = .ok (.iload_n 2, 1) := by decide +kernel
theorem dX5_takes_90 : decode cX5_takes 90 = .ok (.bipush 11, 2) := by decide +kernel
theorem dX5_takes_92 : decode cX5_takes 92 = .ok (.iadd, 1) := by decide +kernel
theorem dX5_takes_93 : decode cX5_takes 93 = .ok (.iload_n 3, 1) := by decide +kernel
theorem dX5_takes_94 : decode cX5_takes 94 = .ok (.iadd, 1) := by decide +kernel
theorem dX5_takes_95 : decode cX5_takes 95 = .ok (.iaload, 1) := by decide +kernel
theorem dX5_takes_96 : decode cX5_takes 96 = .ok (.iastore, 1) := by decide +kernel
theorem dX5_takes_97 : decode cX5_takes 97 = .ok (.aload_n 0, 1) := by decide +kernel
theorem dX5_takes_98 : decode cX5_takes 98 = .ok (.getfield 19, 3) := by decide +kernel
theorem dX5_takes_101 : decode cX5_takes 101 = .ok (.iload_n 3, 1) := by decide +kernel
theorem dX5_takes_102 : decode cX5_takes 102 = .ok (.aload_n 1, 1) := by decide +kernel
theorem dX5_takes_103 : decode cX5_takes 103 = .ok (.iload_n 2, 1) := by decide +kernel
theorem dX5_takes_104 : decode cX5_takes 104 = .ok (.bipush 15, 2) := by decide +kernel
theorem dX5_takes_106 : decode cX5_takes 106 = .ok (.iadd, 1) := by decide +kernel
theorem dX5_takes_107 : decode cX5_takes 107 = .ok (.iload_n 3, 1) := by decide +kernel
theorem dX5_takes_108 : decode cX5_takes 108 = .ok (.iadd, 1) := by decide +kernel
theorem dX5_takes_109 : decode cX5_takes 109 = .ok (.iaload, 1) := by decide +kernel
theorem dX5_takes_110 : decode cX5_takes 110 = .ok (.iastore, 1) := by decide +kernel
theorem dX5_takes_111 : decode cX5_takes 111 = .ok (.aload_n 0, 1) := by decide +kernel
theorem dX5_takes_112 : decode cX5_takes 112 = .ok (.getfield 22, 3) := by decide +kernel
theorem dX5_takes_115 : decode cX5_takes 115 = .ok (.iload_n 3, 1) := by decide +kernel
theorem dX5_takes_116 : decode cX5_takes 116 = .ok (.aload_n 1, 1) := by decide +kernel
theorem dX5_takes_117 : decode cX5_takes 117 = .ok (.iload_n 2, 1) := by decide +kernel
theorem dX5_takes_118 : decode cX5_takes 118 = .ok (.bipush 19, 2) := by decide +kernel
theorem dX5_takes_120 : decode cX5_takes 120 = .ok (.iadd, 1) := by decide +kernel
theorem dX5_takes_121 : decode cX5_takes 121 = .ok (.iload_n 3, 1) := by decide +kernel
theorem dX5_takes_122 : decode cX5_takes 122 = .ok (.iadd, 1) := by decide +kernel
theorem dX5_takes_123 : decode cX5_takes 123 = .ok (.iaload, 1) := by decide +kernel
theorem dX5_takes_124 : decode cX5_takes 124 = .ok (.iastore, 1) := by decide +kernel
theorem dX5_takes_125 : decode cX5_takes 125 = .ok (.aload_n 0, 1) := by decide +kernel
theorem dX5_takes_126 : decode cX5_takes 126 = .ok (.getfield 25, 3) := by decide +kernel
theorem dX5_takes_129 : decode cX5_takes 129 = .ok (.iload_n 3, 1) := by decide +kernel
theorem dX5_takes_130 : decode cX5_takes 130 = .ok (.aload_n 1, 1) := by decide +kernel
theorem dX5_takes_131 : decode cX5_takes 131 = .ok (.iload_n 2, 1) := by decide +kernel
theorem dX5_takes_132 : decode cX5_takes 132 = .ok (.bipush 23, 2) := by decide +kernel
theorem dX5_takes_134 : decode cX5_takes 134 = .ok (.iadd, 1) := by decide +kernel
theorem dX5_takes_135 : decode cX5_takes 135 = .ok (.iload_n 3, 1) := by decide +kernel
theorem dX5_takes_136 : decode cX5_takes 136 = .ok (.iadd, 1) := by decide +kernel
theorem dX5_takes_137 : decode cX5_takes 137 = .ok (.iaload, 1) := by decide +kernel
theorem dX5_takes_138 : decode cX5_takes 138 = .ok (.iastore, 1) := by decide +kernel
theorem dX5_takes_139 : decode cX5_takes 139 = .ok (.iinc 3 1, 3) := by decide +kernel
theorem dX5_takes_142 : decode cX5_takes 142 = .ok (.goto (-78), 3) := by decide +kernel
theorem dX5_takes_145 : decode cX5_takes 145 = .ok (.iconst 0, 1) := by decide +kernel
theorem dX5_takes_146 : decode cX5_takes 146 = .ok (.istore_n 3, 1) := by decide +kernel
theorem dX5_takes_147 : decode cX5_takes 147 = .ok (.iload_n 3, 1) := by decide +kernel
theorem dX5_takes_148 : decode cX5_takes 148 = .ok (.bipush 40, 2) := by decide +kernel
theorem dX5_takes_150 : decode cX5_takes 150 = .ok (.if_icmp .ge 23, 3) := by decide +kernel
theorem dX5_takes_153 : decode cX5_takes 153 = .ok (.aload_n 0, 1) := by decide +kernel
theorem dX5_takes_154 : decode cX5_takes 154 = .ok (.getfield 7, 3) := by decide +kernel
theorem dX5_takes_157 : decode cX5_takes 157 = .ok (.iload_n 3, 1) := by decide +kernel
theorem dX5_takes_158 : decode cX5_takes 158 = .ok (.aload_n 1, 1) := by decide +kernel
theorem dX5_takes_159 : decode cX5_takes 159 = .ok (.iload_n 2, 1) := by decide +kernel
theorem dX5_takes_160 : decode cX5_takes 160 = .ok (.bipush 27, 2) := by decide +kernel
theorem dX5_takes_162 : decode cX5_takes 162 = .ok (.iadd, 1) := by decide +kernel
theorem dX5_takes_163 : decode cX5_takes 163 = .ok (.iload_n 3, 1) := by decide +kernel
theorem dX5_takes_164 : decode cX5_takes 164 = .ok (.iadd, 1) := by decide +kernel
theorem dX5_takes_165 : decode cX5_takes 165 = .ok (.iaload, 1) := by decide +kernel
theorem dX5_takes_166 : decode cX5_takes 166 = .ok (.iastore, 1) := by decide +kernel
theorem dX5_takes_167 : decode cX5_takes 167 = .ok (.iinc 3 1, 3) := by decide +kernel
theorem dX5_takes_170 : decode cX5_takes 170 = .ok (.goto (-23), 3) := by decide +kernel
theorem dX5_takes_173 : decode cX5_takes 173 = .ok (.return_, 1) := by decide +kernel
theorem dX5_remembers_0 : decode cX5_remembers 0 = .ok (.aload_n 0, 1) := by decide +kernel
theorem dX5_remembers_1 : decode cX5_remembers 1 = .ok (.invokevirtual 150, 3) := by decide +kernel
theorem dX5_remembers_4 : decode cX5_remembers 4 = .ok (.aload_n 0, 1) := by decide +kernel
theorem dX5_remembers_5 : decode cX5_remembers 5 = .ok (.aload_n 0, 1) := by decide +kernel
theorem dX5_remembers_6 : decode cX5_remembers 6 = .ok (.getfield 117, 3) := by decide +kernel
theorem dX5_remembers_9 : decode cX5_remembers 9 = .ok (.putfield 165, 3) := by decide +kernel
theorem dX5_remembers_12 : decode cX5_remembers 12 = .ok (.iconst 0, 1) := by decide +kernel
theorem dX5_remembers_13 : decode cX5_remembers 13 = .ok (.istore_n 1, 1) := by decide +kernel
theorem dX5_remembers_14 : decode cX5_remembers 14 = .ok (.iload_n 1, 1) := by decide +kernel
theorem dX5_remembers_15 : decode cX5_remembers 15 = .ok (.aload_n 0, 1) := by decide +kernel
theorem dX5_remembers_16 : decode cX5_remembers 16 = .ok (.getfield 117, 3) := by decide +kernel
theorem dX5_remembers_19 : decode cX5_remembers 19 = .ok (.if_icmp .ge 57, 3) := by decide +kernel
theorem dX5_remembers_22 : decode cX5_remembers 22 = .ok (.aload_n 0, 1) := by decide +kernel
theorem dX5_remembers_23 : decode cX5_remembers 23 = .ok (.getfield 68, 3) := by decide +kernel
theorem dX5_remembers_26 : decode cX5_remembers 26 = .ok (.iload_n 1, 1) := by decide +kernel
theorem dX5_remembers_27 : decode cX5_remembers 27 = .ok (.aload_n 0, 1) := by decide +kernel
theorem dX5_remembers_28 : decode cX5_remembers 28 = .ok (.getfield 38, 3) := by decide +kernel
theorem dX5_remembers_31 : decode cX5_remembers 31 = .ok (.iload_n 1, 1) := by decide +kernel
theorem dX5_remembers_32 : decode cX5_remembers 32 = .ok (.iaload, 1) := by decide +kernel
theorem dX5_remembers_33 : decode cX5_remembers 33 = .ok (.iastore, 1) := by decide +kernel
theorem dX5_remembers_34 : decode cX5_remembers 34 = .ok (.aload_n 0, 1) := by decide +kernel
theorem dX5_remembers_35 : decode cX5_remembers 35 = .ok (.getfield 71, 3) := by decide +kernel
theorem dX5_remembers_38 : decode cX5_remembers 38 = .ok (.iload_n 1, 1) := by decide +kernel
theorem dX5_remembers_39 : decode cX5_remembers 39 = .ok (.aload_n 0, 1) := by decide +kernel
theorem dX5_remembers_40 : decode cX5_remembers 40 = .ok (.getfield 44, 3) := by decide +kernel
theorem dX5_remembers_43 : decode cX5_remembers 43 = .ok (.iload_n 1, 1) := by decide +kernel
theorem dX5_remembers_44 : decode cX5_remembers 44 = .ok (.iaload, 1) := by decide +kernel
theorem dX5_remembers_45 : decode cX5_remembers 45 = .ok (.iastore, 1) := by decide +kernel
theorem dX5_remembers_46 : decode cX5_remembers 46 = .ok (.aload_n 0, 1) := by decide +kernel
theorem dX5_remembers_47 : decode cX5_remembers 47 = .ok (.getfield 74, 3) := by decide +kernel
theorem dX5_remembers_50 : decode cX5_remembers 50 = .ok (.iload_n 1, 1) := by decide +kernel
theorem dX5_remembers_51 : decode cX5_remembers 51 = .ok (.aload_n 0, 1) := by decide +kernel
theorem dX5_remembers_52 : decode cX5_remembers 52 = .ok (.getfield 47, 3) := by decide +kernel
theorem dX5_remembers_55 : decode cX5_remembers 55 = .ok (.iload_n 1, 1) := by decide +kernel
theorem dX5_remembers_56 : decode cX5_remembers 56 = .ok (.iaload, 1) := by decide +kernel
theorem dX5_remembers_57 : decode cX5_remembers 57 = .ok (.iastore, 1) := by decide +kernel
theorem dX5_remembers_58 : decode cX5_remembers 58 = .ok (.aload_n 0, 1) := by decide +kernel
theorem dX5_remembers_59 : decode cX5_remembers 59 = .ok (.getfield 77, 3) := by decide +kernel
theorem dX5_remembers_62 : decode cX5_remembers 62 = .ok (.iload_n 1, 1) := by decide +kernel
theorem dX5_remembers_63 : decode cX5_remembers 63 = .ok (.aload_n 0, 1) := by decide +kernel
theorem dX5_remembers_64 : decode cX5_remembers 64 = .ok (.getfield 50, 3) := by decide +kernel
theorem dX5_remembers_67 : decode cX5_remembers 67 = .ok (.iload_n 1, 1) := by decide +kernel
theorem dX5_remembers_68 : decode cX5_remembers 68 = .ok (.iaload, 1) := by decide +kernel
theorem dX5_remembers_69 : decode cX5_remembers 69 = .ok (.iastore, 1) := by decide +kernel
theorem dX5_remembers_70 : decode cX5_remembers 70 = .ok (.iinc 1 1, 3) := by decide +kernel
theorem dX5_remembers_73 : decode cX5_remembers 73 = .ok (.goto (-59), 3) := by decide +kernel
theorem dX5_remembers_76 : decode cX5_remembers 76 = .ok (.aload_n 0, 1) := by decide +kernel
theorem dX5_remembers_77 : decode cX5_remembers 77 = .ok (.aload_n 0, 1) := by decide +kernel
theorem dX5_remembers_78 : decode cX5_remembers 78 = .ok (.getfield 144, 3) := by decide +kernel
theorem dX5_remembers_81 : decode cX5_remembers 81 = .ok (.iconst 1, 1) := by decide +kernel
theorem dX5_remembers_82 : decode cX5_remembers 82 = .ok (.iadd, 1) := by decide +kernel
theorem dX5_remembers_83 : decode cX5_remembers 83 = .ok (.putfield 168, 3) := by decide +kernel
theorem dX5_remembers_86 : decode cX5_remembers 86 = .ok (.aload_n 0, 1) := by decide +kernel
theorem dX5_remembers_87 : decode cX5_remembers 87 = .ok (.iconst 1, 1) := by decide +kernel
theorem dX5_remembers_88 : decode cX5_remembers 88 = .ok (.putfield 171, 3) := by decide +kernel
theorem dX5_remembers_91 : decode cX5_remembers 91 = .ok (.return_, 1) := by decide +kernel
theorem dX5_notes_0 : decode cX5_notes 0 = .ok (.aload_n 0, 1) := by decide +kernel
theorem dX5_notes_1 : decode cX5_notes 1 = .ok (.invokevirtual 175, 3) := by decide +kernel
theorem dX5_notes_4 : decode cX5_notes 4 = .ok (.aload_n 0, 1) := by decide +kernel
theorem dX5_notes_5 : decode cX5_notes 5 = .ok (.getfield 178, 3) := by decide +kernel
theorem dX5_notes_8 : decode cX5_notes 8 = .ok (.bipush 8, 2) := by decide +kernel
theorem dX5_notes_10 : decode cX5_notes 10 = .ok (.if_icmp .ne 43, 3) := by decide +kernel
theorem dX5_notes_13 : decode cX5_notes 13 = .ok (.iconst 0, 1) := by decide +kernel
theorem dX5_notes_14 : decode cX5_notes 14 = .ok (.istore_n 1, 1) := by decide +kernel
theorem dX5_notes_15 : decode cX5_notes 15 = .ok (.iload_n 1, 1) := by decide +kernel
theorem dX5_notes_16 : decode cX5_notes 16 = .ok (.sipush 476, 3) := by decide +kernel
theorem dX5_notes_19 : decode cX5_notes 19 = .ok (.if_icmp .ge 24, 3) := by decide +kernel
theorem dX5_notes_22 : decode cX5_notes 22 = .ok (.aload_n 0, 1) := by decide +kernel
theorem dX5_notes_23 : decode cX5_notes 23 = .ok (.getfield 59, 3) := by decide +kernel
theorem dX5_notes_26 : decode cX5_notes 26 = .ok (.iload_n 1, 1) := by decide +kernel
theorem dX5_notes_27 : decode cX5_notes 27 = .ok (.aload_n 0, 1) := by decide +kernel
theorem dX5_notes_28 : decode cX5_notes 28 = .ok (.getfield 59, 3) := by decide +kernel
theorem dX5_notes_31 : decode cX5_notes 31 = .ok (.iload_n 1, 1) := by decide +kernel
theorem dX5_notes_32 : decode cX5_notes 32 = .ok (.bipush 68, 2) := by decide +kernel
theorem dX5_notes_34 : decode cX5_notes 34 = .ok (.iadd, 1) := by decide +kernel
theorem dX5_notes_35 : decode cX5_notes 35 = .ok (.iaload, 1) := by decide +kernel
theorem dX5_notes_36 : decode cX5_notes 36 = .ok (.iastore, 1) := by decide +kernel
theorem dX5_notes_37 : decode cX5_notes 37 = .ok (.iinc 1 1, 3) := by decide +kernel
theorem dX5_notes_40 : decode cX5_notes 40 = .ok (.goto (-25), 3) := by decide +kernel
theorem dX5_notes_43 : decode cX5_notes 43 = .ok (.aload_n 0, 1) := by decide +kernel
theorem dX5_notes_44 : decode cX5_notes 44 = .ok (.dup, 1) := by decide +kernel
theorem dX5_notes_45 : decode cX5_notes 45 = .ok (.getfield 178, 3) := by decide +kernel
theorem dX5_notes_48 : decode cX5_notes 48 = .ok (.iconst 1, 1) := by decide +kernel
theorem dX5_notes_49 : decode cX5_notes 49 = .ok (.isub, 1) := by decide +kernel
theorem dX5_notes_50 : decode cX5_notes 50 = .ok (.putfield 178, 3) := by decide +kernel
theorem dX5_notes_53 : decode cX5_notes 53 = .ok (.aload_n 0, 1) := by decide +kernel
theorem dX5_notes_54 : decode cX5_notes 54 = .ok (.aload_n 0, 1) := by decide +kernel
theorem dX5_notes_55 : decode cX5_notes 55 = .ok (.getfield 59, 3) := by decide +kernel
theorem dX5_notes_58 : decode cX5_notes 58 = .ok (.bipush 68, 2) := by decide +kernel
theorem dX5_notes_60 : decode cX5_notes 60 = .ok (.aload_n 0, 1) := by decide +kernel
theorem dX5_notes_61 : decode cX5_notes 61 = .ok (.getfield 178, 3) := by decide +kernel
theorem dX5_notes_64 : decode cX5_notes 64 = .ok (.imul, 1) := by decide +kernel
theorem dX5_notes_65 : decode cX5_notes 65 = .ok (.invokevirtual 181, 3) := by decide +kernel
theorem dX5_notes_68 : decode cX5_notes 68 = .ok (.aload_n 0, 1) := by decide +kernel
theorem dX5_notes_69 : decode cX5_notes 69 = .ok (.dup, 1) := by decide +kernel
theorem dX5_notes_70 : decode cX5_notes 70 = .ok (.getfield 178, 3) := by decide +kernel
theorem dX5_notes_73 : decode cX5_notes 73 = .ok (.iconst 1, 1) := by decide +kernel
theorem dX5_notes_74 : decode cX5_notes 74 = .ok (.iadd, 1) := by decide +kernel
theorem dX5_notes_75 : decode cX5_notes 75 = .ok (.putfield 178, 3) := by decide +kernel
theorem dX5_notes_78 : decode cX5_notes 78 = .ok (.return_, 1) := by decide +kernel
theorem dX5_putsIn_0 : decode cX5_putsIn 0 = .ok (.aload_n 0, 1) := by decide +kernel
theorem dX5_putsIn_1 : decode cX5_putsIn 1 = .ok (.getfield 89, 3) := by decide +kernel
theorem dX5_putsIn_4 : decode cX5_putsIn 4 = .ok (.istore_n 3, 1) := by decide +kernel
theorem dX5_putsIn_5 : decode cX5_putsIn 5 = .ok (.iload_n 3, 1) := by decide +kernel
theorem dX5_putsIn_6 : decode cX5_putsIn 6 = .ok (.iload_n 1, 1) := by decide +kernel
theorem dX5_putsIn_7 : decode cX5_putsIn 7 = .ok (.if_icmp .le 23, 3) := by decide +kernel
theorem dX5_putsIn_10 : decode cX5_putsIn 10 = .ok (.aload_n 0, 1) := by decide +kernel
theorem dX5_putsIn_11 : decode cX5_putsIn 11 = .ok (.getfield 7, 3) := by decide +kernel
theorem dX5_putsIn_14 : decode cX5_putsIn 14 = .ok (.iload_n 3, 1) := by decide +kernel
theorem dX5_putsIn_15 : decode cX5_putsIn 15 = .ok (.aload_n 0, 1) := by decide +kernel
theorem dX5_putsIn_16 : decode cX5_putsIn 16 = .ok (.getfield 7, 3) := by decide +kernel
theorem dX5_putsIn_19 : decode cX5_putsIn 19 = .ok (.iload_n 3, 1) := by decide +kernel
theorem dX5_putsIn_20 : decode cX5_putsIn 20 = .ok (.iconst 1, 1) := by decide +kernel
theorem dX5_putsIn_21 : decode cX5_putsIn 21 = .ok (.isub, 1) := by decide +kernel
theorem dX5_putsIn_22 : decode cX5_putsIn 22 = .ok (.iaload, 1) := by decide +kernel
theorem dX5_putsIn_23 : decode cX5_putsIn 23 = .ok (.iastore, 1) := by decide +kernel
theorem dX5_putsIn_24 : decode cX5_putsIn 24 = .ok (.iinc 3 (-1), 3) := by decide +kernel
theorem dX5_putsIn_27 : decode cX5_putsIn 27 = .ok (.goto (-22), 3) := by decide +kernel
theorem dX5_putsIn_30 : decode cX5_putsIn 30 = .ok (.aload_n 0, 1) := by decide +kernel
theorem dX5_putsIn_31 : decode cX5_putsIn 31 = .ok (.getfield 7, 3) := by decide +kernel
theorem dX5_putsIn_34 : decode cX5_putsIn 34 = .ok (.iload_n 1, 1) := by decide +kernel
theorem dX5_putsIn_35 : decode cX5_putsIn 35 = .ok (.iload_n 2, 1) := by decide +kernel
theorem dX5_putsIn_36 : decode cX5_putsIn 36 = .ok (.iastore, 1) := by decide +kernel
theorem dX5_putsIn_37 : decode cX5_putsIn 37 = .ok (.aload_n 0, 1) := by decide +kernel
theorem dX5_putsIn_38 : decode cX5_putsIn 38 = .ok (.dup, 1) := by decide +kernel
theorem dX5_putsIn_39 : decode cX5_putsIn 39 = .ok (.getfield 89, 3) := by decide +kernel
theorem dX5_putsIn_42 : decode cX5_putsIn 42 = .ok (.iconst 1, 1) := by decide +kernel
theorem dX5_putsIn_43 : decode cX5_putsIn 43 = .ok (.iadd, 1) := by decide +kernel
theorem dX5_putsIn_44 : decode cX5_putsIn 44 = .ok (.putfield 89, 3) := by decide +kernel
theorem dX5_putsIn_47 : decode cX5_putsIn 47 = .ok (.iconst 0, 1) := by decide +kernel
theorem dX5_putsIn_48 : decode cX5_putsIn 48 = .ok (.istore_n 3, 1) := by decide +kernel
theorem dX5_putsIn_49 : decode cX5_putsIn 49 = .ok (.iload_n 3, 1) := by decide +kernel
theorem dX5_putsIn_50 : decode cX5_putsIn 50 = .ok (.aload_n 0, 1) := by decide +kernel
theorem dX5_putsIn_51 : decode cX5_putsIn 51 = .ok (.getfield 107, 3) := by decide +kernel
theorem dX5_putsIn_54 : decode cX5_putsIn 54 = .ok (.if_icmp .ge 57, 3) := by decide +kernel
theorem dX5_putsIn_57 : decode cX5_putsIn 57 = .ok (.aload_n 0, 1) := by decide +kernel
theorem dX5_putsIn_58 : decode cX5_putsIn 58 = .ok (.getfield 16, 3) := by decide +kernel
theorem dX5_putsIn_61 : decode cX5_putsIn 61 = .ok (.iload_n 3, 1) := by decide +kernel
theorem dX5_putsIn_62 : decode cX5_putsIn 62 = .ok (.dup2, 1) := by decide +kernel
theorem dX5_putsIn_63 : decode cX5_putsIn 63 = .ok (.iaload, 1) := by decide +kernel
theorem dX5_putsIn_64 : decode cX5_putsIn 64 = .ok (.iload_n 1, 1) := by decide +kernel
theorem dX5_putsIn_65 : decode cX5_putsIn 65 = .ok (.aload_n 0, 1) := by decide +kernel
theorem dX5_putsIn_66 : decode cX5_putsIn 66 = .ok (.getfield 16, 3) := by decide +kernel
theorem dX5_putsIn_69 : decode cX5_putsIn 69 = .ok (.iload_n 3, 1) := by decide +kernel
theorem dX5_putsIn_70 : decode cX5_putsIn 70 = .ok (.iaload, 1) := by decide +kernel
theorem dX5_putsIn_71 : decode cX5_putsIn 71 = .ok (.if_icmp .ge 7, 3) := by decide +kernel
theorem dX5_putsIn_74 : decode cX5_putsIn 74 = .ok (.iconst 1, 1) := by decide +kernel
theorem dX5_putsIn_75 : decode cX5_putsIn 75 = .ok (.goto 4, 3) := by decide +kernel
theorem dX5_putsIn_78 : decode cX5_putsIn 78 = .ok (.iconst 0, 1) := by decide +kernel
theorem dX5_putsIn_79 : decode cX5_putsIn 79 = .ok (.iadd, 1) := by decide +kernel
theorem dX5_putsIn_80 : decode cX5_putsIn 80 = .ok (.iastore, 1) := by decide +kernel
theorem dX5_putsIn_81 : decode cX5_putsIn 81 = .ok (.aload_n 0, 1) := by decide +kernel
theorem dX5_putsIn_82 : decode cX5_putsIn 82 = .ok (.getfield 13, 3) := by decide +kernel
theorem dX5_putsIn_85 : decode cX5_putsIn 85 = .ok (.iload_n 3, 1) := by decide +kernel
theorem dX5_putsIn_86 : decode cX5_putsIn 86 = .ok (.dup2, 1) := by decide +kernel
theorem dX5_putsIn_87 : decode cX5_putsIn 87 = .ok (.iaload, 1) := by decide +kernel
theorem dX5_putsIn_88 : decode cX5_putsIn 88 = .ok (.iload_n 1, 1) := by decide +kernel
theorem dX5_putsIn_89 : decode cX5_putsIn 89 = .ok (.aload_n 0, 1) := by decide +kernel
theorem dX5_putsIn_90 : decode cX5_putsIn 90 = .ok (.getfield 13, 3) := by decide +kernel
theorem dX5_putsIn_93 : decode cX5_putsIn 93 = .ok (.iload_n 3, 1) := by decide +kernel
theorem dX5_putsIn_94 : decode cX5_putsIn 94 = .ok (.iaload, 1) := by decide +kernel
theorem dX5_putsIn_95 : decode cX5_putsIn 95 = .ok (.if_icmp .gt 7, 3) := by decide +kernel
theorem dX5_putsIn_98 : decode cX5_putsIn 98 = .ok (.iconst 1, 1) := by decide +kernel
theorem dX5_putsIn_99 : decode cX5_putsIn 99 = .ok (.goto 4, 3) := by decide +kernel
theorem dX5_putsIn_102 : decode cX5_putsIn 102 = .ok (.iconst 0, 1) := by decide +kernel
theorem dX5_putsIn_103 : decode cX5_putsIn 103 = .ok (.iadd, 1) := by decide +kernel
theorem dX5_putsIn_104 : decode cX5_putsIn 104 = .ok (.iastore, 1) := by decide +kernel
theorem dX5_putsIn_105 : decode cX5_putsIn 105 = .ok (.iinc 3 1, 3) := by decide +kernel
theorem dX5_putsIn_108 : decode cX5_putsIn 108 = .ok (.goto (-59), 3) := by decide +kernel
theorem dX5_putsIn_111 : decode cX5_putsIn 111 = .ok (.iconst 0, 1) := by decide +kernel
theorem dX5_putsIn_112 : decode cX5_putsIn 112 = .ok (.istore_n 3, 1) := by decide +kernel
theorem dX5_putsIn_113 : decode cX5_putsIn 113 = .ok (.iload_n 3, 1) := by decide +kernel
theorem dX5_putsIn_114 : decode cX5_putsIn 114 = .ok (.aload_n 0, 1) := by decide +kernel
theorem dX5_putsIn_115 : decode cX5_putsIn 115 = .ok (.getfield 110, 3) := by decide +kernel
theorem dX5_putsIn_118 : decode cX5_putsIn 118 = .ok (.if_icmp .ge 33, 3) := by decide +kernel
theorem dX5_putsIn_121 : decode cX5_putsIn 121 = .ok (.aload_n 0, 1) := by decide +kernel
theorem dX5_putsIn_122 : decode cX5_putsIn 122 = .ok (.getfield 22, 3) := by decide +kernel
theorem dX5_putsIn_125 : decode cX5_putsIn 125 = .ok (.iload_n 3, 1) := by decide +kernel
theorem dX5_putsIn_126 : decode cX5_putsIn 126 = .ok (.dup2, 1) := by decide +kernel
theorem dX5_putsIn_127 : decode cX5_putsIn 127 = .ok (.iaload, 1) := by decide +kernel
theorem dX5_putsIn_128 : decode cX5_putsIn 128 = .ok (.iload_n 1, 1) := by decide +kernel
theorem dX5_putsIn_129 : decode cX5_putsIn 129 = .ok (.aload_n 0, 1) := by decide +kernel
theorem dX5_putsIn_130 : decode cX5_putsIn 130 = .ok (.getfield 22, 3) := by decide +kernel
theorem dX5_putsIn_133 : decode cX5_putsIn 133 = .ok (.iload_n 3, 1) := by decide +kernel
theorem dX5_putsIn_134 : decode cX5_putsIn 134 = .ok (.iaload, 1) := by decide +kernel
theorem dX5_putsIn_135 : decode cX5_putsIn 135 = .ok (.if_icmp .gt 7, 3) := by decide +kernel
theorem dX5_putsIn_138 : decode cX5_putsIn 138 = .ok (.iconst 1, 1) := by decide +kernel
theorem dX5_putsIn_139 : decode cX5_putsIn 139 = .ok (.goto 4, 3) := by decide +kernel
theorem dX5_putsIn_142 : decode cX5_putsIn 142 = .ok (.iconst 0, 1) := by decide +kernel
theorem dX5_putsIn_143 : decode cX5_putsIn 143 = .ok (.iadd, 1) := by decide +kernel
theorem dX5_putsIn_144 : decode cX5_putsIn 144 = .ok (.iastore, 1) := by decide +kernel
theorem dX5_putsIn_145 : decode cX5_putsIn 145 = .ok (.iinc 3 1, 3) := by decide +kernel
theorem dX5_putsIn_148 : decode cX5_putsIn 148 = .ok (.goto (-35), 3) := by decide +kernel
theorem dX5_putsIn_151 : decode cX5_putsIn 151 = .ok (.return_, 1) := by decide +kernel
theorem dX5_takesOut_0 : decode cX5_takesOut 0 = .ok (.aload_n 0, 1) := by decide +kernel
theorem dX5_takesOut_1 : decode cX5_takesOut 1 = .ok (.dup, 1) := by decide +kernel
theorem dX5_takesOut_2 : decode cX5_takesOut 2 = .ok (.getfield 89, 3) := by decide +kernel
theorem dX5_takesOut_5 : decode cX5_takesOut 5 = .ok (.iconst 1, 1) := by decide +kernel
theorem dX5_takesOut_6 : decode cX5_takesOut 6 = .ok (.isub, 1) := by decide +kernel
theorem dX5_takesOut_7 : decode cX5_takesOut 7 = .ok (.putfield 89, 3) := by decide +kernel
theorem dX5_takesOut_10 : decode cX5_takesOut 10 = .ok (.iload_n 1, 1) := by decide +kernel
theorem dX5_takesOut_11 : decode cX5_takesOut 11 = .ok (.istore_n 2, 1) := by decide +kernel
theorem dX5_takesOut_12 : decode cX5_takesOut 12 = .ok (.iload_n 2, 1) := by decide +kernel
theorem dX5_takesOut_13 : decode cX5_takesOut 13 = .ok (.aload_n 0, 1) := by decide +kernel
theorem dX5_takesOut_14 : decode cX5_takesOut 14 = .ok (.getfield 89, 3) := by decide +kernel
theorem dX5_takesOut_17 : decode cX5_takesOut 17 = .ok (.if_icmp .ge 23, 3) := by decide +kernel
theorem dX5_takesOut_20 : decode cX5_takesOut 20 = .ok (.aload_n 0, 1) := by decide +kernel
theorem dX5_takesOut_21 : decode cX5_takesOut 21 = .ok (.getfield 7, 3) := by decide +kernel
theorem dX5_takesOut_24 : decode cX5_takesOut 24 = .ok (.iload_n 2, 1) := by decide +kernel
theorem dX5_takesOut_25 : decode cX5_takesOut 25 = .ok (.aload_n 0, 1) := by decide +kernel
theorem dX5_takesOut_26 : decode cX5_takesOut 26 = .ok (.getfield 7, 3) := by decide +kernel
theorem dX5_takesOut_29 : decode cX5_takesOut 29 = .ok (.iload_n 2, 1) := by decide +kernel
theorem dX5_takesOut_30 : decode cX5_takesOut 30 = .ok (.iconst 1, 1) := by decide +kernel
theorem dX5_takesOut_31 : decode cX5_takesOut 31 = .ok (.iadd, 1) := by decide +kernel
theorem dX5_takesOut_32 : decode cX5_takesOut 32 = .ok (.iaload, 1) := by decide +kernel
theorem dX5_takesOut_33 : decode cX5_takesOut 33 = .ok (.iastore, 1) := by decide +kernel
theorem dX5_takesOut_34 : decode cX5_takesOut 34 = .ok (.iinc 2 1, 3) := by decide +kernel
theorem dX5_takesOut_37 : decode cX5_takesOut 37 = .ok (.goto (-25), 3) := by decide +kernel
theorem dX5_takesOut_40 : decode cX5_takesOut 40 = .ok (.aload_n 0, 1) := by decide +kernel
theorem dX5_takesOut_41 : decode cX5_takesOut 41 = .ok (.getfield 107, 3) := by decide +kernel
theorem dX5_takesOut_44 : decode cX5_takesOut 44 = .ok (.iconst 1, 1) := by decide +kernel
theorem dX5_takesOut_45 : decode cX5_takesOut 45 = .ok (.isub, 1) := by decide +kernel
theorem dX5_takesOut_46 : decode cX5_takesOut 46 = .ok (.istore_n 2, 1) := by decide +kernel
theorem dX5_takesOut_47 : decode cX5_takesOut 47 = .ok (.iload_n 2, 1) := by decide +kernel
theorem dX5_takesOut_48 : decode cX5_takesOut 48 = .ok (.ifCond .lt 77, 3) := by decide +kernel
theorem dX5_takesOut_51 : decode cX5_takesOut 51 = .ok (.aload_n 0, 1) := by decide +kernel
theorem dX5_takesOut_52 : decode cX5_takesOut 52 = .ok (.getfield 16, 3) := by decide +kernel
theorem dX5_takesOut_55 : decode cX5_takesOut 55 = .ok (.iload_n 2, 1) := by decide +kernel
theorem dX5_takesOut_56 : decode cX5_takesOut 56 = .ok (.dup2, 1) := by decide +kernel
theorem dX5_takesOut_57 : decode cX5_takesOut 57 = .ok (.iaload, 1) := by decide +kernel
theorem dX5_takesOut_58 : decode cX5_takesOut 58 = .ok (.iload_n 1, 1) := by decide +kernel
theorem dX5_takesOut_59 : decode cX5_takesOut 59 = .ok (.aload_n 0, 1) := by decide +kernel
theorem dX5_takesOut_60 : decode cX5_takesOut 60 = .ok (.getfield 16, 3) := by decide +kernel
theorem dX5_takesOut_63 : decode cX5_takesOut 63 = .ok (.iload_n 2, 1) := by decide +kernel
theorem dX5_takesOut_64 : decode cX5_takesOut 64 = .ok (.iaload, 1) := by decide +kernel
theorem dX5_takesOut_65 : decode cX5_takesOut 65 = .ok (.if_icmp .ge 7, 3) := by decide +kernel
theorem dX5_takesOut_68 : decode cX5_takesOut 68 = .ok (.iconst 1, 1) := by decide +kernel
theorem dX5_takesOut_69 : decode cX5_takesOut 69 = .ok (.goto 4, 3) := by decide +kernel
theorem dX5_takesOut_72 : decode cX5_takesOut 72 = .ok (.iconst 0, 1) := by decide +kernel
theorem dX5_takesOut_73 : decode cX5_takesOut 73 = .ok (.isub, 1) := by decide +kernel
theorem dX5_takesOut_74 : decode cX5_takesOut 74 = .ok (.iastore, 1) := by decide +kernel
theorem dX5_takesOut_75 : decode cX5_takesOut 75 = .ok (.aload_n 0, 1) := by decide +kernel
theorem dX5_takesOut_76 : decode cX5_takesOut 76 = .ok (.getfield 13, 3) := by decide +kernel
theorem dX5_takesOut_79 : decode cX5_takesOut 79 = .ok (.iload_n 2, 1) := by decide +kernel
theorem dX5_takesOut_80 : decode cX5_takesOut 80 = .ok (.dup2, 1) := by decide +kernel
theorem dX5_takesOut_81 : decode cX5_takesOut 81 = .ok (.iaload, 1) := by decide +kernel
theorem dX5_takesOut_82 : decode cX5_takesOut 82 = .ok (.iload_n 1, 1) := by decide +kernel
theorem dX5_takesOut_83 : decode cX5_takesOut 83 = .ok (.aload_n 0, 1) := by decide +kernel
theorem dX5_takesOut_84 : decode cX5_takesOut 84 = .ok (.getfield 13, 3) := by decide +kernel
theorem dX5_takesOut_87 : decode cX5_takesOut 87 = .ok (.iload_n 2, 1) := by decide +kernel
theorem dX5_takesOut_88 : decode cX5_takesOut 88 = .ok (.iaload, 1) := by decide +kernel
theorem dX5_takesOut_89 : decode cX5_takesOut 89 = .ok (.if_icmp .ge 7, 3) := by decide +kernel
theorem dX5_takesOut_92 : decode cX5_takesOut 92 = .ok (.iconst 1, 1) := by decide +kernel
theorem dX5_takesOut_93 : decode cX5_takesOut 93 = .ok (.goto 4, 3) := by decide +kernel
theorem dX5_takesOut_96 : decode cX5_takesOut 96 = .ok (.iconst 0, 1) := by decide +kernel
theorem dX5_takesOut_97 : decode cX5_takesOut 97 = .ok (.isub, 1) := by decide +kernel
theorem dX5_takesOut_98 : decode cX5_takesOut 98 = .ok (.iastore, 1) := by decide +kernel
theorem dX5_takesOut_99 : decode cX5_takesOut 99 = .ok (.aload_n 0, 1) := by decide +kernel
theorem dX5_takesOut_100 : decode cX5_takesOut 100 = .ok (.getfield 13, 3) := by decide +kernel
theorem dX5_takesOut_103 : decode cX5_takesOut 103 = .ok (.iload_n 2, 1) := by decide +kernel
theorem dX5_takesOut_104 : decode cX5_takesOut 104 = .ok (.iaload, 1) := by decide +kernel
theorem dX5_takesOut_105 : decode cX5_takesOut 105 = .ok (.aload_n 0, 1) := by decide +kernel
theorem dX5_takesOut_106 : decode cX5_takesOut 106 = .ok (.getfield 16, 3) := by decide +kernel
theorem dX5_takesOut_109 : decode cX5_takesOut 109 = .ok (.iload_n 2, 1) := by decide +kernel
theorem dX5_takesOut_110 : decode cX5_takesOut 110 = .ok (.iaload, 1) := by decide +kernel
theorem dX5_takesOut_111 : decode cX5_takesOut 111 = .ok (.if_icmp .ne 8, 3) := by decide +kernel
theorem dX5_takesOut_114 : decode cX5_takesOut 114 = .ok (.aload_n 0, 1) := by decide +kernel
theorem dX5_takesOut_115 : decode cX5_takesOut 115 = .ok (.iload_n 2, 1) := by decide +kernel
theorem dX5_takesOut_116 : decode cX5_takesOut 116 = .ok (.invokevirtual 185, 3) := by decide +kernel
theorem dX5_takesOut_119 : decode cX5_takesOut 119 = .ok (.iinc 2 (-1), 3) := by decide +kernel
theorem dX5_takesOut_122 : decode cX5_takesOut 122 = .ok (.goto (-75), 3) := by decide +kernel
theorem dX5_takesOut_125 : decode cX5_takesOut 125 = .ok (.aload_n 0, 1) := by decide +kernel
theorem dX5_takesOut_126 : decode cX5_takesOut 126 = .ok (.iload_n 1, 1) := by decide +kernel
theorem dX5_takesOut_127 : decode cX5_takesOut 127 = .ok (.invokevirtual 120, 3) := by decide +kernel
theorem dX5_takesOut_130 : decode cX5_takesOut 130 = .ok (.bipush (-4), 2) := by decide +kernel
theorem dX5_takesOut_132 : decode cX5_takesOut 132 = .ok (.if_icmp .eq 24, 3) := by decide +kernel
theorem dX5_takesOut_135 : decode cX5_takesOut 135 = .ok (.aload_n 0, 1) := by decide +kernel
theorem dX5_takesOut_136 : decode cX5_takesOut 136 = .ok (.iload_n 1, 1) := by decide +kernel
theorem dX5_takesOut_137 : decode cX5_takesOut 137 = .ok (.iconst 1, 1) := by decide +kernel
theorem dX5_takesOut_138 : decode cX5_takesOut 138 = .ok (.iadd, 1) := by decide +kernel
theorem dX5_takesOut_139 : decode cX5_takesOut 139 = .ok (.invokevirtual 120, 3) := by decide +kernel
theorem dX5_takesOut_142 : decode cX5_takesOut 142 = .ok (.bipush (-4), 2) := by decide +kernel
theorem dX5_takesOut_144 : decode cX5_takesOut 144 = .ok (.if_icmp .eq 12, 3) := by decide +kernel
theorem dX5_takesOut_147 : decode cX5_takesOut 147 = .ok (.aload_n 0, 1) := by decide +kernel
theorem dX5_takesOut_148 : decode cX5_takesOut 148 = .ok (.aload_n 0, 1) := by decide +kernel
theorem dX5_takesOut_149 : decode cX5_takesOut 149 = .ok (.iload_n 1, 1) := by decide +kernel
theorem dX5_takesOut_150 : decode cX5_takesOut 150 = .ok (.invokevirtual 120, 3) := by decide +kernel
theorem dX5_takesOut_153 : decode cX5_takesOut 153 = .ok (.invokevirtual 189, 3) := by decide +kernel
theorem dX5_takesOut_156 : decode cX5_takesOut 156 = .ok (.iconst 0, 1) := by decide +kernel
theorem dX5_takesOut_157 : decode cX5_takesOut 157 = .ok (.istore_n 2, 1) := by decide +kernel
theorem dX5_takesOut_158 : decode cX5_takesOut 158 = .ok (.iload_n 2, 1) := by decide +kernel
theorem dX5_takesOut_159 : decode cX5_takesOut 159 = .ok (.aload_n 0, 1) := by decide +kernel
theorem dX5_takesOut_160 : decode cX5_takesOut 160 = .ok (.getfield 110, 3) := by decide +kernel
theorem dX5_takesOut_163 : decode cX5_takesOut 163 = .ok (.if_icmp .ge 33, 3) := by decide +kernel
theorem dX5_takesOut_166 : decode cX5_takesOut 166 = .ok (.aload_n 0, 1) := by decide +kernel
theorem dX5_takesOut_167 : decode cX5_takesOut 167 = .ok (.getfield 22, 3) := by decide +kernel
theorem dX5_takesOut_170 : decode cX5_takesOut 170 = .ok (.iload_n 2, 1) := by decide +kernel
theorem dX5_takesOut_171 : decode cX5_takesOut 171 = .ok (.dup2, 1) := by decide +kernel
theorem dX5_takesOut_172 : decode cX5_takesOut 172 = .ok (.iaload, 1) := by decide +kernel
theorem dX5_takesOut_173 : decode cX5_takesOut 173 = .ok (.iload_n 1, 1) := by decide +kernel
theorem dX5_takesOut_174 : decode cX5_takesOut 174 = .ok (.aload_n 0, 1) := by decide +kernel
theorem dX5_takesOut_175 : decode cX5_takesOut 175 = .ok (.getfield 22, 3) := by decide +kernel
theorem dX5_takesOut_178 : decode cX5_takesOut 178 = .ok (.iload_n 2, 1) := by decide +kernel
theorem dX5_takesOut_179 : decode cX5_takesOut 179 = .ok (.iaload, 1) := by decide +kernel
theorem dX5_takesOut_180 : decode cX5_takesOut 180 = .ok (.if_icmp .ge 7, 3) := by decide +kernel
theorem dX5_takesOut_183 : decode cX5_takesOut 183 = .ok (.iconst 1, 1) := by decide +kernel
theorem dX5_takesOut_184 : decode cX5_takesOut 184 = .ok (.goto 4, 3) := by decide +kernel
theorem dX5_takesOut_187 : decode cX5_takesOut 187 = .ok (.iconst 0, 1) := by decide +kernel
theorem dX5_takesOut_188 : decode cX5_takesOut 188 = .ok (.isub, 1) := by decide +kernel
theorem dX5_takesOut_189 : decode cX5_takesOut 189 = .ok (.iastore, 1) := by decide +kernel
theorem dX5_takesOut_190 : decode cX5_takesOut 190 = .ok (.iinc 2 1, 3) := by decide +kernel
theorem dX5_takesOut_193 : decode cX5_takesOut 193 = .ok (.goto (-35), 3) := by decide +kernel
theorem dX5_takesOut_196 : decode cX5_takesOut 196 = .ok (.return_, 1) := by decide +kernel
theorem dX5_insert_0 : decode cX5_insert 0 = .ok (.aload_n 0, 1) := by decide +kernel
theorem dX5_insert_1 : decode cX5_insert 1 = .ok (.iload_n 1, 1) := by decide +kernel
theorem dX5_insert_2 : decode cX5_insert 2 = .ok (.invokevirtual 153, 3) := by decide +kernel
theorem dX5_insert_5 : decode cX5_insert 5 = .ok (.ifCond .eq 13, 3) := by decide +kernel
theorem dX5_insert_8 : decode cX5_insert 8 = .ok (.iload_n 2, 1) := by decide +kernel
theorem dX5_insert_9 : decode cX5_insert 9 = .ok (.iconst 0, 1) := by decide +kernel
theorem dX5_insert_10 : decode cX5_insert 10 = .ok (.bipush 27, 2) := by decide +kernel
theorem dX5_insert_12 : decode cX5_insert 12 = .ok (.invokestatic 103, 3) := by decide +kernel
theorem dX5_insert_15 : decode cX5_insert 15 = .ok (.ifCond .ne 5, 3) := by decide +kernel
theorem dX5_insert_18 : decode cX5_insert 18 = .ok (.iconst (-1), 1) := by decide +kernel
theorem dX5_insert_19 : decode cX5_insert 19 = .ok (.ireturn, 1) := by decide +kernel
theorem dX5_insert_20 : decode cX5_insert 20 = .ok (.aload_n 0, 1) := by decide +kernel
theorem dX5_insert_21 : decode cX5_insert 21 = .ok (.getfield 89, 3) := by decide +kernel
theorem dX5_insert_24 : decode cX5_insert 24 = .ok (.bipush 40, 2) := by decide +kernel
theorem dX5_insert_26 : decode cX5_insert 26 = .ok (.if_icmp .ne 6, 3) := by decide +kernel
theorem dX5_insert_29 : decode cX5_insert 29 = .ok (.bipush (-3), 2) := by decide +kernel
theorem dX5_insert_31 : decode cX5_insert 31 = .ok (.ireturn, 1) := by decide +kernel
theorem dX5_insert_32 : decode cX5_insert 32 = .ok (.aload_n 0, 1) := by decide +kernel
theorem dX5_insert_33 : decode cX5_insert 33 = .ok (.invokevirtual 192, 3) := by decide +kernel
theorem dX5_insert_36 : decode cX5_insert 36 = .ok (.aload_n 0, 1) := by decide +kernel
theorem dX5_insert_37 : decode cX5_insert 37 = .ok (.iload_n 1, 1) := by decide +kernel
theorem dX5_insert_38 : decode cX5_insert 38 = .ok (.iload_n 2, 1) := by decide +kernel
theorem dX5_insert_39 : decode cX5_insert 39 = .ok (.invokevirtual 195, 3) := by decide +kernel
theorem dX5_insert_42 : decode cX5_insert 42 = .ok (.aload_n 0, 1) := by decide +kernel
theorem dX5_insert_43 : decode cX5_insert 43 = .ok (.getfield 89, 3) := by decide +kernel
theorem dX5_insert_46 : decode cX5_insert 46 = .ok (.ireturn, 1) := by decide +kernel
theorem dX5_erase_0 : decode cX5_erase 0 = .ok (.aload_n 0, 1) := by decide +kernel
theorem dX5_erase_1 : decode cX5_erase 1 = .ok (.iload_n 1, 1) := by decide +kernel
theorem dX5_erase_2 : decode cX5_erase 2 = .ok (.invokevirtual 199, 3) := by decide +kernel
theorem dX5_erase_5 : decode cX5_erase 5 = .ok (.ifCond .ne 5, 3) := by decide +kernel
theorem dX5_erase_8 : decode cX5_erase 8 = .ok (.iconst (-1), 1) := by decide +kernel
theorem dX5_erase_9 : decode cX5_erase 9 = .ok (.ireturn, 1) := by decide +kernel
theorem dX5_erase_10 : decode cX5_erase 10 = .ok (.aload_n 0, 1) := by decide +kernel
theorem dX5_erase_11 : decode cX5_erase 11 = .ok (.invokevirtual 192, 3) := by decide +kernel
theorem dX5_erase_14 : decode cX5_erase 14 = .ok (.aload_n 0, 1) := by decide +kernel
theorem dX5_erase_15 : decode cX5_erase 15 = .ok (.getfield 7, 3) := by decide +kernel
theorem dX5_erase_18 : decode cX5_erase 18 = .ok (.iload_n 1, 1) := by decide +kernel
theorem dX5_erase_19 : decode cX5_erase 19 = .ok (.iaload, 1) := by decide +kernel
theorem dX5_erase_20 : decode cX5_erase 20 = .ok (.istore_n 2, 1) := by decide +kernel
theorem dX5_erase_21 : decode cX5_erase 21 = .ok (.aload_n 0, 1) := by decide +kernel
theorem dX5_erase_22 : decode cX5_erase 22 = .ok (.iload_n 1, 1) := by decide +kernel
theorem dX5_erase_23 : decode cX5_erase 23 = .ok (.invokevirtual 202, 3) := by decide +kernel
theorem dX5_erase_26 : decode cX5_erase 26 = .ok (.iload_n 2, 1) := by decide +kernel
theorem dX5_erase_27 : decode cX5_erase 27 = .ok (.ireturn, 1) := by decide +kernel
theorem dX5_toggle_0 : decode cX5_toggle 0 = .ok (.aload_n 0, 1) := by decide +kernel
theorem dX5_toggle_1 : decode cX5_toggle 1 = .ok (.iload_n 1, 1) := by decide +kernel
theorem dX5_toggle_2 : decode cX5_toggle 2 = .ok (.invokevirtual 156, 3) := by decide +kernel
theorem dX5_toggle_5 : decode cX5_toggle 5 = .ok (.ifCond .ne 5, 3) := by decide +kernel
theorem dX5_toggle_8 : decode cX5_toggle 8 = .ok (.iconst (-1), 1) := by decide +kernel
theorem dX5_toggle_9 : decode cX5_toggle 9 = .ok (.ireturn, 1) := by decide +kernel
theorem dX5_toggle_10 : decode cX5_toggle 10 = .ok (.aload_n 0, 1) := by decide +kernel
theorem dX5_toggle_11 : decode cX5_toggle 11 = .ok (.invokevirtual 192, 3) := by decide +kernel
theorem dX5_toggle_14 : decode cX5_toggle 14 = .ok (.aload_n 0, 1) := by decide +kernel
theorem dX5_toggle_15 : decode cX5_toggle 15 = .ok (.getfield 19, 3) := by decide +kernel
theorem dX5_toggle_18 : decode cX5_toggle 18 = .ok (.iload_n 1, 1) := by decide +kernel
theorem dX5_toggle_19 : decode cX5_toggle 19 = .ok (.iconst 1, 1) := by decide +kernel
theorem dX5_toggle_20 : decode cX5_toggle 20 = .ok (.aload_n 0, 1) := by decide +kernel
theorem dX5_toggle_21 : decode cX5_toggle 21 = .ok (.getfield 19, 3) := by decide +kernel
theorem dX5_toggle_24 : decode cX5_toggle 24 = .ok (.iload_n 1, 1) := by decide +kernel
theorem dX5_toggle_25 : decode cX5_toggle 25 = .ok (.iaload, 1) := by decide +kernel
theorem dX5_toggle_26 : decode cX5_toggle 26 = .ok (.isub, 1) := by decide +kernel
theorem dX5_toggle_27 : decode cX5_toggle 27 = .ok (.iastore, 1) := by decide +kernel
theorem dX5_toggle_28 : decode cX5_toggle 28 = .ok (.aload_n 0, 1) := by decide +kernel
theorem dX5_toggle_29 : decode cX5_toggle 29 = .ok (.getfield 19, 3) := by decide +kernel
theorem dX5_toggle_32 : decode cX5_toggle 32 = .ok (.iload_n 1, 1) := by decide +kernel
theorem dX5_toggle_33 : decode cX5_toggle 33 = .ok (.iaload, 1) := by decide +kernel
theorem dX5_toggle_34 : decode cX5_toggle 34 = .ok (.ireturn, 1) := by decide +kernel
theorem dX5_make_0 : decode cX5_make 0 = .ok (.iload_n 1, 1) := by decide +kernel
theorem dX5_make_1 : decode cX5_make 1 = .ok (.iconst 0, 1) := by decide +kernel
theorem dX5_make_2 : decode cX5_make 2 = .ok (.aload_n 0, 1) := by decide +kernel
theorem dX5_make_3 : decode cX5_make 3 = .ok (.getfield 89, 3) := by decide +kernel
theorem dX5_make_6 : decode cX5_make 6 = .ok (.invokestatic 103, 3) := by decide +kernel
theorem dX5_make_9 : decode cX5_make 9 = .ok (.ifCond .eq 16, 3) := by decide +kernel
theorem dX5_make_12 : decode cX5_make 12 = .ok (.iload_n 2, 1) := by decide +kernel
theorem dX5_make_13 : decode cX5_make 13 = .ok (.iload_n 1, 1) := by decide +kernel
theorem dX5_make_14 : decode cX5_make 14 = .ok (.if_icmp .le 11, 3) := by decide +kernel
theorem dX5_make_17 : decode cX5_make 17 = .ok (.iload_n 2, 1) := by decide +kernel
theorem dX5_make_18 : decode cX5_make 18 = .ok (.aload_n 0, 1) := by decide +kernel
theorem dX5_make_19 : decode cX5_make 19 = .ok (.getfield 89, 3) := by decide +kernel
theorem dX5_make_22 : decode cX5_make 22 = .ok (.if_icmp .le 5, 3) := by decide +kernel
theorem dX5_make_25 : decode cX5_make 25 = .ok (.iconst (-1), 1) := by decide +kernel
theorem dX5_make_26 : decode cX5_make 26 = .ok (.ireturn, 1) := by decide +kernel
theorem dX5_make_27 : decode cX5_make 27 = .ok (.aload_n 0, 1) := by decide +kernel
theorem dX5_make_28 : decode cX5_make 28 = .ok (.iload_n 1, 1) := by decide +kernel
theorem dX5_make_29 : decode cX5_make 29 = .ok (.iload_n 2, 1) := by decide +kernel
theorem dX5_make_30 : decode cX5_make 30 = .ok (.invokevirtual 205, 3) := by decide +kernel
theorem dX5_make_33 : decode cX5_make 33 = .ok (.ifCond .ne 6, 3) := by decide +kernel
theorem dX5_make_36 : decode cX5_make 36 = .ok (.bipush (-2), 2) := by decide +kernel
theorem dX5_make_38 : decode cX5_make 38 = .ok (.ireturn, 1) := by decide +kernel
theorem dX5_make_39 : decode cX5_make 39 = .ok (.aload_n 0, 1) := by decide +kernel
theorem dX5_make_40 : decode cX5_make 40 = .ok (.getfield 107, 3) := by decide +kernel
theorem dX5_make_43 : decode cX5_make 43 = .ok (.iconst 4, 1) := by decide +kernel
theorem dX5_make_44 : decode cX5_make 44 = .ok (.if_icmp .ne 6, 3) := by decide +kernel
theorem dX5_make_47 : decode cX5_make 47 = .ok (.bipush (-3), 2) := by decide +kernel
theorem dX5_make_49 : decode cX5_make 49 = .ok (.ireturn, 1) := by decide +kernel
theorem dX5_make_50 : decode cX5_make 50 = .ok (.aload_n 0, 1) := by decide +kernel
theorem dX5_make_51 : decode cX5_make 51 = .ok (.invokevirtual 192, 3) := by decide +kernel
theorem dX5_make_54 : decode cX5_make 54 = .ok (.aload_n 0, 1) := by decide +kernel
theorem dX5_make_55 : decode cX5_make 55 = .ok (.iload_n 1, 1) := by decide +kernel
theorem dX5_make_56 : decode cX5_make 56 = .ok (.iload_n 2, 1) := by decide +kernel
theorem dX5_make_57 : decode cX5_make 57 = .ok (.iconst 1, 1) := by decide +kernel
theorem dX5_make_58 : decode cX5_make 58 = .ok (.invokevirtual 92, 3) := by decide +kernel
theorem dX5_make_61 : decode cX5_make 61 = .ok (.ireturn, 1) := by decide +kernel
theorem dX5_unfold_0 : decode cX5_unfold 0 = .ok (.aload_n 0, 1) := by decide +kernel
theorem dX5_unfold_1 : decode cX5_unfold 1 = .ok (.iload_n 1, 1) := by decide +kernel
theorem dX5_unfold_2 : decode cX5_unfold 2 = .ok (.invokevirtual 156, 3) := by decide +kernel
theorem dX5_unfold_5 : decode cX5_unfold 5 = .ok (.ifCond .ne 5, 3) := by decide +kernel
theorem dX5_unfold_8 : decode cX5_unfold 8 = .ok (.iconst (-1), 1) := by decide +kernel
theorem dX5_unfold_9 : decode cX5_unfold 9 = .ok (.ireturn, 1) := by decide +kernel
theorem dX5_unfold_10 : decode cX5_unfold 10 = .ok (.aload_n 0, 1) := by decide +kernel
theorem dX5_unfold_11 : decode cX5_unfold 11 = .ok (.invokevirtual 192, 3) := by decide +kernel
theorem dX5_unfold_14 : decode cX5_unfold 14 = .ok (.aload_n 0, 1) := by decide +kernel
theorem dX5_unfold_15 : decode cX5_unfold 15 = .ok (.iload_n 1, 1) := by decide +kernel
theorem dX5_unfold_16 : decode cX5_unfold 16 = .ok (.invokevirtual 185, 3) := by decide +kernel
theorem dX5_unfold_19 : decode cX5_unfold 19 = .ok (.aload_n 0, 1) := by decide +kernel
theorem dX5_unfold_20 : decode cX5_unfold 20 = .ok (.getfield 107, 3) := by decide +kernel
theorem dX5_unfold_23 : decode cX5_unfold 23 = .ok (.ireturn, 1) := by decide +kernel
theorem dX5_set_0 : decode cX5_set 0 = .ok (.aload_n 0, 1) := by decide +kernel
theorem dX5_set_1 : decode cX5_set 1 = .ok (.iload_n 1, 1) := by decide +kernel
theorem dX5_set_2 : decode cX5_set 2 = .ok (.invokevirtual 153, 3) := by decide +kernel
theorem dX5_set_5 : decode cX5_set 5 = .ok (.ifCond .eq 12, 3) := by decide +kernel
theorem dX5_set_8 : decode cX5_set 8 = .ok (.iload_n 2, 1) := by decide +kernel
theorem dX5_set_9 : decode cX5_set 9 = .ok (.iconst 1, 1) := by decide +kernel
theorem dX5_set_10 : decode cX5_set 10 = .ok (.iconst 5, 1) := by decide +kernel
theorem dX5_set_11 : decode cX5_set 11 = .ok (.invokestatic 103, 3) := by decide +kernel
theorem dX5_set_14 : decode cX5_set 14 = .ok (.ifCond .ne 5, 3) := by decide +kernel
theorem dX5_set_17 : decode cX5_set 17 = .ok (.iconst (-1), 1) := by decide +kernel
theorem dX5_set_18 : decode cX5_set 18 = .ok (.ireturn, 1) := by decide +kernel
theorem dX5_set_19 : decode cX5_set 19 = .ok (.aload_n 0, 1) := by decide +kernel
theorem dX5_set_20 : decode cX5_set 20 = .ok (.iload_n 1, 1) := by decide +kernel
theorem dX5_set_21 : decode cX5_set 21 = .ok (.invokevirtual 120, 3) := by decide +kernel
theorem dX5_set_24 : decode cX5_set 24 = .ok (.bipush (-4), 2) := by decide +kernel
theorem dX5_set_26 : decode cX5_set 26 = .ok (.if_icmp .eq 6, 3) := by decide +kernel
theorem dX5_set_29 : decode cX5_set 29 = .ok (.bipush (-2), 2) := by decide +kernel
theorem dX5_set_31 : decode cX5_set 31 = .ok (.ireturn, 1) := by decide +kernel
theorem dX5_set_32 : decode cX5_set 32 = .ok (.aload_n 0, 1) := by decide +kernel
theorem dX5_set_33 : decode cX5_set 33 = .ok (.getfield 110, 3) := by decide +kernel
theorem dX5_set_36 : decode cX5_set 36 = .ok (.iconst 4, 1) := by decide +kernel
theorem dX5_set_37 : decode cX5_set 37 = .ok (.if_icmp .ne 6, 3) := by decide +kernel
theorem dX5_set_40 : decode cX5_set 40 = .ok (.bipush (-3), 2) := by decide +kernel
theorem dX5_set_42 : decode cX5_set 42 = .ok (.ireturn, 1) := by decide +kernel
theorem dX5_set_43 : decode cX5_set 43 = .ok (.aload_n 0, 1) := by decide +kernel
theorem dX5_set_44 : decode cX5_set 44 = .ok (.invokevirtual 192, 3) := by decide +kernel
theorem dX5_set_47 : decode cX5_set 47 = .ok (.aload_n 0, 1) := by decide +kernel
theorem dX5_set_48 : decode cX5_set 48 = .ok (.iload_n 1, 1) := by decide +kernel
theorem dX5_set_49 : decode cX5_set 49 = .ok (.iload_n 2, 1) := by decide +kernel
theorem dX5_set_50 : decode cX5_set 50 = .ok (.invokevirtual 96, 3) := by decide +kernel
theorem dX5_set_53 : decode cX5_set 53 = .ok (.ireturn, 1) := by decide +kernel
theorem dX5_unset_0 : decode cX5_unset 0 = .ok (.aload_n 0, 1) := by decide +kernel
theorem dX5_unset_1 : decode cX5_unset 1 = .ok (.iload_n 1, 1) := by decide +kernel
theorem dX5_unset_2 : decode cX5_unset 2 = .ok (.invokevirtual 159, 3) := by decide +kernel
theorem dX5_unset_5 : decode cX5_unset 5 = .ok (.ifCond .ne 5, 3) := by decide +kernel
theorem dX5_unset_8 : decode cX5_unset 8 = .ok (.iconst (-1), 1) := by decide +kernel
theorem dX5_unset_9 : decode cX5_unset 9 = .ok (.ireturn, 1) := by decide +kernel
theorem dX5_unset_10 : decode cX5_unset 10 = .ok (.aload_n 0, 1) := by decide +kernel
theorem dX5_unset_11 : decode cX5_unset 11 = .ok (.invokevirtual 192, 3) := by decide +kernel
theorem dX5_unset_14 : decode cX5_unset 14 = .ok (.aload_n 0, 1) := by decide +kernel
theorem dX5_unset_15 : decode cX5_unset 15 = .ok (.getfield 25, 3) := by decide +kernel
theorem dX5_unset_18 : decode cX5_unset 18 = .ok (.iload_n 1, 1) := by decide +kernel
theorem dX5_unset_19 : decode cX5_unset 19 = .ok (.iaload, 1) := by decide +kernel
theorem dX5_unset_20 : decode cX5_unset 20 = .ok (.istore_n 2, 1) := by decide +kernel
theorem dX5_unset_21 : decode cX5_unset 21 = .ok (.aload_n 0, 1) := by decide +kernel
theorem dX5_unset_22 : decode cX5_unset 22 = .ok (.iload_n 1, 1) := by decide +kernel
theorem dX5_unset_23 : decode cX5_unset 23 = .ok (.invokevirtual 189, 3) := by decide +kernel
theorem dX5_unset_26 : decode cX5_unset 26 = .ok (.iload_n 2, 1) := by decide +kernel
theorem dX5_unset_27 : decode cX5_unset 27 = .ok (.ireturn, 1) := by decide +kernel
theorem dX5_isWide_0 : decode cX5_isWide 0 = .ok (.iload_n 0, 1) := by decide +kernel
theorem dX5_isWide_1 : decode cX5_isWide 1 = .ok (.iconst 0, 1) := by decide +kernel
theorem dX5_isWide_2 : decode cX5_isWide 2 = .ok (.iconst 2, 1) := by decide +kernel
theorem dX5_isWide_3 : decode cX5_isWide 3 = .ok (.invokestatic 103, 3) := by decide +kernel
theorem dX5_isWide_6 : decode cX5_isWide 6 = .ok (.ifCond .eq 26, 3) := by decide +kernel
theorem dX5_isWide_9 : decode cX5_isWide 9 = .ok (.iload_n 1, 1) := by decide +kernel
theorem dX5_isWide_10 : decode cX5_isWide 10 = .ok (.iconst 4, 1) := by decide +kernel
theorem dX5_isWide_11 : decode cX5_isWide 11 = .ok (.bipush 20, 2) := by decide +kernel
theorem dX5_isWide_13 : decode cX5_isWide 13 = .ok (.invokestatic 103, 3) := by decide +kernel
theorem dX5_isWide_16 : decode cX5_isWide 16 = .ok (.ifCond .eq 16, 3) := by decide +kernel
theorem dX5_isWide_19 : decode cX5_isWide 19 = .ok (.iload_n 2, 1) := by decide +kernel
theorem dX5_isWide_20 : decode cX5_isWide 20 = .ok (.iconst 0, 1) := by decide +kernel
theorem dX5_isWide_21 : decode cX5_isWide 21 = .ok (.iconst 3, 1) := by decide +kernel
theorem dX5_isWide_22 : decode cX5_isWide 22 = .ok (.invokestatic 103, 3) := by decide +kernel
theorem dX5_isWide_25 : decode cX5_isWide 25 = .ok (.ifCond .eq 7, 3) := by decide +kernel
theorem dX5_isWide_28 : decode cX5_isWide 28 = .ok (.iconst 1, 1) := by decide +kernel
theorem dX5_isWide_29 : decode cX5_isWide 29 = .ok (.goto 4, 3) := by decide +kernel
theorem dX5_isWide_32 : decode cX5_isWide 32 = .ok (.iconst 0, 1) := by decide +kernel
theorem dX5_isWide_33 : decode cX5_isWide 33 = .ok (.ireturn, 1) := by decide +kernel
theorem dX5_wide_0 : decode cX5_wide 0 = .ok (.iload_n 1, 1) := by decide +kernel
theorem dX5_wide_1 : decode cX5_wide 1 = .ok (.iload_n 2, 1) := by decide +kernel
theorem dX5_wide_2 : decode cX5_wide 2 = .ok (.iload_n 3, 1) := by decide +kernel
theorem dX5_wide_3 : decode cX5_wide 3 = .ok (.invokestatic 208, 3) := by decide +kernel
theorem dX5_wide_6 : decode cX5_wide 6 = .ok (.ifCond .ne 5, 3) := by decide +kernel
theorem dX5_wide_9 : decode cX5_wide 9 = .ok (.iconst (-1), 1) := by decide +kernel
theorem dX5_wide_10 : decode cX5_wide 10 = .ok (.ireturn, 1) := by decide +kernel
theorem dX5_wide_11 : decode cX5_wide 11 = .ok (.aload_n 0, 1) := by decide +kernel
theorem dX5_wide_12 : decode cX5_wide 12 = .ok (.getfield 28, 3) := by decide +kernel
theorem dX5_wide_15 : decode cX5_wide 15 = .ok (.iload_n 1, 1) := by decide +kernel
theorem dX5_wide_16 : decode cX5_wide 16 = .ok (.if_icmp .ne 22, 3) := by decide +kernel
theorem dX5_wide_19 : decode cX5_wide 19 = .ok (.aload_n 0, 1) := by decide +kernel
theorem dX5_wide_20 : decode cX5_wide 20 = .ok (.getfield 32, 3) := by decide +kernel
theorem dX5_wide_23 : decode cX5_wide 23 = .ok (.iload_n 2, 1) := by decide +kernel
theorem dX5_wide_24 : decode cX5_wide 24 = .ok (.if_icmp .ne 14, 3) := by decide +kernel
theorem dX5_wide_27 : decode cX5_wide 27 = .ok (.aload_n 0, 1) := by decide +kernel
theorem dX5_wide_28 : decode cX5_wide 28 = .ok (.getfield 100, 3) := by decide +kernel
theorem dX5_wide_31 : decode cX5_wide 31 = .ok (.iload_n 3, 1) := by decide +kernel
theorem dX5_wide_32 : decode cX5_wide 32 = .ok (.if_icmp .ne 6, 3) := by decide +kernel
theorem dX5_wide_35 : decode cX5_wide 35 = .ok (.bipush (-2), 2) := by decide +kernel
theorem dX5_wide_37 : decode cX5_wide 37 = .ok (.ireturn, 1) := by decide +kernel
theorem dX5_wide_38 : decode cX5_wide 38 = .ok (.aload_n 0, 1) := by decide +kernel
theorem dX5_wide_39 : decode cX5_wide 39 = .ok (.invokevirtual 192, 3) := by decide +kernel
theorem dX5_wide_42 : decode cX5_wide 42 = .ok (.aload_n 0, 1) := by decide +kernel
theorem dX5_wide_43 : decode cX5_wide 43 = .ok (.iload_n 1, 1) := by decide +kernel
theorem dX5_wide_44 : decode cX5_wide 44 = .ok (.putfield 28, 3) := by decide +kernel
theorem dX5_wide_47 : decode cX5_wide 47 = .ok (.aload_n 0, 1) := by decide +kernel
theorem dX5_wide_48 : decode cX5_wide 48 = .ok (.iload_n 2, 1) := by decide +kernel
theorem dX5_wide_49 : decode cX5_wide 49 = .ok (.putfield 32, 3) := by decide +kernel
theorem dX5_wide_52 : decode cX5_wide 52 = .ok (.aload_n 0, 1) := by decide +kernel
theorem dX5_wide_53 : decode cX5_wide 53 = .ok (.iload_n 3, 1) := by decide +kernel
theorem dX5_wide_54 : decode cX5_wide 54 = .ok (.putfield 100, 3) := by decide +kernel
theorem dX5_wide_57 : decode cX5_wide 57 = .ok (.iconst 1, 1) := by decide +kernel
theorem dX5_wide_58 : decode cX5_wide 58 = .ok (.ireturn, 1) := by decide +kernel
theorem dX5_tabs_0 : decode cX5_tabs 0 = .ok (.iload_n 1, 1) := by decide +kernel
theorem dX5_tabs_1 : decode cX5_tabs 1 = .ok (.iconst 1, 1) := by decide +kernel
theorem dX5_tabs_2 : decode cX5_tabs 2 = .ok (.bipush 8, 2) := by decide +kernel
theorem dX5_tabs_4 : decode cX5_tabs 4 = .ok (.invokestatic 103, 3) := by decide +kernel
theorem dX5_tabs_7 : decode cX5_tabs 7 = .ok (.ifCond .ne 5, 3) := by decide +kernel
theorem dX5_tabs_10 : decode cX5_tabs 10 = .ok (.iconst (-1), 1) := by decide +kernel
theorem dX5_tabs_11 : decode cX5_tabs 11 = .ok (.ireturn, 1) := by decide +kernel
theorem dX5_tabs_12 : decode cX5_tabs 12 = .ok (.aload_n 0, 1) := by decide +kernel
theorem dX5_tabs_13 : decode cX5_tabs 13 = .ok (.getfield 35, 3) := by decide +kernel
theorem dX5_tabs_16 : decode cX5_tabs 16 = .ok (.istore_n 2, 1) := by decide +kernel
theorem dX5_tabs_17 : decode cX5_tabs 17 = .ok (.iload_n 2, 1) := by decide +kernel
theorem dX5_tabs_18 : decode cX5_tabs 18 = .ok (.iload_n 1, 1) := by decide +kernel
theorem dX5_tabs_19 : decode cX5_tabs 19 = .ok (.if_icmp .ne 6, 3) := by decide +kernel
theorem dX5_tabs_22 : decode cX5_tabs 22 = .ok (.bipush (-2), 2) := by decide +kernel
theorem dX5_tabs_24 : decode cX5_tabs 24 = .ok (.ireturn, 1) := by decide +kernel
theorem dX5_tabs_25 : decode cX5_tabs 25 = .ok (.aload_n 0, 1) := by decide +kernel
theorem dX5_tabs_26 : decode cX5_tabs 26 = .ok (.invokevirtual 192, 3) := by decide +kernel
theorem dX5_tabs_29 : decode cX5_tabs 29 = .ok (.aload_n 0, 1) := by decide +kernel
theorem dX5_tabs_30 : decode cX5_tabs 30 = .ok (.iload_n 1, 1) := by decide +kernel
theorem dX5_tabs_31 : decode cX5_tabs 31 = .ok (.putfield 35, 3) := by decide +kernel
theorem dX5_tabs_34 : decode cX5_tabs 34 = .ok (.iload_n 2, 1) := by decide +kernel
theorem dX5_tabs_35 : decode cX5_tabs 35 = .ok (.ireturn, 1) := by decide +kernel
theorem dX5_undo_0 : decode cX5_undo 0 = .ok (.aload_n 0, 1) := by decide +kernel
theorem dX5_undo_1 : decode cX5_undo 1 = .ok (.getfield 178, 3) := by decide +kernel
theorem dX5_undo_4 : decode cX5_undo 4 = .ok (.ifCond .ne 6, 3) := by decide +kernel
theorem dX5_undo_7 : decode cX5_undo 7 = .ok (.bipush (-2), 2) := by decide +kernel
theorem dX5_undo_9 : decode cX5_undo 9 = .ok (.ireturn, 1) := by decide +kernel
theorem dX5_undo_10 : decode cX5_undo 10 = .ok (.aload_n 0, 1) := by decide +kernel
theorem dX5_undo_11 : decode cX5_undo 11 = .ok (.invokevirtual 175, 3) := by decide +kernel
theorem dX5_undo_14 : decode cX5_undo 14 = .ok (.aload_n 0, 1) := by decide +kernel
theorem dX5_undo_15 : decode cX5_undo 15 = .ok (.dup, 1) := by decide +kernel
theorem dX5_undo_16 : decode cX5_undo 16 = .ok (.getfield 178, 3) := by decide +kernel
theorem dX5_undo_19 : decode cX5_undo 19 = .ok (.iconst 1, 1) := by decide +kernel
theorem dX5_undo_20 : decode cX5_undo 20 = .ok (.isub, 1) := by decide +kernel
theorem dX5_undo_21 : decode cX5_undo 21 = .ok (.putfield 178, 3) := by decide +kernel
theorem dX5_undo_24 : decode cX5_undo 24 = .ok (.aload_n 0, 1) := by decide +kernel
theorem dX5_undo_25 : decode cX5_undo 25 = .ok (.aload_n 0, 1) := by decide +kernel
theorem dX5_undo_26 : decode cX5_undo 26 = .ok (.getfield 59, 3) := by decide +kernel
theorem dX5_undo_29 : decode cX5_undo 29 = .ok (.bipush 68, 2) := by decide +kernel
theorem dX5_undo_31 : decode cX5_undo 31 = .ok (.aload_n 0, 1) := by decide +kernel
theorem dX5_undo_32 : decode cX5_undo 32 = .ok (.getfield 178, 3) := by decide +kernel
theorem dX5_undo_35 : decode cX5_undo 35 = .ok (.imul, 1) := by decide +kernel
theorem dX5_undo_36 : decode cX5_undo 36 = .ok (.invokevirtual 211, 3) := by decide +kernel
theorem dX5_undo_39 : decode cX5_undo 39 = .ok (.aload_n 0, 1) := by decide +kernel
theorem dX5_undo_40 : decode cX5_undo 40 = .ok (.getfield 178, 3) := by decide +kernel
theorem dX5_undo_43 : decode cX5_undo 43 = .ok (.ireturn, 1) := by decide +kernel
theorem dX5_keep_0 : decode cX5_keep 0 = .ok (.aload_n 0, 1) := by decide +kernel
theorem dX5_keep_1 : decode cX5_keep 1 = .ok (.getfield 214, 3) := by decide +kernel
theorem dX5_keep_4 : decode cX5_keep 4 = .ok (.iconst 2, 1) := by decide +kernel
theorem dX5_keep_5 : decode cX5_keep 5 = .ok (.if_icmp .ne 6, 3) := by decide +kernel
theorem dX5_keep_8 : decode cX5_keep 8 = .ok (.bipush (-3), 2) := by decide +kernel
theorem dX5_keep_10 : decode cX5_keep 10 = .ok (.ireturn, 1) := by decide +kernel
theorem dX5_keep_11 : decode cX5_keep 11 = .ok (.aload_n 0, 1) := by decide +kernel
theorem dX5_keep_12 : decode cX5_keep 12 = .ok (.aload_n 0, 1) := by decide +kernel
theorem dX5_keep_13 : decode cX5_keep 13 = .ok (.getfield 62, 3) := by decide +kernel
theorem dX5_keep_16 : decode cX5_keep 16 = .ok (.bipush 68, 2) := by decide +kernel
theorem dX5_keep_18 : decode cX5_keep 18 = .ok (.aload_n 0, 1) := by decide +kernel
theorem dX5_keep_19 : decode cX5_keep 19 = .ok (.getfield 214, 3) := by decide +kernel
theorem dX5_keep_22 : decode cX5_keep 22 = .ok (.imul, 1) := by decide +kernel
theorem dX5_keep_23 : decode cX5_keep 23 = .ok (.invokevirtual 181, 3) := by decide +kernel
theorem dX5_keep_26 : decode cX5_keep 26 = .ok (.aload_n 0, 1) := by decide +kernel
theorem dX5_keep_27 : decode cX5_keep 27 = .ok (.dup, 1) := by decide +kernel
theorem dX5_keep_28 : decode cX5_keep 28 = .ok (.getfield 214, 3) := by decide +kernel
theorem dX5_keep_31 : decode cX5_keep 31 = .ok (.iconst 1, 1) := by decide +kernel
theorem dX5_keep_32 : decode cX5_keep 32 = .ok (.iadd, 1) := by decide +kernel
theorem dX5_keep_33 : decode cX5_keep 33 = .ok (.putfield 214, 3) := by decide +kernel
theorem dX5_keep_36 : decode cX5_keep 36 = .ok (.aload_n 0, 1) := by decide +kernel
theorem dX5_keep_37 : decode cX5_keep 37 = .ok (.getfield 214, 3) := by decide +kernel
theorem dX5_keep_40 : decode cX5_keep 40 = .ok (.ireturn, 1) := by decide +kernel
theorem dX5_back_0 : decode cX5_back 0 = .ok (.aload_n 0, 1) := by decide +kernel
theorem dX5_back_1 : decode cX5_back 1 = .ok (.getfield 214, 3) := by decide +kernel
theorem dX5_back_4 : decode cX5_back 4 = .ok (.ifCond .ne 6, 3) := by decide +kernel
theorem dX5_back_7 : decode cX5_back 7 = .ok (.bipush (-2), 2) := by decide +kernel
theorem dX5_back_9 : decode cX5_back 9 = .ok (.ireturn, 1) := by decide +kernel
theorem dX5_back_10 : decode cX5_back 10 = .ok (.aload_n 0, 1) := by decide +kernel
theorem dX5_back_11 : decode cX5_back 11 = .ok (.dup, 1) := by decide +kernel
theorem dX5_back_12 : decode cX5_back 12 = .ok (.getfield 214, 3) := by decide +kernel
theorem dX5_back_15 : decode cX5_back 15 = .ok (.iconst 1, 1) := by decide +kernel
theorem dX5_back_16 : decode cX5_back 16 = .ok (.isub, 1) := by decide +kernel
theorem dX5_back_17 : decode cX5_back 17 = .ok (.putfield 214, 3) := by decide +kernel
theorem dX5_back_20 : decode cX5_back 20 = .ok (.aload_n 0, 1) := by decide +kernel
theorem dX5_back_21 : decode cX5_back 21 = .ok (.aload_n 0, 1) := by decide +kernel
theorem dX5_back_22 : decode cX5_back 22 = .ok (.getfield 62, 3) := by decide +kernel
theorem dX5_back_25 : decode cX5_back 25 = .ok (.bipush 68, 2) := by decide +kernel
theorem dX5_back_27 : decode cX5_back 27 = .ok (.aload_n 0, 1) := by decide +kernel
theorem dX5_back_28 : decode cX5_back 28 = .ok (.getfield 214, 3) := by decide +kernel
theorem dX5_back_31 : decode cX5_back 31 = .ok (.imul, 1) := by decide +kernel
theorem dX5_back_32 : decode cX5_back 32 = .ok (.invokevirtual 211, 3) := by decide +kernel
theorem dX5_back_35 : decode cX5_back 35 = .ok (.aload_n 0, 1) := by decide +kernel
theorem dX5_back_36 : decode cX5_back 36 = .ok (.iconst 0, 1) := by decide +kernel
theorem dX5_back_37 : decode cX5_back 37 = .ok (.putfield 178, 3) := by decide +kernel
theorem dX5_back_40 : decode cX5_back 40 = .ok (.aload_n 0, 1) := by decide +kernel
theorem dX5_back_41 : decode cX5_back 41 = .ok (.iconst 0, 1) := by decide +kernel
theorem dX5_back_42 : decode cX5_back 42 = .ok (.putfield 171, 3) := by decide +kernel
theorem dX5_back_45 : decode cX5_back 45 = .ok (.aload_n 0, 1) := by decide +kernel
theorem dX5_back_46 : decode cX5_back 46 = .ok (.getfield 214, 3) := by decide +kernel
theorem dX5_back_49 : decode cX5_back 49 = .ok (.ireturn, 1) := by decide +kernel
theorem dX5_pieceOf_0 : decode cX5_pieceOf 0 = .ok (.aload_n 0, 1) := by decide +kernel
theorem dX5_pieceOf_1 : decode cX5_pieceOf 1 = .ok (.iload_n 1, 1) := by decide +kernel
theorem dX5_pieceOf_2 : decode cX5_pieceOf 2 = .ok (.invokevirtual 113, 3) := by decide +kernel
theorem dX5_pieceOf_5 : decode cX5_pieceOf 5 = .ok (.istore_n 2, 1) := by decide +kernel
theorem dX5_pieceOf_6 : decode cX5_pieceOf 6 = .ok (.iload_n 2, 1) := by decide +kernel
theorem dX5_pieceOf_7 : decode cX5_pieceOf 7 = .ok (.bipush (-4), 2) := by decide +kernel
theorem dX5_pieceOf_9 : decode cX5_pieceOf 9 = .ok (.if_icmp .ne 7, 3) := by decide +kernel
theorem dX5_pieceOf_12 : decode cX5_pieceOf 12 = .ok (.iload_n 1, 1) := by decide +kernel
theorem dX5_pieceOf_13 : decode cX5_pieceOf 13 = .ok (.goto 9, 3) := by decide +kernel
theorem dX5_pieceOf_16 : decode cX5_pieceOf 16 = .ok (.aload_n 0, 1) := by decide +kernel
theorem dX5_pieceOf_17 : decode cX5_pieceOf 17 = .ok (.getfield 13, 3) := by decide +kernel
theorem dX5_pieceOf_20 : decode cX5_pieceOf 20 = .ok (.iload_n 2, 1) := by decide +kernel
theorem dX5_pieceOf_21 : decode cX5_pieceOf 21 = .ok (.iaload, 1) := by decide +kernel
theorem dX5_pieceOf_22 : decode cX5_pieceOf 22 = .ok (.istore_n 3, 1) := by decide +kernel
theorem dX5_pieceOf_23 : decode cX5_pieceOf 23 = .ok (.bipush (-4), 2) := by decide +kernel
theorem dX5_pieceOf_25 : decode cX5_pieceOf 25 = .ok (.istore 4, 2) := by decide +kernel
theorem dX5_pieceOf_27 : decode cX5_pieceOf 27 = .ok (.iconst 0, 1) := by decide +kernel
theorem dX5_pieceOf_28 : decode cX5_pieceOf 28 = .ok (.istore 5, 2) := by decide +kernel
theorem dX5_pieceOf_30 : decode cX5_pieceOf 30 = .ok (.iload 5, 2) := by decide +kernel
theorem dX5_pieceOf_32 : decode cX5_pieceOf 32 = .ok (.aload_n 0, 1) := by decide +kernel
theorem dX5_pieceOf_33 : decode cX5_pieceOf 33 = .ok (.getfield 117, 3) := by decide +kernel
theorem dX5_pieceOf_36 : decode cX5_pieceOf 36 = .ok (.if_icmp .ge 41, 3) := by decide +kernel
theorem dX5_pieceOf_39 : decode cX5_pieceOf 39 = .ok (.aload_n 0, 1) := by decide +kernel
theorem dX5_pieceOf_40 : decode cX5_pieceOf 40 = .ok (.getfield 41, 3) := by decide +kernel
theorem dX5_pieceOf_43 : decode cX5_pieceOf 43 = .ok (.iload 5, 2) := by decide +kernel
theorem dX5_pieceOf_45 : decode cX5_pieceOf 45 = .ok (.iaload, 1) := by decide +kernel
theorem dX5_pieceOf_46 : decode cX5_pieceOf 46 = .ok (.iload_n 3, 1) := by decide +kernel
theorem dX5_pieceOf_47 : decode cX5_pieceOf 47 = .ok (.if_icmp .ne 20, 3) := by decide +kernel
theorem dX5_pieceOf_50 : decode cX5_pieceOf 50 = .ok (.aload_n 0, 1) := by decide +kernel
theorem dX5_pieceOf_51 : decode cX5_pieceOf 51 = .ok (.getfield 38, 3) := by decide +kernel
theorem dX5_pieceOf_54 : decode cX5_pieceOf 54 = .ok (.iload 5, 2) := by decide +kernel
theorem dX5_pieceOf_56 : decode cX5_pieceOf 56 = .ok (.iaload, 1) := by decide +kernel
theorem dX5_pieceOf_57 : decode cX5_pieceOf 57 = .ok (.bipush 29, 2) := by decide +kernel
theorem dX5_pieceOf_59 : decode cX5_pieceOf 59 = .ok (.if_icmp .eq 8, 3) := by decide +kernel
theorem dX5_pieceOf_62 : decode cX5_pieceOf 62 = .ok (.iload 5, 2) := by decide +kernel
theorem dX5_pieceOf_64 : decode cX5_pieceOf 64 = .ok (.goto 5, 3) := by decide +kernel
theorem dX5_pieceOf_67 : decode cX5_pieceOf 67 = .ok (.iload 4, 2) := by decide +kernel
theorem dX5_pieceOf_69 : decode cX5_pieceOf 69 = .ok (.istore 4, 2) := by decide +kernel
theorem dX5_pieceOf_71 : decode cX5_pieceOf 71 = .ok (.iinc 5 1, 3) := by decide +kernel
theorem dX5_pieceOf_74 : decode cX5_pieceOf 74 = .ok (.goto (-44), 3) := by decide +kernel
theorem dX5_pieceOf_77 : decode cX5_pieceOf 77 = .ok (.iload 4, 2) := by decide +kernel
theorem dX5_pieceOf_79 : decode cX5_pieceOf 79 = .ok (.ireturn, 1) := by decide +kernel
theorem dX5_stands_0 : decode cX5_stands 0 = .ok (.aload_n 0, 1) := by decide +kernel
theorem dX5_stands_1 : decode cX5_stands 1 = .ok (.iload_n 1, 1) := by decide +kernel
theorem dX5_stands_2 : decode cX5_stands 2 = .ok (.invokevirtual 153, 3) := by decide +kernel
theorem dX5_stands_5 : decode cX5_stands 5 = .ok (.ifCond .eq 12, 3) := by decide +kernel
theorem dX5_stands_8 : decode cX5_stands 8 = .ok (.iload_n 2, 1) := by decide +kernel
theorem dX5_stands_9 : decode cX5_stands 9 = .ok (.iconst 0, 1) := by decide +kernel
theorem dX5_stands_10 : decode cX5_stands 10 = .ok (.iconst 2, 1) := by decide +kernel
theorem dX5_stands_11 : decode cX5_stands 11 = .ok (.invokestatic 103, 3) := by decide +kernel
theorem dX5_stands_14 : decode cX5_stands 14 = .ok (.ifCond .ne 5, 3) := by decide +kernel
theorem dX5_stands_17 : decode cX5_stands 17 = .ok (.iconst (-1), 1) := by decide +kernel
theorem dX5_stands_18 : decode cX5_stands 18 = .ok (.ireturn, 1) := by decide +kernel
theorem dX5_stands_19 : decode cX5_stands 19 = .ok (.aload_n 0, 1) := by decide +kernel
theorem dX5_stands_20 : decode cX5_stands 20 = .ok (.invokevirtual 150, 3) := by decide +kernel
theorem dX5_stands_23 : decode cX5_stands 23 = .ok (.aload_n 0, 1) := by decide +kernel
theorem dX5_stands_24 : decode cX5_stands 24 = .ok (.iload_n 1, 1) := by decide +kernel
theorem dX5_stands_25 : decode cX5_stands 25 = .ok (.invokevirtual 217, 3) := by decide +kernel
theorem dX5_stands_28 : decode cX5_stands 28 = .ok (.istore_n 3, 1) := by decide +kernel
theorem dX5_stands_29 : decode cX5_stands 29 = .ok (.iload_n 2, 1) := by decide +kernel
theorem dX5_stands_30 : decode cX5_stands 30 = .ok (.iconst 2, 1) := by decide +kernel
theorem dX5_stands_31 : decode cX5_stands 31 = .ok (.if_icmp .ne 17, 3) := by decide +kernel
theorem dX5_stands_34 : decode cX5_stands 34 = .ok (.aload_n 0, 1) := by decide +kernel
theorem dX5_stands_35 : decode cX5_stands 35 = .ok (.iload_n 1, 1) := by decide +kernel
theorem dX5_stands_36 : decode cX5_stands 36 = .ok (.invokevirtual 162, 3) := by decide +kernel
theorem dX5_stands_39 : decode cX5_stands 39 = .ok (.ifCond .eq 7, 3) := by decide +kernel
theorem dX5_stands_42 : decode cX5_stands 42 = .ok (.iconst 1, 1) := by decide +kernel
theorem dX5_stands_43 : decode cX5_stands 43 = .ok (.goto 4, 3) := by decide +kernel
theorem dX5_stands_46 : decode cX5_stands 46 = .ok (.iconst 0, 1) := by decide +kernel
theorem dX5_stands_47 : decode cX5_stands 47 = .ok (.ireturn, 1) := by decide +kernel
theorem dX5_stands_48 : decode cX5_stands 48 = .ok (.iload_n 2, 1) := by decide +kernel
theorem dX5_stands_49 : decode cX5_stands 49 = .ok (.ifCond .ne 25, 3) := by decide +kernel
theorem dX5_stands_52 : decode cX5_stands 52 = .ok (.iload_n 3, 1) := by decide +kernel
theorem dX5_stands_53 : decode cX5_stands 53 = .ok (.bipush (-4), 2) := by decide +kernel
theorem dX5_stands_55 : decode cX5_stands 55 = .ok (.if_icmp .ne 10, 3) := by decide +kernel
theorem dX5_stands_58 : decode cX5_stands 58 = .ok (.aload_n 0, 1) := by decide +kernel
theorem dX5_stands_59 : decode cX5_stands 59 = .ok (.getfield 144, 3) := by decide +kernel
theorem dX5_stands_62 : decode cX5_stands 62 = .ok (.goto 31, 3) := by decide +kernel
theorem dX5_stands_65 : decode cX5_stands 65 = .ok (.aload_n 0, 1) := by decide +kernel
theorem dX5_stands_66 : decode cX5_stands 66 = .ok (.getfield 44, 3) := by decide +kernel
theorem dX5_stands_69 : decode cX5_stands 69 = .ok (.iload_n 3, 1) := by decide +kernel
theorem dX5_stands_70 : decode cX5_stands 70 = .ok (.iaload, 1) := by decide +kernel
theorem dX5_stands_71 : decode cX5_stands 71 = .ok (.goto 22, 3) := by decide +kernel
theorem dX5_stands_74 : decode cX5_stands 74 = .ok (.iload_n 3, 1) := by decide +kernel
theorem dX5_stands_75 : decode cX5_stands 75 = .ok (.bipush (-4), 2) := by decide +kernel
theorem dX5_stands_77 : decode cX5_stands 77 = .ok (.if_icmp .ne 10, 3) := by decide +kernel
theorem dX5_stands_80 : decode cX5_stands 80 = .ok (.aload_n 0, 1) := by decide +kernel
theorem dX5_stands_81 : decode cX5_stands 81 = .ok (.getfield 147, 3) := by decide +kernel
theorem dX5_stands_84 : decode cX5_stands 84 = .ok (.goto 9, 3) := by decide +kernel
theorem dX5_stands_87 : decode cX5_stands 87 = .ok (.aload_n 0, 1) := by decide +kernel
theorem dX5_stands_88 : decode cX5_stands 88 = .ok (.getfield 47, 3) := by decide +kernel
theorem dX5_stands_91 : decode cX5_stands 91 = .ok (.iload_n 3, 1) := by decide +kernel
theorem dX5_stands_92 : decode cX5_stands 92 = .ok (.iaload, 1) := by decide +kernel
theorem dX5_stands_93 : decode cX5_stands 93 = .ok (.ireturn, 1) := by decide +kernel
theorem dX5_pieceAt_0 : decode cX5_pieceAt 0 = .ok (.bipush (-4), 2) := by decide +kernel
theorem dX5_pieceAt_2 : decode cX5_pieceAt 2 = .ok (.istore_n 3, 1) := by decide +kernel
theorem dX5_pieceAt_3 : decode cX5_pieceAt 3 = .ok (.iconst 0, 1) := by decide +kernel
theorem dX5_pieceAt_4 : decode cX5_pieceAt 4 = .ok (.istore 4, 2) := by decide +kernel
theorem dX5_pieceAt_6 : decode cX5_pieceAt 6 = .ok (.iload 4, 2) := by decide +kernel
theorem dX5_pieceAt_8 : decode cX5_pieceAt 8 = .ok (.aload_n 0, 1) := by decide +kernel
theorem dX5_pieceAt_9 : decode cX5_pieceAt 9 = .ok (.getfield 117, 3) := by decide +kernel
theorem dX5_pieceAt_12 : decode cX5_pieceAt 12 = .ok (.if_icmp .ge 69, 3) := by decide +kernel
theorem dX5_pieceAt_15 : decode cX5_pieceAt 15 = .ok (.aload_n 0, 1) := by decide +kernel
theorem dX5_pieceAt_16 : decode cX5_pieceAt 16 = .ok (.getfield 44, 3) := by decide +kernel
theorem dX5_pieceAt_19 : decode cX5_pieceAt 19 = .ok (.iload 4, 2) := by decide +kernel
theorem dX5_pieceAt_21 : decode cX5_pieceAt 21 = .ok (.iaload, 1) := by decide +kernel
theorem dX5_pieceAt_22 : decode cX5_pieceAt 22 = .ok (.iload_n 1, 1) := by decide +kernel
theorem dX5_pieceAt_23 : decode cX5_pieceAt 23 = .ok (.if_icmp .ne 37, 3) := by decide +kernel
theorem dX5_pieceAt_26 : decode cX5_pieceAt 26 = .ok (.iload_n 2, 1) := by decide +kernel
theorem dX5_pieceAt_27 : decode cX5_pieceAt 27 = .ok (.aload_n 0, 1) := by decide +kernel
theorem dX5_pieceAt_28 : decode cX5_pieceAt 28 = .ok (.getfield 47, 3) := by decide +kernel
theorem dX5_pieceAt_31 : decode cX5_pieceAt 31 = .ok (.iload 4, 2) := by decide +kernel
theorem dX5_pieceAt_33 : decode cX5_pieceAt 33 = .ok (.iaload, 1) := by decide +kernel
theorem dX5_pieceAt_34 : decode cX5_pieceAt 34 = .ok (.if_icmp .lt 26, 3) := by decide +kernel
theorem dX5_pieceAt_37 : decode cX5_pieceAt 37 = .ok (.iload_n 2, 1) := by decide +kernel
theorem dX5_pieceAt_38 : decode cX5_pieceAt 38 = .ok (.aload_n 0, 1) := by decide +kernel
theorem dX5_pieceAt_39 : decode cX5_pieceAt 39 = .ok (.getfield 47, 3) := by decide +kernel
theorem dX5_pieceAt_42 : decode cX5_pieceAt 42 = .ok (.iload 4, 2) := by decide +kernel
theorem dX5_pieceAt_44 : decode cX5_pieceAt 44 = .ok (.iaload, 1) := by decide +kernel
theorem dX5_pieceAt_45 : decode cX5_pieceAt 45 = .ok (.aload_n 0, 1) := by decide +kernel
theorem dX5_pieceAt_46 : decode cX5_pieceAt 46 = .ok (.getfield 50, 3) := by decide +kernel
theorem dX5_pieceAt_49 : decode cX5_pieceAt 49 = .ok (.iload 4, 2) := by decide +kernel
theorem dX5_pieceAt_51 : decode cX5_pieceAt 51 = .ok (.iaload, 1) := by decide +kernel
theorem dX5_pieceAt_52 : decode cX5_pieceAt 52 = .ok (.iadd, 1) := by decide +kernel
theorem dX5_pieceAt_53 : decode cX5_pieceAt 53 = .ok (.if_icmp .ge 7, 3) := by decide +kernel
theorem dX5_pieceAt_56 : decode cX5_pieceAt 56 = .ok (.iconst 1, 1) := by decide +kernel
theorem dX5_pieceAt_57 : decode cX5_pieceAt 57 = .ok (.goto 4, 3) := by decide +kernel
theorem dX5_pieceAt_60 : decode cX5_pieceAt 60 = .ok (.iconst 0, 1) := by decide +kernel
theorem dX5_pieceAt_61 : decode cX5_pieceAt 61 = .ok (.istore 5, 2) := by decide +kernel
theorem dX5_pieceAt_63 : decode cX5_pieceAt 63 = .ok (.iload 5, 2) := by decide +kernel
theorem dX5_pieceAt_65 : decode cX5_pieceAt 65 = .ok (.ifCond .eq 8, 3) := by decide +kernel
theorem dX5_pieceAt_68 : decode cX5_pieceAt 68 = .ok (.iload 4, 2) := by decide +kernel
theorem dX5_pieceAt_70 : decode cX5_pieceAt 70 = .ok (.goto 4, 3) := by decide +kernel
theorem dX5_pieceAt_73 : decode cX5_pieceAt 73 = .ok (.iload_n 3, 1) := by decide +kernel
theorem dX5_pieceAt_74 : decode cX5_pieceAt 74 = .ok (.istore_n 3, 1) := by decide +kernel
theorem dX5_pieceAt_75 : decode cX5_pieceAt 75 = .ok (.iinc 4 1, 3) := by decide +kernel
theorem dX5_pieceAt_78 : decode cX5_pieceAt 78 = .ok (.goto (-72), 3) := by decide +kernel
theorem dX5_pieceAt_81 : decode cX5_pieceAt 81 = .ok (.iload_n 3, 1) := by decide +kernel
theorem dX5_pieceAt_82 : decode cX5_pieceAt 82 = .ok (.ireturn, 1) := by decide +kernel
theorem dX5_placeAt_0 : decode cX5_placeAt 0 = .ok (.aload_n 0, 1) := by decide +kernel
theorem dX5_placeAt_1 : decode cX5_placeAt 1 = .ok (.iload_n 1, 1) := by decide +kernel
theorem dX5_placeAt_2 : decode cX5_placeAt 2 = .ok (.iload_n 2, 1) := by decide +kernel
theorem dX5_placeAt_3 : decode cX5_placeAt 3 = .ok (.invokevirtual 220, 3) := by decide +kernel
theorem dX5_placeAt_6 : decode cX5_placeAt 6 = .ok (.istore_n 3, 1) := by decide +kernel
theorem dX5_placeAt_7 : decode cX5_placeAt 7 = .ok (.iload_n 3, 1) := by decide +kernel
theorem dX5_placeAt_8 : decode cX5_placeAt 8 = .ok (.bipush (-4), 2) := by decide +kernel
theorem dX5_placeAt_10 : decode cX5_placeAt 10 = .ok (.if_icmp .eq 10, 3) := by decide +kernel
theorem dX5_placeAt_13 : decode cX5_placeAt 13 = .ok (.aload_n 0, 1) := by decide +kernel
theorem dX5_placeAt_14 : decode cX5_placeAt 14 = .ok (.getfield 41, 3) := by decide +kernel
theorem dX5_placeAt_17 : decode cX5_placeAt 17 = .ok (.iload_n 3, 1) := by decide +kernel
theorem dX5_placeAt_18 : decode cX5_placeAt 18 = .ok (.iaload, 1) := by decide +kernel
theorem dX5_placeAt_19 : decode cX5_placeAt 19 = .ok (.ireturn, 1) := by decide +kernel
theorem dX5_placeAt_20 : decode cX5_placeAt 20 = .ok (.bipush (-4), 2) := by decide +kernel
theorem dX5_placeAt_22 : decode cX5_placeAt 22 = .ok (.istore 4, 2) := by decide +kernel
theorem dX5_placeAt_24 : decode cX5_placeAt 24 = .ok (.bipush (-4), 2) := by decide +kernel
theorem dX5_placeAt_26 : decode cX5_placeAt 26 = .ok (.istore 5, 2) := by decide +kernel
theorem dX5_placeAt_28 : decode cX5_placeAt 28 = .ok (.aload_n 0, 1) := by decide +kernel
theorem dX5_placeAt_29 : decode cX5_placeAt 29 = .ok (.getfield 117, 3) := by decide +kernel
theorem dX5_placeAt_32 : decode cX5_placeAt 32 = .ok (.iconst 1, 1) := by decide +kernel
theorem dX5_placeAt_33 : decode cX5_placeAt 33 = .ok (.isub, 1) := by decide +kernel
theorem dX5_placeAt_34 : decode cX5_placeAt 34 = .ok (.istore 6, 2) := by decide +kernel
theorem dX5_placeAt_36 : decode cX5_placeAt 36 = .ok (.iload 6, 2) := by decide +kernel
theorem dX5_placeAt_38 : decode cX5_placeAt 38 = .ok (.ifCond .lt 56, 3) := by decide +kernel
theorem dX5_placeAt_41 : decode cX5_placeAt 41 = .ok (.aload_n 0, 1) := by decide +kernel
theorem dX5_placeAt_42 : decode cX5_placeAt 42 = .ok (.getfield 44, 3) := by decide +kernel
theorem dX5_placeAt_45 : decode cX5_placeAt 45 = .ok (.iload 6, 2) := by decide +kernel
theorem dX5_placeAt_47 : decode cX5_placeAt 47 = .ok (.iaload, 1) := by decide +kernel
theorem dX5_placeAt_48 : decode cX5_placeAt 48 = .ok (.iload_n 1, 1) := by decide +kernel
theorem dX5_placeAt_49 : decode cX5_placeAt 49 = .ok (.if_icmp .ne 15, 3) := by decide +kernel
theorem dX5_placeAt_52 : decode cX5_placeAt 52 = .ok (.iload 5, 2) := by decide +kernel
theorem dX5_placeAt_54 : decode cX5_placeAt 54 = .ok (.bipush (-4), 2) := by decide +kernel
theorem dX5_placeAt_56 : decode cX5_placeAt 56 = .ok (.if_icmp .ne 8, 3) := by decide +kernel
theorem dX5_placeAt_59 : decode cX5_placeAt 59 = .ok (.iload 6, 2) := by decide +kernel
theorem dX5_placeAt_61 : decode cX5_placeAt 61 = .ok (.goto 5, 3) := by decide +kernel
theorem dX5_placeAt_64 : decode cX5_placeAt 64 = .ok (.iload 5, 2) := by decide +kernel
theorem dX5_placeAt_66 : decode cX5_placeAt 66 = .ok (.istore 5, 2) := by decide +kernel
theorem dX5_placeAt_68 : decode cX5_placeAt 68 = .ok (.aload_n 0, 1) := by decide +kernel
theorem dX5_placeAt_69 : decode cX5_placeAt 69 = .ok (.getfield 44, 3) := by decide +kernel
theorem dX5_placeAt_72 : decode cX5_placeAt 72 = .ok (.iload 6, 2) := by decide +kernel
theorem dX5_placeAt_74 : decode cX5_placeAt 74 = .ok (.iaload, 1) := by decide +kernel
theorem dX5_placeAt_75 : decode cX5_placeAt 75 = .ok (.iload_n 1, 1) := by decide +kernel
theorem dX5_placeAt_76 : decode cX5_placeAt 76 = .ok (.if_icmp .ne 8, 3) := by decide +kernel
theorem dX5_placeAt_79 : decode cX5_placeAt 79 = .ok (.iload 6, 2) := by decide +kernel
theorem dX5_placeAt_81 : decode cX5_placeAt 81 = .ok (.goto 5, 3) := by decide +kernel
theorem dX5_placeAt_84 : decode cX5_placeAt 84 = .ok (.iload 4, 2) := by decide +kernel
theorem dX5_placeAt_86 : decode cX5_placeAt 86 = .ok (.istore 4, 2) := by decide +kernel
theorem dX5_placeAt_88 : decode cX5_placeAt 88 = .ok (.iinc 6 (-1), 3) := by decide +kernel
theorem dX5_placeAt_91 : decode cX5_placeAt 91 = .ok (.goto (-55), 3) := by decide +kernel
theorem dX5_placeAt_94 : decode cX5_placeAt 94 = .ok (.iload 4, 2) := by decide +kernel
theorem dX5_placeAt_96 : decode cX5_placeAt 96 = .ok (.bipush (-4), 2) := by decide +kernel
theorem dX5_placeAt_98 : decode cX5_placeAt 98 = .ok (.if_icmp .eq 34, 3) := by decide +kernel
theorem dX5_placeAt_101 : decode cX5_placeAt 101 = .ok (.aload_n 0, 1) := by decide +kernel
theorem dX5_placeAt_102 : decode cX5_placeAt 102 = .ok (.getfield 38, 3) := by decide +kernel
theorem dX5_placeAt_105 : decode cX5_placeAt 105 = .ok (.iload 4, 2) := by decide +kernel
theorem dX5_placeAt_107 : decode cX5_placeAt 107 = .ok (.iaload, 1) := by decide +kernel
theorem dX5_placeAt_108 : decode cX5_placeAt 108 = .ok (.bipush 27, 2) := by decide +kernel
theorem dX5_placeAt_110 : decode cX5_placeAt 110 = .ok (.if_icmp .eq 22, 3) := by decide +kernel
theorem dX5_placeAt_113 : decode cX5_placeAt 113 = .ok (.iload_n 2, 1) := by decide +kernel
theorem dX5_placeAt_114 : decode cX5_placeAt 114 = .ok (.aload_n 0, 1) := by decide +kernel
theorem dX5_placeAt_115 : decode cX5_placeAt 115 = .ok (.getfield 47, 3) := by decide +kernel
theorem dX5_placeAt_118 : decode cX5_placeAt 118 = .ok (.iload 4, 2) := by decide +kernel
theorem dX5_placeAt_120 : decode cX5_placeAt 120 = .ok (.iaload, 1) := by decide +kernel
theorem dX5_placeAt_121 : decode cX5_placeAt 121 = .ok (.if_icmp .ge 11, 3) := by decide +kernel
theorem dX5_placeAt_124 : decode cX5_placeAt 124 = .ok (.aload_n 0, 1) := by decide +kernel
theorem dX5_placeAt_125 : decode cX5_placeAt 125 = .ok (.getfield 41, 3) := by decide +kernel
theorem dX5_placeAt_128 : decode cX5_placeAt 128 = .ok (.iload 4, 2) := by decide +kernel
theorem dX5_placeAt_130 : decode cX5_placeAt 130 = .ok (.iaload, 1) := by decide +kernel
theorem dX5_placeAt_131 : decode cX5_placeAt 131 = .ok (.ireturn, 1) := by decide +kernel
theorem dX5_placeAt_132 : decode cX5_placeAt 132 = .ok (.iload 5, 2) := by decide +kernel
theorem dX5_placeAt_134 : decode cX5_placeAt 134 = .ok (.bipush (-4), 2) := by decide +kernel
theorem dX5_placeAt_136 : decode cX5_placeAt 136 = .ok (.if_icmp .eq 19, 3) := by decide +kernel
theorem dX5_placeAt_139 : decode cX5_placeAt 139 = .ok (.aload_n 0, 1) := by decide +kernel
theorem dX5_placeAt_140 : decode cX5_placeAt 140 = .ok (.getfield 38, 3) := by decide +kernel
theorem dX5_placeAt_143 : decode cX5_placeAt 143 = .ok (.iload 5, 2) := by decide +kernel
theorem dX5_placeAt_145 : decode cX5_placeAt 145 = .ok (.iaload, 1) := by decide +kernel
theorem dX5_placeAt_146 : decode cX5_placeAt 146 = .ok (.bipush 27, 2) := by decide +kernel
theorem dX5_placeAt_148 : decode cX5_placeAt 148 = .ok (.if_icmp .ne 7, 3) := by decide +kernel
theorem dX5_placeAt_151 : decode cX5_placeAt 151 = .ok (.iconst 1, 1) := by decide +kernel
theorem dX5_placeAt_152 : decode cX5_placeAt 152 = .ok (.goto 4, 3) := by decide +kernel
theorem dX5_placeAt_155 : decode cX5_placeAt 155 = .ok (.iconst 0, 1) := by decide +kernel
theorem dX5_placeAt_156 : decode cX5_placeAt 156 = .ok (.istore 6, 2) := by decide +kernel
theorem dX5_placeAt_158 : decode cX5_placeAt 158 = .ok (.iload 6, 2) := by decide +kernel
theorem dX5_placeAt_160 : decode cX5_placeAt 160 = .ok (.ifCond .ne 18, 3) := by decide +kernel
theorem dX5_placeAt_163 : decode cX5_placeAt 163 = .ok (.iload_n 1, 1) := by decide +kernel
theorem dX5_placeAt_164 : decode cX5_placeAt 164 = .ok (.aload_n 0, 1) := by decide +kernel
theorem dX5_placeAt_165 : decode cX5_placeAt 165 = .ok (.getfield 144, 3) := by decide +kernel
theorem dX5_placeAt_168 : decode cX5_placeAt 168 = .ok (.if_icmp .ne 10, 3) := by decide +kernel
theorem dX5_placeAt_171 : decode cX5_placeAt 171 = .ok (.aload_n 0, 1) := by decide +kernel
theorem dX5_placeAt_172 : decode cX5_placeAt 172 = .ok (.getfield 89, 3) := by decide +kernel
theorem dX5_placeAt_175 : decode cX5_placeAt 175 = .ok (.goto 10, 3) := by decide +kernel
theorem dX5_placeAt_178 : decode cX5_placeAt 178 = .ok (.aload_n 0, 1) := by decide +kernel
theorem dX5_placeAt_179 : decode cX5_placeAt 179 = .ok (.getfield 41, 3) := by decide +kernel
theorem dX5_placeAt_182 : decode cX5_placeAt 182 = .ok (.iload 5, 2) := by decide +kernel
theorem dX5_placeAt_184 : decode cX5_placeAt 184 = .ok (.iaload, 1) := by decide +kernel
theorem dX5_placeAt_185 : decode cX5_placeAt 185 = .ok (.ireturn, 1) := by decide +kernel
theorem dX5_isRow_0 : decode cX5_isRow 0 = .ok (.iload_n 1, 1) := by decide +kernel
theorem dX5_isRow_1 : decode cX5_isRow 1 = .ok (.iconst 0, 1) := by decide +kernel
theorem dX5_isRow_2 : decode cX5_isRow 2 = .ok (.aload_n 0, 1) := by decide +kernel
theorem dX5_isRow_3 : decode cX5_isRow 3 = .ok (.getfield 144, 3) := by decide +kernel
theorem dX5_isRow_6 : decode cX5_isRow 6 = .ok (.invokestatic 103, 3) := by decide +kernel
theorem dX5_isRow_9 : decode cX5_isRow 9 = .ok (.ireturn, 1) := by decide +kernel
theorem dX5_place_0 : decode cX5_place 0 = .ok (.aload_n 0, 1) := by decide +kernel
theorem dX5_place_1 : decode cX5_place 1 = .ok (.invokevirtual 150, 3) := by decide +kernel
theorem dX5_place_4 : decode cX5_place 4 = .ok (.aload_n 0, 1) := by decide +kernel
theorem dX5_place_5 : decode cX5_place 5 = .ok (.iload_n 1, 1) := by decide +kernel
theorem dX5_place_6 : decode cX5_place 6 = .ok (.invokevirtual 223, 3) := by decide +kernel
theorem dX5_place_9 : decode cX5_place 9 = .ok (.ifCond .eq 22, 3) := by decide +kernel
theorem dX5_place_12 : decode cX5_place 12 = .ok (.iload_n 2, 1) := by decide +kernel
theorem dX5_place_13 : decode cX5_place 13 = .ok (.iconst 0, 1) := by decide +kernel
theorem dX5_place_14 : decode cX5_place 14 = .ok (.bipush 99, 2) := by decide +kernel
theorem dX5_place_16 : decode cX5_place 16 = .ok (.invokestatic 103, 3) := by decide +kernel
theorem dX5_place_19 : decode cX5_place 19 = .ok (.ifCond .eq 12, 3) := by decide +kernel
theorem dX5_place_22 : decode cX5_place 22 = .ok (.aload_n 0, 1) := by decide +kernel
theorem dX5_place_23 : decode cX5_place 23 = .ok (.iload_n 1, 1) := by decide +kernel
theorem dX5_place_24 : decode cX5_place 24 = .ok (.iload_n 2, 1) := by decide +kernel
theorem dX5_place_25 : decode cX5_place 25 = .ok (.invokevirtual 226, 3) := by decide +kernel
theorem dX5_place_28 : decode cX5_place 28 = .ok (.goto 4, 3) := by decide +kernel
theorem dX5_place_31 : decode cX5_place 31 = .ok (.iconst (-1), 1) := by decide +kernel
theorem dX5_place_32 : decode cX5_place 32 = .ok (.ireturn, 1) := by decide +kernel
theorem dX5_screen_0 : decode cX5_screen 0 = .ok (.aload_n 0, 1) := by decide +kernel
theorem dX5_screen_1 : decode cX5_screen 1 = .ok (.invokevirtual 150, 3) := by decide +kernel
theorem dX5_screen_4 : decode cX5_screen 4 = .ok (.aload_n 0, 1) := by decide +kernel
theorem dX5_screen_5 : decode cX5_screen 5 = .ok (.iload_n 1, 1) := by decide +kernel
theorem dX5_screen_6 : decode cX5_screen 6 = .ok (.invokevirtual 223, 3) := by decide +kernel
theorem dX5_screen_9 : decode cX5_screen 9 = .ok (.ifCond .eq 13, 3) := by decide +kernel
theorem dX5_screen_12 : decode cX5_screen 12 = .ok (.iload_n 2, 1) := by decide +kernel
theorem dX5_screen_13 : decode cX5_screen 13 = .ok (.iconst 0, 1) := by decide +kernel
theorem dX5_screen_14 : decode cX5_screen 14 = .ok (.bipush 99, 2) := by decide +kernel
theorem dX5_screen_16 : decode cX5_screen 16 = .ok (.invokestatic 103, 3) := by decide +kernel
theorem dX5_screen_19 : decode cX5_screen 19 = .ok (.ifCond .ne 5, 3) := by decide +kernel
theorem dX5_screen_22 : decode cX5_screen 22 = .ok (.iconst (-1), 1) := by decide +kernel
theorem dX5_screen_23 : decode cX5_screen 23 = .ok (.ireturn, 1) := by decide +kernel
theorem dX5_screen_24 : decode cX5_screen 24 = .ok (.aload_n 0, 1) := by decide +kernel
theorem dX5_screen_25 : decode cX5_screen 25 = .ok (.iload_n 1, 1) := by decide +kernel
theorem dX5_screen_26 : decode cX5_screen 26 = .ok (.iload_n 2, 1) := by decide +kernel
theorem dX5_screen_27 : decode cX5_screen 27 = .ok (.invokevirtual 220, 3) := by decide +kernel
theorem dX5_screen_30 : decode cX5_screen 30 = .ok (.istore_n 3, 1) := by decide +kernel
theorem dX5_screen_31 : decode cX5_screen 31 = .ok (.iload_n 3, 1) := by decide +kernel
theorem dX5_screen_32 : decode cX5_screen 32 = .ok (.bipush (-4), 2) := by decide +kernel
theorem dX5_screen_34 : decode cX5_screen 34 = .ok (.if_icmp .ne 8, 3) := by decide +kernel
theorem dX5_screen_37 : decode cX5_screen 37 = .ok (.bipush (-4), 2) := by decide +kernel
theorem dX5_screen_39 : decode cX5_screen 39 = .ok (.goto 9, 3) := by decide +kernel
theorem dX5_screen_42 : decode cX5_screen 42 = .ok (.aload_n 0, 1) := by decide +kernel
theorem dX5_screen_43 : decode cX5_screen 43 = .ok (.getfield 38, 3) := by decide +kernel
theorem dX5_screen_46 : decode cX5_screen 46 = .ok (.iload_n 3, 1) := by decide +kernel
theorem dX5_screen_47 : decode cX5_screen 47 = .ok (.iaload, 1) := by decide +kernel
theorem dX5_screen_48 : decode cX5_screen 48 = .ok (.ireturn, 1) := by decide +kernel
theorem dX5_go_0 : decode cX5_go 0 = .ok (.aload_n 0, 1) := by decide +kernel
theorem dX5_go_1 : decode cX5_go 1 = .ok (.iload_n 1, 1) := by decide +kernel
theorem dX5_go_2 : decode cX5_go 2 = .ok (.invokevirtual 153, 3) := by decide +kernel
theorem dX5_go_5 : decode cX5_go 5 = .ok (.ifCond .eq 12, 3) := by decide +kernel
theorem dX5_go_8 : decode cX5_go 8 = .ok (.iload_n 2, 1) := by decide +kernel
theorem dX5_go_9 : decode cX5_go 9 = .ok (.iconst 0, 1) := by decide +kernel
theorem dX5_go_10 : decode cX5_go 10 = .ok (.iconst 3, 1) := by decide +kernel
theorem dX5_go_11 : decode cX5_go 11 = .ok (.invokestatic 103, 3) := by decide +kernel
theorem dX5_go_14 : decode cX5_go 14 = .ok (.ifCond .ne 5, 3) := by decide +kernel
theorem dX5_go_17 : decode cX5_go 17 = .ok (.iconst (-1), 1) := by decide +kernel
theorem dX5_go_18 : decode cX5_go 18 = .ok (.ireturn, 1) := by decide +kernel
theorem dX5_go_19 : decode cX5_go 19 = .ok (.iload_n 2, 1) := by decide +kernel
theorem dX5_go_20 : decode cX5_go 20 = .ok (.iconst 2, 1) := by decide +kernel
theorem dX5_go_21 : decode cX5_go 21 = .ok (.if_icmp .ge 62, 3) := by decide +kernel
theorem dX5_go_24 : decode cX5_go 24 = .ok (.iload_n 2, 1) := by decide +kernel
theorem dX5_go_25 : decode cX5_go 25 = .ok (.ifCond .ne 7, 3) := by decide +kernel
theorem dX5_go_28 : decode cX5_go 28 = .ok (.iconst 1, 1) := by decide +kernel
theorem dX5_go_29 : decode cX5_go 29 = .ok (.goto 4, 3) := by decide +kernel
theorem dX5_go_32 : decode cX5_go 32 = .ok (.iconst (-1), 1) := by decide +kernel
theorem dX5_go_33 : decode cX5_go 33 = .ok (.istore_n 3, 1) := by decide +kernel
theorem dX5_go_34 : decode cX5_go 34 = .ok (.iload_n 1, 1) := by decide +kernel
