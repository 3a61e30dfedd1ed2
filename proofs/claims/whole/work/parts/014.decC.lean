theorem dX3_init_0 : decode cX3_init 0 = .ok (.aload_n 0, 1) := by decide +kernel
theorem dX3_init_1 : decode cX3_init 1 = .ok (.invokespecial 3, 3) := by decide +kernel
theorem dX3_init_4 : decode cX3_init 4 = .ok (.aload_n 0, 1) := by decide +kernel
theorem dX3_init_5 : decode cX3_init 5 = .ok (.sipush 200, 3) := by decide +kernel
theorem dX3_init_8 : decode cX3_init 8 = .ok (.newarray .int, 2) := by decide +kernel
theorem dX3_init_10 : decode cX3_init 10 = .ok (.putfield 9, 3) := by decide +kernel
theorem dX3_init_13 : decode cX3_init 13 = .ok (.aload_n 0, 1) := by decide +kernel
theorem dX3_init_14 : decode cX3_init 14 = .ok (.iconst 3, 1) := by decide +kernel
theorem dX3_init_15 : decode cX3_init 15 = .ok (.newarray .int, 2) := by decide +kernel
theorem dX3_init_17 : decode cX3_init 17 = .ok (.putfield 15, 3) := by decide +kernel
theorem dX3_init_20 : decode cX3_init 20 = .ok (.return_, 1) := by decide +kernel
theorem dX3_append_0 : decode cX3_append 0 = .ok (.aload_n 0, 1) := by decide +kernel
theorem dX3_append_1 : decode cX3_append 1 = .ok (.getfield 18, 3) := by decide +kernel
theorem dX3_append_4 : decode cX3_append 4 = .ok (.ifCond .lt 15, 3) := by decide +kernel
theorem dX3_append_7 : decode cX3_append 7 = .ok (.aload_n 0, 1) := by decide +kernel
theorem dX3_append_8 : decode cX3_append 8 = .ok (.getfield 18, 3) := by decide +kernel
theorem dX3_append_11 : decode cX3_append 11 = .ok (.aload_n 0, 1) := by decide +kernel
theorem dX3_append_12 : decode cX3_append 12 = .ok (.getfield 9, 3) := by decide +kernel
theorem dX3_append_15 : decode cX3_append 15 = .ok (.arraylength, 1) := by decide +kernel
theorem dX3_append_16 : decode cX3_append 16 = .ok (.if_icmp .lt 5, 3) := by decide +kernel
theorem dX3_append_19 : decode cX3_append 19 = .ok (.iconst 0, 1) := by decide +kernel
theorem dX3_append_20 : decode cX3_append 20 = .ok (.ireturn, 1) := by decide +kernel
theorem dX3_append_21 : decode cX3_append 21 = .ok (.aload_n 0, 1) := by decide +kernel
theorem dX3_append_22 : decode cX3_append 22 = .ok (.getfield 9, 3) := by decide +kernel
theorem dX3_append_25 : decode cX3_append 25 = .ok (.aload_n 0, 1) := by decide +kernel
theorem dX3_append_26 : decode cX3_append 26 = .ok (.getfield 18, 3) := by decide +kernel
theorem dX3_append_29 : decode cX3_append 29 = .ok (.iload_n 1, 1) := by decide +kernel
theorem dX3_append_30 : decode cX3_append 30 = .ok (.iastore, 1) := by decide +kernel
theorem dX3_append_31 : decode cX3_append 31 = .ok (.aload_n 0, 1) := by decide +kernel
theorem dX3_append_32 : decode cX3_append 32 = .ok (.dup, 1) := by decide +kernel
theorem dX3_append_33 : decode cX3_append 33 = .ok (.getfield 18, 3) := by decide +kernel
theorem dX3_append_36 : decode cX3_append 36 = .ok (.iconst 1, 1) := by decide +kernel
theorem dX3_append_37 : decode cX3_append 37 = .ok (.iadd, 1) := by decide +kernel
theorem dX3_append_38 : decode cX3_append 38 = .ok (.putfield 18, 3) := by decide +kernel
theorem dX3_append_41 : decode cX3_append 41 = .ok (.iconst 1, 1) := by decide +kernel
theorem dX3_append_42 : decode cX3_append 42 = .ok (.ireturn, 1) := by decide +kernel
theorem dX3_readInto_0 : decode cX3_readInto 0 = .ok (.aload_n 1, 1) := by decide +kernel
theorem dX3_readInto_1 : decode cX3_readInto 1 = .ok (.invokevirtual 22, 3) := by decide +kernel
theorem dX3_readInto_4 : decode cX3_readInto 4 = .ok (.iconst 0, 1) := by decide +kernel
theorem dX3_readInto_5 : decode cX3_readInto 5 = .ok (.istore_n 2, 1) := by decide +kernel
theorem dX3_readInto_6 : decode cX3_readInto 6 = .ok (.iconst 0, 1) := by decide +kernel
theorem dX3_readInto_7 : decode cX3_readInto 7 = .ok (.istore_n 3, 1) := by decide +kernel
theorem dX3_readInto_8 : decode cX3_readInto 8 = .ok (.iload_n 3, 1) := by decide +kernel
theorem dX3_readInto_9 : decode cX3_readInto 9 = .ok (.sipush 200, 3) := by decide +kernel
theorem dX3_readInto_12 : decode cX3_readInto 12 = .ok (.if_icmp .ge 47, 3) := by decide +kernel
theorem dX3_readInto_15 : decode cX3_readInto 15 = .ok (.iload_n 2, 1) := by decide +kernel
theorem dX3_readInto_16 : decode cX3_readInto 16 = .ok (.aload_n 0, 1) := by decide +kernel
theorem dX3_readInto_17 : decode cX3_readInto 17 = .ok (.getfield 18, 3) := by decide +kernel
theorem dX3_readInto_20 : decode cX3_readInto 20 = .ok (.if_icmp .ge 39, 3) := by decide +kernel
theorem dX3_readInto_23 : decode cX3_readInto 23 = .ok (.aload_n 0, 1) := by decide +kernel
theorem dX3_readInto_24 : decode cX3_readInto 24 = .ok (.iload_n 2, 1) := by decide +kernel
theorem dX3_readInto_25 : decode cX3_readInto 25 = .ok (.invokevirtual 27, 3) := by decide +kernel
theorem dX3_readInto_28 : decode cX3_readInto 28 = .ok (.istore 4, 2) := by decide +kernel
theorem dX3_readInto_30 : decode cX3_readInto 30 = .ok (.iload 4, 2) := by decide +kernel
theorem dX3_readInto_32 : decode cX3_readInto 32 = .ok (.ifCond .lt 14, 3) := by decide +kernel
theorem dX3_readInto_35 : decode cX3_readInto 35 = .ok (.aload_n 0, 1) := by decide +kernel
theorem dX3_readInto_36 : decode cX3_readInto 36 = .ok (.iload_n 2, 1) := by decide +kernel
theorem dX3_readInto_37 : decode cX3_readInto 37 = .ok (.iload 4, 2) := by decide +kernel
theorem dX3_readInto_39 : decode cX3_readInto 39 = .ok (.aload_n 1, 1) := by decide +kernel
theorem dX3_readInto_40 : decode cX3_readInto 40 = .ok (.invokevirtual 31, 3) := by decide +kernel
theorem dX3_readInto_43 : decode cX3_readInto 43 = .ok (.ifCond .ne 5, 3) := by decide +kernel
theorem dX3_readInto_46 : decode cX3_readInto 46 = .ok (.iload_n 2, 1) := by decide +kernel
theorem dX3_readInto_47 : decode cX3_readInto 47 = .ok (.ireturn, 1) := by decide +kernel
theorem dX3_readInto_48 : decode cX3_readInto 48 = .ok (.iload 4, 2) := by decide +kernel
theorem dX3_readInto_50 : decode cX3_readInto 50 = .ok (.iconst 1, 1) := by decide +kernel
theorem dX3_readInto_51 : decode cX3_readInto 51 = .ok (.iadd, 1) := by decide +kernel
theorem dX3_readInto_52 : decode cX3_readInto 52 = .ok (.istore_n 2, 1) := by decide +kernel
theorem dX3_readInto_53 : decode cX3_readInto 53 = .ok (.iinc 3 1, 3) := by decide +kernel
theorem dX3_readInto_56 : decode cX3_readInto 56 = .ok (.goto (-48), 3) := by decide +kernel
theorem dX3_readInto_59 : decode cX3_readInto 59 = .ok (.bipush (-4), 2) := by decide +kernel
theorem dX3_readInto_61 : decode cX3_readInto 61 = .ok (.ireturn, 1) := by decide +kernel
theorem dX3_endOfItem_0 : decode cX3_endOfItem 0 = .ok (.iload_n 1, 1) := by decide +kernel
theorem dX3_endOfItem_1 : decode cX3_endOfItem 1 = .ok (.istore_n 2, 1) := by decide +kernel
theorem dX3_endOfItem_2 : decode cX3_endOfItem 2 = .ok (.iload_n 2, 1) := by decide +kernel
theorem dX3_endOfItem_3 : decode cX3_endOfItem 3 = .ok (.aload_n 0, 1) := by decide +kernel
theorem dX3_endOfItem_4 : decode cX3_endOfItem 4 = .ok (.getfield 18, 3) := by decide +kernel
theorem dX3_endOfItem_7 : decode cX3_endOfItem 7 = .ok (.if_icmp .ge 22, 3) := by decide +kernel
theorem dX3_endOfItem_10 : decode cX3_endOfItem 10 = .ok (.aload_n 0, 1) := by decide +kernel
theorem dX3_endOfItem_11 : decode cX3_endOfItem 11 = .ok (.getfield 9, 3) := by decide +kernel
theorem dX3_endOfItem_14 : decode cX3_endOfItem 14 = .ok (.iload_n 2, 1) := by decide +kernel
theorem dX3_endOfItem_15 : decode cX3_endOfItem 15 = .ok (.iaload, 1) := by decide +kernel
theorem dX3_endOfItem_16 : decode cX3_endOfItem 16 = .ok (.bipush 59, 2) := by decide +kernel
theorem dX3_endOfItem_18 : decode cX3_endOfItem 18 = .ok (.if_icmp .ne 5, 3) := by decide +kernel
theorem dX3_endOfItem_21 : decode cX3_endOfItem 21 = .ok (.iload_n 2, 1) := by decide +kernel
theorem dX3_endOfItem_22 : decode cX3_endOfItem 22 = .ok (.ireturn, 1) := by decide +kernel
theorem dX3_endOfItem_23 : decode cX3_endOfItem 23 = .ok (.iinc 2 1, 3) := by decide +kernel
theorem dX3_endOfItem_26 : decode cX3_endOfItem 26 = .ok (.goto (-24), 3) := by decide +kernel
theorem dX3_endOfItem_29 : decode cX3_endOfItem 29 = .ok (.iconst (-1), 1) := by decide +kernel
theorem dX3_endOfItem_30 : decode cX3_endOfItem 30 = .ok (.ireturn, 1) := by decide +kernel
theorem dX3_readItem_0 : decode cX3_readItem 0 = .ok (.aload_n 0, 1) := by decide +kernel
theorem dX3_readItem_1 : decode cX3_readItem 1 = .ok (.getfield 9, 3) := by decide +kernel
theorem dX3_readItem_4 : decode cX3_readItem 4 = .ok (.iload_n 1, 1) := by decide +kernel
theorem dX3_readItem_5 : decode cX3_readItem 5 = .ok (.iaload, 1) := by decide +kernel
theorem dX3_readItem_6 : decode cX3_readItem 6 = .ok (.istore 4, 2) := by decide +kernel
theorem dX3_readItem_8 : decode cX3_readItem 8 = .ok (.iload 4, 2) := by decide +kernel
theorem dX3_readItem_10 : decode cX3_readItem 10 = .ok (.bipush 116, 2) := by decide +kernel
theorem dX3_readItem_12 : decode cX3_readItem 12 = .ok (.if_icmp .ne 25, 3) := by decide +kernel
theorem dX3_readItem_15 : decode cX3_readItem 15 = .ok (.iload_n 1, 1) := by decide +kernel
theorem dX3_readItem_16 : decode cX3_readItem 16 = .ok (.ifCond .ne 19, 3) := by decide +kernel
theorem dX3_readItem_19 : decode cX3_readItem 19 = .ok (.aload_n 0, 1) := by decide +kernel
theorem dX3_readItem_20 : decode cX3_readItem 20 = .ok (.iload_n 1, 1) := by decide +kernel
theorem dX3_readItem_21 : decode cX3_readItem 21 = .ok (.iconst 1, 1) := by decide +kernel
theorem dX3_readItem_22 : decode cX3_readItem 22 = .ok (.iadd, 1) := by decide +kernel
theorem dX3_readItem_23 : decode cX3_readItem 23 = .ok (.iload_n 2, 1) := by decide +kernel
theorem dX3_readItem_24 : decode cX3_readItem 24 = .ok (.aload_n 3, 1) := by decide +kernel
theorem dX3_readItem_25 : decode cX3_readItem 25 = .ok (.invokevirtual 35, 3) := by decide +kernel
theorem dX3_readItem_28 : decode cX3_readItem 28 = .ok (.ifCond .eq 7, 3) := by decide +kernel
theorem dX3_readItem_31 : decode cX3_readItem 31 = .ok (.iconst 1, 1) := by decide +kernel
theorem dX3_readItem_32 : decode cX3_readItem 32 = .ok (.goto 4, 3) := by decide +kernel
theorem dX3_readItem_35 : decode cX3_readItem 35 = .ok (.iconst 0, 1) := by decide +kernel
theorem dX3_readItem_36 : decode cX3_readItem 36 = .ok (.ireturn, 1) := by decide +kernel
theorem dX3_readItem_37 : decode cX3_readItem 37 = .ok (.aload_n 0, 1) := by decide +kernel
theorem dX3_readItem_38 : decode cX3_readItem 38 = .ok (.iload_n 1, 1) := by decide +kernel
theorem dX3_readItem_39 : decode cX3_readItem 39 = .ok (.iconst 1, 1) := by decide +kernel
theorem dX3_readItem_40 : decode cX3_readItem 40 = .ok (.iadd, 1) := by decide +kernel
theorem dX3_readItem_41 : decode cX3_readItem 41 = .ok (.iload_n 2, 1) := by decide +kernel
theorem dX3_readItem_42 : decode cX3_readItem 42 = .ok (.invokevirtual 38, 3) := by decide +kernel
theorem dX3_readItem_45 : decode cX3_readItem 45 = .ok (.istore 5, 2) := by decide +kernel
theorem dX3_readItem_47 : decode cX3_readItem 47 = .ok (.iload 4, 2) := by decide +kernel
theorem dX3_readItem_49 : decode cX3_readItem 49 = .ok (.lookupswitch 123 #[(98, 103), (102, 43), (104, 63), (119, 83)], 43) := by decide +kernel
theorem dX3_readItem_92 : decode cX3_readItem 92 = .ok (.iload 5, 2) := by decide +kernel
theorem dX3_readItem_94 : decode cX3_readItem 94 = .ok (.iconst 2, 1) := by decide +kernel
theorem dX3_readItem_95 : decode cX3_readItem 95 = .ok (.if_icmp .ne 15, 3) := by decide +kernel
theorem dX3_readItem_98 : decode cX3_readItem 98 = .ok (.aload_n 0, 1) := by decide +kernel
theorem dX3_readItem_99 : decode cX3_readItem 99 = .ok (.aload_n 3, 1) := by decide +kernel
theorem dX3_readItem_100 : decode cX3_readItem 100 = .ok (.invokevirtual 42, 3) := by decide +kernel
theorem dX3_readItem_103 : decode cX3_readItem 103 = .ok (.ifCond .eq 7, 3) := by decide +kernel
theorem dX3_readItem_106 : decode cX3_readItem 106 = .ok (.iconst 1, 1) := by decide +kernel
theorem dX3_readItem_107 : decode cX3_readItem 107 = .ok (.goto 4, 3) := by decide +kernel
theorem dX3_readItem_110 : decode cX3_readItem 110 = .ok (.iconst 0, 1) := by decide +kernel
theorem dX3_readItem_111 : decode cX3_readItem 111 = .ok (.ireturn, 1) := by decide +kernel
theorem dX3_readItem_112 : decode cX3_readItem 112 = .ok (.iload 5, 2) := by decide +kernel
theorem dX3_readItem_114 : decode cX3_readItem 114 = .ok (.iconst 2, 1) := by decide +kernel
theorem dX3_readItem_115 : decode cX3_readItem 115 = .ok (.if_icmp .ne 15, 3) := by decide +kernel
theorem dX3_readItem_118 : decode cX3_readItem 118 = .ok (.aload_n 0, 1) := by decide +kernel
theorem dX3_readItem_119 : decode cX3_readItem 119 = .ok (.aload_n 3, 1) := by decide +kernel
theorem dX3_readItem_120 : decode cX3_readItem 120 = .ok (.invokevirtual 46, 3) := by decide +kernel
theorem dX3_readItem_123 : decode cX3_readItem 123 = .ok (.ifCond .eq 7, 3) := by decide +kernel
theorem dX3_readItem_126 : decode cX3_readItem 126 = .ok (.iconst 1, 1) := by decide +kernel
theorem dX3_readItem_127 : decode cX3_readItem 127 = .ok (.goto 4, 3) := by decide +kernel
theorem dX3_readItem_130 : decode cX3_readItem 130 = .ok (.iconst 0, 1) := by decide +kernel
theorem dX3_readItem_131 : decode cX3_readItem 131 = .ok (.ireturn, 1) := by decide +kernel
theorem dX3_readItem_132 : decode cX3_readItem 132 = .ok (.iload 5, 2) := by decide +kernel
theorem dX3_readItem_134 : decode cX3_readItem 134 = .ok (.iconst 3, 1) := by decide +kernel
theorem dX3_readItem_135 : decode cX3_readItem 135 = .ok (.if_icmp .ne 15, 3) := by decide +kernel
theorem dX3_readItem_138 : decode cX3_readItem 138 = .ok (.aload_n 0, 1) := by decide +kernel
theorem dX3_readItem_139 : decode cX3_readItem 139 = .ok (.aload_n 3, 1) := by decide +kernel
theorem dX3_readItem_140 : decode cX3_readItem 140 = .ok (.invokevirtual 49, 3) := by decide +kernel
theorem dX3_readItem_143 : decode cX3_readItem 143 = .ok (.ifCond .eq 7, 3) := by decide +kernel
theorem dX3_readItem_146 : decode cX3_readItem 146 = .ok (.iconst 1, 1) := by decide +kernel
theorem dX3_readItem_147 : decode cX3_readItem 147 = .ok (.goto 4, 3) := by decide +kernel
theorem dX3_readItem_150 : decode cX3_readItem 150 = .ok (.iconst 0, 1) := by decide +kernel
theorem dX3_readItem_151 : decode cX3_readItem 151 = .ok (.ireturn, 1) := by decide +kernel
theorem dX3_readItem_152 : decode cX3_readItem 152 = .ok (.iload 5, 2) := by decide +kernel
theorem dX3_readItem_154 : decode cX3_readItem 154 = .ok (.iconst 1, 1) := by decide +kernel
theorem dX3_readItem_155 : decode cX3_readItem 155 = .ok (.if_icmp .ne 15, 3) := by decide +kernel
theorem dX3_readItem_158 : decode cX3_readItem 158 = .ok (.aload_n 0, 1) := by decide +kernel
theorem dX3_readItem_159 : decode cX3_readItem 159 = .ok (.aload_n 3, 1) := by decide +kernel
theorem dX3_readItem_160 : decode cX3_readItem 160 = .ok (.invokevirtual 52, 3) := by decide +kernel
theorem dX3_readItem_163 : decode cX3_readItem 163 = .ok (.ifCond .eq 7, 3) := by decide +kernel
theorem dX3_readItem_166 : decode cX3_readItem 166 = .ok (.iconst 1, 1) := by decide +kernel
theorem dX3_readItem_167 : decode cX3_readItem 167 = .ok (.goto 4, 3) := by decide +kernel
theorem dX3_readItem_170 : decode cX3_readItem 170 = .ok (.iconst 0, 1) := by decide +kernel
theorem dX3_readItem_171 : decode cX3_readItem 171 = .ok (.ireturn, 1) := by decide +kernel
theorem dX3_readItem_172 : decode cX3_readItem 172 = .ok (.iconst 0, 1) := by decide +kernel
theorem dX3_readItem_173 : decode cX3_readItem 173 = .ok (.ireturn, 1) := by decide +kernel
theorem dX3_readSigns_0 : decode cX3_readSigns 0 = .ok (.iload_n 1, 1) := by decide +kernel
theorem dX3_readSigns_1 : decode cX3_readSigns 1 = .ok (.istore 4, 2) := by decide +kernel
theorem dX3_readSigns_3 : decode cX3_readSigns 3 = .ok (.iload 4, 2) := by decide +kernel
theorem dX3_readSigns_5 : decode cX3_readSigns 5 = .ok (.iload_n 2, 1) := by decide +kernel
theorem dX3_readSigns_6 : decode cX3_readSigns 6 = .ok (.if_icmp .ge 45, 3) := by decide +kernel
theorem dX3_readSigns_9 : decode cX3_readSigns 9 = .ok (.aload_n 0, 1) := by decide +kernel
theorem dX3_readSigns_10 : decode cX3_readSigns 10 = .ok (.getfield 9, 3) := by decide +kernel
theorem dX3_readSigns_13 : decode cX3_readSigns 13 = .ok (.iload 4, 2) := by decide +kernel
theorem dX3_readSigns_15 : decode cX3_readSigns 15 = .ok (.iaload, 1) := by decide +kernel
theorem dX3_readSigns_16 : decode cX3_readSigns 16 = .ok (.invokestatic 55, 3) := by decide +kernel
theorem dX3_readSigns_19 : decode cX3_readSigns 19 = .ok (.istore 5, 2) := by decide +kernel
theorem dX3_readSigns_21 : decode cX3_readSigns 21 = .ok (.iload 5, 2) := by decide +kernel
theorem dX3_readSigns_23 : decode cX3_readSigns 23 = .ok (.ifCond .lt 10, 3) := by decide +kernel
theorem dX3_readSigns_26 : decode cX3_readSigns 26 = .ok (.aload_n 3, 1) := by decide +kernel
theorem dX3_readSigns_27 : decode cX3_readSigns 27 = .ok (.invokevirtual 58, 3) := by decide +kernel
theorem dX3_readSigns_30 : decode cX3_readSigns 30 = .ok (.ifCond .ne 5, 3) := by decide +kernel
theorem dX3_readSigns_33 : decode cX3_readSigns 33 = .ok (.iconst 0, 1) := by decide +kernel
theorem dX3_readSigns_34 : decode cX3_readSigns 34 = .ok (.ireturn, 1) := by decide +kernel
theorem dX3_readSigns_35 : decode cX3_readSigns 35 = .ok (.aload_n 3, 1) := by decide +kernel
theorem dX3_readSigns_36 : decode cX3_readSigns 36 = .ok (.aload_n 3, 1) := by decide +kernel
theorem dX3_readSigns_37 : decode cX3_readSigns 37 = .ok (.getfield 62, 3) := by decide +kernel
theorem dX3_readSigns_40 : decode cX3_readSigns 40 = .ok (.iload 5, 2) := by decide +kernel
theorem dX3_readSigns_42 : decode cX3_readSigns 42 = .ok (.invokevirtual 65, 3) := by decide +kernel
theorem dX3_readSigns_45 : decode cX3_readSigns 45 = .ok (.iinc 4 1, 3) := by decide +kernel
theorem dX3_readSigns_48 : decode cX3_readSigns 48 = .ok (.goto (-45), 3) := by decide +kernel
theorem dX3_readSigns_51 : decode cX3_readSigns 51 = .ok (.iconst 1, 1) := by decide +kernel
theorem dX3_readSigns_52 : decode cX3_readSigns 52 = .ok (.ireturn, 1) := by decide +kernel
theorem dX3_signOf_0 : decode cX3_signOf 0 = .ok (.iload_n 0, 1) := by decide +kernel
theorem dX3_signOf_1 : decode cX3_signOf 1 = .ok (.bipush 97, 2) := by decide +kernel
theorem dX3_signOf_3 : decode cX3_signOf 3 = .ok (.if_icmp .lt 14, 3) := by decide +kernel
theorem dX3_signOf_6 : decode cX3_signOf 6 = .ok (.iload_n 0, 1) := by decide +kernel
theorem dX3_signOf_7 : decode cX3_signOf 7 = .ok (.bipush 122, 2) := by decide +kernel
theorem dX3_signOf_9 : decode cX3_signOf 9 = .ok (.if_icmp .gt 8, 3) := by decide +kernel
theorem dX3_signOf_12 : decode cX3_signOf 12 = .ok (.iload_n 0, 1) := by decide +kernel
theorem dX3_signOf_13 : decode cX3_signOf 13 = .ok (.bipush 97, 2) := by decide +kernel
theorem dX3_signOf_15 : decode cX3_signOf 15 = .ok (.isub, 1) := by decide +kernel
theorem dX3_signOf_16 : decode cX3_signOf 16 = .ok (.ireturn, 1) := by decide +kernel
theorem dX3_signOf_17 : decode cX3_signOf 17 = .ok (.iload_n 0, 1) := by decide +kernel
theorem dX3_signOf_18 : decode cX3_signOf 18 = .ok (.bipush 62, 2) := by decide +kernel
theorem dX3_signOf_20 : decode cX3_signOf 20 = .ok (.if_icmp .ne 6, 3) := by decide +kernel
theorem dX3_signOf_23 : decode cX3_signOf 23 = .ok (.bipush 26, 2) := by decide +kernel
theorem dX3_signOf_25 : decode cX3_signOf 25 = .ok (.ireturn, 1) := by decide +kernel
theorem dX3_signOf_26 : decode cX3_signOf 26 = .ok (.iload_n 0, 1) := by decide +kernel
theorem dX3_signOf_27 : decode cX3_signOf 27 = .ok (.bipush 47, 2) := by decide +kernel
theorem dX3_signOf_29 : decode cX3_signOf 29 = .ok (.if_icmp .ne 8, 3) := by decide +kernel
theorem dX3_signOf_32 : decode cX3_signOf 32 = .ok (.bipush 27, 2) := by decide +kernel
theorem dX3_signOf_34 : decode cX3_signOf 34 = .ok (.goto 4, 3) := by decide +kernel
theorem dX3_signOf_37 : decode cX3_signOf 37 = .ok (.iconst (-1), 1) := by decide +kernel
theorem dX3_signOf_38 : decode cX3_signOf 38 = .ok (.ireturn, 1) := by decide +kernel
theorem dX3_readNumbers_0 : decode cX3_readNumbers 0 = .ok (.iconst 0, 1) := by decide +kernel
theorem dX3_readNumbers_1 : decode cX3_readNumbers 1 = .ok (.istore_n 3, 1) := by decide +kernel
theorem dX3_readNumbers_2 : decode cX3_readNumbers 2 = .ok (.iconst 0, 1) := by decide +kernel
theorem dX3_readNumbers_3 : decode cX3_readNumbers 3 = .ok (.istore 4, 2) := by decide +kernel
theorem dX3_readNumbers_5 : decode cX3_readNumbers 5 = .ok (.iconst 0, 1) := by decide +kernel
theorem dX3_readNumbers_6 : decode cX3_readNumbers 6 = .ok (.istore 5, 2) := by decide +kernel
theorem dX3_readNumbers_8 : decode cX3_readNumbers 8 = .ok (.iload_n 1, 1) := by decide +kernel
theorem dX3_readNumbers_9 : decode cX3_readNumbers 9 = .ok (.istore 6, 2) := by decide +kernel
theorem dX3_readNumbers_11 : decode cX3_readNumbers 11 = .ok (.iload 6, 2) := by decide +kernel
theorem dX3_readNumbers_13 : decode cX3_readNumbers 13 = .ok (.iload_n 2, 1) := by decide +kernel
theorem dX3_readNumbers_14 : decode cX3_readNumbers 14 = .ok (.if_icmp .gt 113, 3) := by decide +kernel
theorem dX3_readNumbers_17 : decode cX3_readNumbers 17 = .ok (.iload 6, 2) := by decide +kernel
theorem dX3_readNumbers_19 : decode cX3_readNumbers 19 = .ok (.iload_n 2, 1) := by decide +kernel
theorem dX3_readNumbers_20 : decode cX3_readNumbers 20 = .ok (.if_icmp .ge 13, 3) := by decide +kernel
theorem dX3_readNumbers_23 : decode cX3_readNumbers 23 = .ok (.aload_n 0, 1) := by decide +kernel
theorem dX3_readNumbers_24 : decode cX3_readNumbers 24 = .ok (.getfield 9, 3) := by decide +kernel
theorem dX3_readNumbers_27 : decode cX3_readNumbers 27 = .ok (.iload 6, 2) := by decide +kernel
theorem dX3_readNumbers_29 : decode cX3_readNumbers 29 = .ok (.iaload, 1) := by decide +kernel
theorem dX3_readNumbers_30 : decode cX3_readNumbers 30 = .ok (.goto 5, 3) := by decide +kernel
theorem dX3_readNumbers_33 : decode cX3_readNumbers 33 = .ok (.bipush 44, 2) := by decide +kernel
theorem dX3_readNumbers_35 : decode cX3_readNumbers 35 = .ok (.istore 7, 2) := by decide +kernel
theorem dX3_readNumbers_37 : decode cX3_readNumbers 37 = .ok (.iload 7, 2) := by decide +kernel
theorem dX3_readNumbers_39 : decode cX3_readNumbers 39 = .ok (.bipush 44, 2) := by decide +kernel
theorem dX3_readNumbers_41 : decode cX3_readNumbers 41 = .ok (.if_icmp .ne 39, 3) := by decide +kernel
theorem dX3_readNumbers_44 : decode cX3_readNumbers 44 = .ok (.iload 4, 2) := by decide +kernel
theorem dX3_readNumbers_46 : decode cX3_readNumbers 46 = .ok (.ifCond .eq 12, 3) := by decide +kernel
theorem dX3_readNumbers_49 : decode cX3_readNumbers 49 = .ok (.iload_n 3, 1) := by decide +kernel
theorem dX3_readNumbers_50 : decode cX3_readNumbers 50 = .ok (.aload_n 0, 1) := by decide +kernel
theorem dX3_readNumbers_51 : decode cX3_readNumbers 51 = .ok (.getfield 15, 3) := by decide +kernel
theorem dX3_readNumbers_54 : decode cX3_readNumbers 54 = .ok (.arraylength, 1) := by decide +kernel
theorem dX3_readNumbers_55 : decode cX3_readNumbers 55 = .ok (.if_icmp .lt 5, 3) := by decide +kernel
theorem dX3_readNumbers_58 : decode cX3_readNumbers 58 = .ok (.iconst (-1), 1) := by decide +kernel
theorem dX3_readNumbers_59 : decode cX3_readNumbers 59 = .ok (.ireturn, 1) := by decide +kernel
theorem dX3_readNumbers_60 : decode cX3_readNumbers 60 = .ok (.aload_n 0, 1) := by decide +kernel
theorem dX3_readNumbers_61 : decode cX3_readNumbers 61 = .ok (.getfield 15, 3) := by decide +kernel
theorem dX3_readNumbers_64 : decode cX3_readNumbers 64 = .ok (.iload_n 3, 1) := by decide +kernel
theorem dX3_readNumbers_65 : decode cX3_readNumbers 65 = .ok (.iload 5, 2) := by decide +kernel
theorem dX3_readNumbers_67 : decode cX3_readNumbers 67 = .ok (.iastore, 1) := by decide +kernel
theorem dX3_readNumbers_68 : decode cX3_readNumbers 68 = .ok (.iinc 3 1, 3) := by decide +kernel
theorem dX3_readNumbers_71 : decode cX3_readNumbers 71 = .ok (.iconst 0, 1) := by decide +kernel
theorem dX3_readNumbers_72 : decode cX3_readNumbers 72 = .ok (.istore 4, 2) := by decide +kernel
theorem dX3_readNumbers_74 : decode cX3_readNumbers 74 = .ok (.iconst 0, 1) := by decide +kernel
theorem dX3_readNumbers_75 : decode cX3_readNumbers 75 = .ok (.istore 5, 2) := by decide +kernel
theorem dX3_readNumbers_77 : decode cX3_readNumbers 77 = .ok (.goto 44, 3) := by decide +kernel
theorem dX3_readNumbers_80 : decode cX3_readNumbers 80 = .ok (.iload 7, 2) := by decide +kernel
theorem dX3_readNumbers_82 : decode cX3_readNumbers 82 = .ok (.bipush 48, 2) := by decide +kernel
theorem dX3_readNumbers_84 : decode cX3_readNumbers 84 = .ok (.if_icmp .lt 35, 3) := by decide +kernel
theorem dX3_readNumbers_87 : decode cX3_readNumbers 87 = .ok (.iload 7, 2) := by decide +kernel
theorem dX3_readNumbers_89 : decode cX3_readNumbers 89 = .ok (.bipush 57, 2) := by decide +kernel
theorem dX3_readNumbers_91 : decode cX3_readNumbers 91 = .ok (.if_icmp .gt 28, 3) := by decide +kernel
theorem dX3_readNumbers_94 : decode cX3_readNumbers 94 = .ok (.iload 4, 2) := by decide +kernel
theorem dX3_readNumbers_96 : decode cX3_readNumbers 96 = .ok (.iconst 2, 1) := by decide +kernel
theorem dX3_readNumbers_97 : decode cX3_readNumbers 97 = .ok (.if_icmp .ge 22, 3) := by decide +kernel
theorem dX3_readNumbers_100 : decode cX3_readNumbers 100 = .ok (.iload 5, 2) := by decide +kernel
theorem dX3_readNumbers_102 : decode cX3_readNumbers 102 = .ok (.bipush 10, 2) := by decide +kernel
theorem dX3_readNumbers_104 : decode cX3_readNumbers 104 = .ok (.imul, 1) := by decide +kernel
theorem dX3_readNumbers_105 : decode cX3_readNumbers 105 = .ok (.iload 7, 2) := by decide +kernel
theorem dX3_readNumbers_107 : decode cX3_readNumbers 107 = .ok (.bipush 48, 2) := by decide +kernel
theorem dX3_readNumbers_109 : decode cX3_readNumbers 109 = .ok (.isub, 1) := by decide +kernel
theorem dX3_readNumbers_110 : decode cX3_readNumbers 110 = .ok (.iadd, 1) := by decide +kernel
theorem dX3_readNumbers_111 : decode cX3_readNumbers 111 = .ok (.istore 5, 2) := by decide +kernel
theorem dX3_readNumbers_113 : decode cX3_readNumbers 113 = .ok (.iinc 4 1, 3) := by decide +kernel
theorem dX3_readNumbers_116 : decode cX3_readNumbers 116 = .ok (.goto 5, 3) := by decide +kernel
theorem dX3_readNumbers_119 : decode cX3_readNumbers 119 = .ok (.iconst (-1), 1) := by decide +kernel
theorem dX3_readNumbers_120 : decode cX3_readNumbers 120 = .ok (.ireturn, 1) := by decide +kernel
theorem dX3_readNumbers_121 : decode cX3_readNumbers 121 = .ok (.iinc 6 1, 3) := by decide +kernel
theorem dX3_readNumbers_124 : decode cX3_readNumbers 124 = .ok (.goto (-113), 3) := by decide +kernel
theorem dX3_readNumbers_127 : decode cX3_readNumbers 127 = .ok (.iload_n 3, 1) := by decide +kernel
theorem dX3_readNumbers_128 : decode cX3_readNumbers 128 = .ok (.ireturn, 1) := by decide +kernel
theorem dX3_readFold_0 : decode cX3_readFold 0 = .ok (.aload_n 1, 1) := by decide +kernel
theorem dX3_readFold_1 : decode cX3_readFold 1 = .ok (.aload_n 0, 1) := by decide +kernel
theorem dX3_readFold_2 : decode cX3_readFold 2 = .ok (.getfield 15, 3) := by decide +kernel
theorem dX3_readFold_5 : decode cX3_readFold 5 = .ok (.iconst 0, 1) := by decide +kernel
theorem dX3_readFold_6 : decode cX3_readFold 6 = .ok (.iaload, 1) := by decide +kernel
theorem dX3_readFold_7 : decode cX3_readFold 7 = .ok (.aload_n 0, 1) := by decide +kernel
theorem dX3_readFold_8 : decode cX3_readFold 8 = .ok (.getfield 15, 3) := by decide +kernel
theorem dX3_readFold_11 : decode cX3_readFold 11 = .ok (.iconst 1, 1) := by decide +kernel
theorem dX3_readFold_12 : decode cX3_readFold 12 = .ok (.iaload, 1) := by decide +kernel
theorem dX3_readFold_13 : decode cX3_readFold 13 = .ok (.invokevirtual 69, 3) := by decide +kernel
theorem dX3_readFold_16 : decode cX3_readFold 16 = .ok (.ifCond .eq 5, 3) := by decide +kernel
theorem dX3_readFold_19 : decode cX3_readFold 19 = .ok (.iconst 0, 1) := by decide +kernel
theorem dX3_readFold_20 : decode cX3_readFold 20 = .ok (.ireturn, 1) := by decide +kernel
theorem dX3_readFold_21 : decode cX3_readFold 21 = .ok (.aload_n 1, 1) := by decide +kernel
theorem dX3_readFold_22 : decode cX3_readFold 22 = .ok (.aload_n 0, 1) := by decide +kernel
theorem dX3_readFold_23 : decode cX3_readFold 23 = .ok (.getfield 15, 3) := by decide +kernel
theorem dX3_readFold_26 : decode cX3_readFold 26 = .ok (.iconst 0, 1) := by decide +kernel
theorem dX3_readFold_27 : decode cX3_readFold 27 = .ok (.iaload, 1) := by decide +kernel
theorem dX3_readFold_28 : decode cX3_readFold 28 = .ok (.aload_n 0, 1) := by decide +kernel
theorem dX3_readFold_29 : decode cX3_readFold 29 = .ok (.getfield 15, 3) := by decide +kernel
theorem dX3_readFold_32 : decode cX3_readFold 32 = .ok (.iconst 1, 1) := by decide +kernel
theorem dX3_readFold_33 : decode cX3_readFold 33 = .ok (.iaload, 1) := by decide +kernel
theorem dX3_readFold_34 : decode cX3_readFold 34 = .ok (.invokevirtual 72, 3) := by decide +kernel
theorem dX3_readFold_37 : decode cX3_readFold 37 = .ok (.pop, 1) := by decide +kernel
theorem dX3_readFold_38 : decode cX3_readFold 38 = .ok (.iconst 1, 1) := by decide +kernel
theorem dX3_readFold_39 : decode cX3_readFold 39 = .ok (.ireturn, 1) := by decide +kernel
theorem dX3_readHint_0 : decode cX3_readHint 0 = .ok (.aload_n 1, 1) := by decide +kernel
theorem dX3_readHint_1 : decode cX3_readHint 1 = .ok (.aload_n 0, 1) := by decide +kernel
theorem dX3_readHint_2 : decode cX3_readHint 2 = .ok (.getfield 15, 3) := by decide +kernel
theorem dX3_readHint_5 : decode cX3_readHint 5 = .ok (.iconst 0, 1) := by decide +kernel
theorem dX3_readHint_6 : decode cX3_readHint 6 = .ok (.iaload, 1) := by decide +kernel
theorem dX3_readHint_7 : decode cX3_readHint 7 = .ok (.aload_n 0, 1) := by decide +kernel
theorem dX3_readHint_8 : decode cX3_readHint 8 = .ok (.getfield 15, 3) := by decide +kernel
theorem dX3_readHint_11 : decode cX3_readHint 11 = .ok (.iconst 1, 1) := by decide +kernel
theorem dX3_readHint_12 : decode cX3_readHint 12 = .ok (.iaload, 1) := by decide +kernel
theorem dX3_readHint_13 : decode cX3_readHint 13 = .ok (.invokevirtual 75, 3) := by decide +kernel
theorem dX3_readHint_16 : decode cX3_readHint 16 = .ok (.ifCond .eq 5, 3) := by decide +kernel
theorem dX3_readHint_19 : decode cX3_readHint 19 = .ok (.iconst 0, 1) := by decide +kernel
theorem dX3_readHint_20 : decode cX3_readHint 20 = .ok (.ireturn, 1) := by decide +kernel
theorem dX3_readHint_21 : decode cX3_readHint 21 = .ok (.aload_n 1, 1) := by decide +kernel
theorem dX3_readHint_22 : decode cX3_readHint 22 = .ok (.aload_n 0, 1) := by decide +kernel
theorem dX3_readHint_23 : decode cX3_readHint 23 = .ok (.getfield 15, 3) := by decide +kernel
theorem dX3_readHint_26 : decode cX3_readHint 26 = .ok (.iconst 0, 1) := by decide +kernel
theorem dX3_readHint_27 : decode cX3_readHint 27 = .ok (.iaload, 1) := by decide +kernel
theorem dX3_readHint_28 : decode cX3_readHint 28 = .ok (.aload_n 0, 1) := by decide +kernel
theorem dX3_readHint_29 : decode cX3_readHint 29 = .ok (.getfield 15, 3) := by decide +kernel
theorem dX3_readHint_32 : decode cX3_readHint 32 = .ok (.iconst 1, 1) := by decide +kernel
theorem dX3_readHint_33 : decode cX3_readHint 33 = .ok (.iaload, 1) := by decide +kernel
theorem dX3_readHint_34 : decode cX3_readHint 34 = .ok (.invokevirtual 78, 3) := by decide +kernel
theorem dX3_readHint_37 : decode cX3_readHint 37 = .ok (.pop, 1) := by decide +kernel
theorem dX3_readHint_38 : decode cX3_readHint 38 = .ok (.iconst 1, 1) := by decide +kernel
theorem dX3_readHint_39 : decode cX3_readHint 39 = .ok (.ireturn, 1) := by decide +kernel
theorem dX3_readFlow_0 : decode cX3_readFlow 0 = .ok (.aload_n 0, 1) := by decide +kernel
theorem dX3_readFlow_1 : decode cX3_readFlow 1 = .ok (.getfield 15, 3) := by decide +kernel
theorem dX3_readFlow_4 : decode cX3_readFlow 4 = .ok (.iconst 0, 1) := by decide +kernel
theorem dX3_readFlow_5 : decode cX3_readFlow 5 = .ok (.iaload, 1) := by decide +kernel
theorem dX3_readFlow_6 : decode cX3_readFlow 6 = .ok (.aload_n 0, 1) := by decide +kernel
theorem dX3_readFlow_7 : decode cX3_readFlow 7 = .ok (.getfield 15, 3) := by decide +kernel
theorem dX3_readFlow_10 : decode cX3_readFlow 10 = .ok (.iconst 1, 1) := by decide +kernel
theorem dX3_readFlow_11 : decode cX3_readFlow 11 = .ok (.iaload, 1) := by decide +kernel
theorem dX3_readFlow_12 : decode cX3_readFlow 12 = .ok (.aload_n 0, 1) := by decide +kernel
theorem dX3_readFlow_13 : decode cX3_readFlow 13 = .ok (.getfield 15, 3) := by decide +kernel
theorem dX3_readFlow_16 : decode cX3_readFlow 16 = .ok (.iconst 2, 1) := by decide +kernel
theorem dX3_readFlow_17 : decode cX3_readFlow 17 = .ok (.iaload, 1) := by decide +kernel
theorem dX3_readFlow_18 : decode cX3_readFlow 18 = .ok (.invokestatic 81, 3) := by decide +kernel
theorem dX3_readFlow_21 : decode cX3_readFlow 21 = .ok (.ifCond .ne 5, 3) := by decide +kernel
theorem dX3_readFlow_24 : decode cX3_readFlow 24 = .ok (.iconst 0, 1) := by decide +kernel
theorem dX3_readFlow_25 : decode cX3_readFlow 25 = .ok (.ireturn, 1) := by decide +kernel
theorem dX3_readFlow_26 : decode cX3_readFlow 26 = .ok (.aload_n 1, 1) := by decide +kernel
theorem dX3_readFlow_27 : decode cX3_readFlow 27 = .ok (.aload_n 0, 1) := by decide +kernel
theorem dX3_readFlow_28 : decode cX3_readFlow 28 = .ok (.getfield 15, 3) := by decide +kernel
theorem dX3_readFlow_31 : decode cX3_readFlow 31 = .ok (.iconst 0, 1) := by decide +kernel
theorem dX3_readFlow_32 : decode cX3_readFlow 32 = .ok (.iaload, 1) := by decide +kernel
theorem dX3_readFlow_33 : decode cX3_readFlow 33 = .ok (.aload_n 0, 1) := by decide +kernel
theorem dX3_readFlow_34 : decode cX3_readFlow 34 = .ok (.getfield 15, 3) := by decide +kernel
theorem dX3_readFlow_37 : decode cX3_readFlow 37 = .ok (.iconst 1, 1) := by decide +kernel
theorem dX3_readFlow_38 : decode cX3_readFlow 38 = .ok (.iaload, 1) := by decide +kernel
theorem dX3_readFlow_39 : decode cX3_readFlow 39 = .ok (.aload_n 0, 1) := by decide +kernel
theorem dX3_readFlow_40 : decode cX3_readFlow 40 = .ok (.getfield 15, 3) := by decide +kernel
theorem dX3_readFlow_43 : decode cX3_readFlow 43 = .ok (.iconst 2, 1) := by decide +kernel
theorem dX3_readFlow_44 : decode cX3_readFlow 44 = .ok (.iaload, 1) := by decide +kernel
theorem dX3_readFlow_45 : decode cX3_readFlow 45 = .ok (.invokevirtual 85, 3) := by decide +kernel
theorem dX3_readFlow_48 : decode cX3_readFlow 48 = .ok (.iconst 1, 1) := by decide +kernel
theorem dX3_readFlow_49 : decode cX3_readFlow 49 = .ok (.ireturn, 1) := by decide +kernel
theorem dX3_readTabStep_0 : decode cX3_readTabStep 0 = .ok (.aload_n 0, 1) := by decide +kernel
theorem dX3_readTabStep_1 : decode cX3_readTabStep 1 = .ok (.getfield 15, 3) := by decide +kernel
theorem dX3_readTabStep_4 : decode cX3_readTabStep 4 = .ok (.iconst 0, 1) := by decide +kernel
theorem dX3_readTabStep_5 : decode cX3_readTabStep 5 = .ok (.iaload, 1) := by decide +kernel
theorem dX3_readTabStep_6 : decode cX3_readTabStep 6 = .ok (.invokestatic 89, 3) := by decide +kernel
theorem dX3_readTabStep_9 : decode cX3_readTabStep 9 = .ok (.ifCond .ne 5, 3) := by decide +kernel
theorem dX3_readTabStep_12 : decode cX3_readTabStep 12 = .ok (.iconst 0, 1) := by decide +kernel
theorem dX3_readTabStep_13 : decode cX3_readTabStep 13 = .ok (.ireturn, 1) := by decide +kernel
theorem dX3_readTabStep_14 : decode cX3_readTabStep 14 = .ok (.aload_n 1, 1) := by decide +kernel
theorem dX3_readTabStep_15 : decode cX3_readTabStep 15 = .ok (.aload_n 0, 1) := by decide +kernel
theorem dX3_readTabStep_16 : decode cX3_readTabStep 16 = .ok (.getfield 15, 3) := by decide +kernel
theorem dX3_readTabStep_19 : decode cX3_readTabStep 19 = .ok (.iconst 0, 1) := by decide +kernel
theorem dX3_readTabStep_20 : decode cX3_readTabStep 20 = .ok (.iaload, 1) := by decide +kernel
theorem dX3_readTabStep_21 : decode cX3_readTabStep 21 = .ok (.putfield 93, 3) := by decide +kernel
theorem dX3_readTabStep_24 : decode cX3_readTabStep 24 = .ok (.iconst 1, 1) := by decide +kernel
theorem dX3_readTabStep_25 : decode cX3_readTabStep 25 = .ok (.ireturn, 1) := by decide +kernel
theorem dX4_init_0 : decode cX4_init 0 = .ok (.aload_n 0, 1) := by decide +kernel
theorem dX4_init_1 : decode cX4_init 1 = .ok (.invokespecial 3, 3) := by decide +kernel
theorem dX4_init_4 : decode cX4_init 4 = .ok (.aload_n 0, 1) := by decide +kernel
theorem dX4_init_5 : decode cX4_init 5 = .ok (.new 9, 3) := by decide +kernel
theorem dX4_init_8 : decode cX4_init 8 = .ok (.dup, 1) := by decide +kernel
theorem dX4_init_9 : decode cX4_init 9 = .ok (.invokespecial 11, 3) := by decide +kernel
theorem dX4_init_12 : decode cX4_init 12 = .ok (.putfield 12, 3) := by decide +kernel
theorem dX4_init_15 : decode cX4_init 15 = .ok (.aload_n 0, 1) := by decide +kernel
theorem dX4_init_16 : decode cX4_init 16 = .ok (.new 16, 3) := by decide +kernel
theorem dX4_init_19 : decode cX4_init 19 = .ok (.dup, 1) := by decide +kernel
theorem dX4_init_20 : decode cX4_init 20 = .ok (.invokespecial 18, 3) := by decide +kernel
theorem dX4_init_23 : decode cX4_init 23 = .ok (.putfield 19, 3) := by decide +kernel
theorem dX4_init_26 : decode cX4_init 26 = .ok (.aload_n 0, 1) := by decide +kernel
theorem dX4_init_27 : decode cX4_init 27 = .ok (.new 23, 3) := by decide +kernel
theorem dX4_init_30 : decode cX4_init 30 = .ok (.dup, 1) := by decide +kernel
theorem dX4_init_31 : decode cX4_init 31 = .ok (.bipush 8, 2) := by decide +kernel
theorem dX4_init_33 : decode cX4_init 33 = .ok (.invokespecial 25, 3) := by decide +kernel
theorem dX4_init_36 : decode cX4_init 36 = .ok (.putfield 28, 3) := by decide +kernel
theorem dX4_init_39 : decode cX4_init 39 = .ok (.aload_n 0, 1) := by decide +kernel
theorem dX4_init_40 : decode cX4_init 40 = .ok (.new 23, 3) := by decide +kernel
theorem dX4_init_43 : decode cX4_init 43 = .ok (.dup, 1) := by decide +kernel
theorem dX4_init_44 : decode cX4_init 44 = .ok (.iconst 2, 1) := by decide +kernel
theorem dX4_init_45 : decode cX4_init 45 = .ok (.invokespecial 25, 3) := by decide +kernel
theorem dX4_init_48 : decode cX4_init 48 = .ok (.putfield 32, 3) := by decide +kernel
theorem dX4_init_51 : decode cX4_init 51 = .ok (.aload_n 0, 1) := by decide +kernel
theorem dX4_init_52 : decode cX4_init 52 = .ok (.new 35, 3) := by decide +kernel
theorem dX4_init_55 : decode cX4_init 55 = .ok (.dup, 1) := by decide +kernel
theorem dX4_init_56 : decode cX4_init 56 = .ok (.invokespecial 37, 3) := by decide +kernel
theorem dX4_init_59 : decode cX4_init 59 = .ok (.putfield 38, 3) := by decide +kernel
theorem dX4_init_62 : decode cX4_init 62 = .ok (.aload_n 0, 1) := by decide +kernel
theorem dX4_init_63 : decode cX4_init 63 = .ok (.new 35, 3) := by decide +kernel
theorem dX4_init_66 : decode cX4_init 66 = .ok (.dup, 1) := by decide +kernel
theorem dX4_init_67 : decode cX4_init 67 = .ok (.invokespecial 37, 3) := by decide +kernel
theorem dX4_init_70 : decode cX4_init 70 = .ok (.putfield 42, 3) := by decide +kernel
theorem dX4_init_73 : decode cX4_init 73 = .ok (.aload_n 0, 1) := by decide +kernel
theorem dX4_init_74 : decode cX4_init 74 = .ok (.new 16, 3) := by decide +kernel
theorem dX4_init_77 : decode cX4_init 77 = .ok (.dup, 1) := by decide +kernel
theorem dX4_init_78 : decode cX4_init 78 = .ok (.invokespecial 18, 3) := by decide +kernel
theorem dX4_init_81 : decode cX4_init 81 = .ok (.putfield 45, 3) := by decide +kernel
theorem dX4_init_84 : decode cX4_init 84 = .ok (.aload_n 0, 1) := by decide +kernel
theorem dX4_init_85 : decode cX4_init 85 = .ok (.new 35, 3) := by decide +kernel
theorem dX4_init_88 : decode cX4_init 88 = .ok (.dup, 1) := by decide +kernel
theorem dX4_init_89 : decode cX4_init 89 = .ok (.invokespecial 37, 3) := by decide +kernel
theorem dX4_init_92 : decode cX4_init 92 = .ok (.putfield 48, 3) := by decide +kernel
theorem dX4_init_95 : decode cX4_init 95 = .ok (.iconst 0, 1) := by decide +kernel
theorem dX4_init_96 : decode cX4_init 96 = .ok (.istore_n 1, 1) := by decide +kernel
theorem dX4_init_97 : decode cX4_init 97 = .ok (.iload_n 1, 1) := by decide +kernel
theorem dX4_init_98 : decode cX4_init 98 = .ok (.ldc 51, 2) := by decide +kernel
theorem dX4_init_100 : decode cX4_init 100 = .ok (.invokevirtual 53, 3) := by decide +kernel
theorem dX4_init_103 : decode cX4_init 103 = .ok (.if_icmp .ge 23, 3) := by decide +kernel
theorem dX4_init_106 : decode cX4_init 106 = .ok (.aload_n 0, 1) := by decide +kernel
theorem dX4_init_107 : decode cX4_init 107 = .ok (.getfield 12, 3) := by decide +kernel
theorem dX4_init_110 : decode cX4_init 110 = .ok (.ldc 51, 2) := by decide +kernel
theorem dX4_init_112 : decode cX4_init 112 = .ok (.iload_n 1, 1) := by decide +kernel
theorem dX4_init_113 : decode cX4_init 113 = .ok (.invokevirtual 59, 3) := by decide +kernel
theorem dX4_init_116 : decode cX4_init 116 = .ok (.invokevirtual 63, 3) := by decide +kernel
theorem dX4_init_119 : decode cX4_init 119 = .ok (.pop, 1) := by decide +kernel
theorem dX4_init_120 : decode cX4_init 120 = .ok (.iinc 1 1, 3) := by decide +kernel
theorem dX4_init_123 : decode cX4_init 123 = .ok (.goto (-26), 3) := by decide +kernel
theorem dX4_init_126 : decode cX4_init 126 = .ok (.aload_n 0, 1) := by decide +kernel
theorem dX4_init_127 : decode cX4_init 127 = .ok (.getfield 12, 3) := by decide +kernel
theorem dX4_init_130 : decode cX4_init 130 = .ok (.aload_n 0, 1) := by decide +kernel
theorem dX4_init_131 : decode cX4_init 131 = .ok (.getfield 19, 3) := by decide +kernel
theorem dX4_init_134 : decode cX4_init 134 = .ok (.invokevirtual 67, 3) := by decide +kernel
theorem dX4_init_137 : decode cX4_init 137 = .ok (.pop, 1) := by decide +kernel
theorem dX4_init_138 : decode cX4_init 138 = .ok (.aload_n 0, 1) := by decide +kernel
theorem dX4_init_139 : decode cX4_init 139 = .ok (.getfield 12, 3) := by decide +kernel
theorem dX4_init_142 : decode cX4_init 142 = .ok (.iconst 0, 1) := by decide +kernel
theorem dX4_init_143 : decode cX4_init 143 = .ok (.putfield 71, 3) := by decide +kernel
theorem dX4_init_146 : decode cX4_init 146 = .ok (.aload_n 0, 1) := by decide +kernel
theorem dX4_init_147 : decode cX4_init 147 = .ok (.getfield 38, 3) := by decide +kernel
theorem dX4_init_150 : decode cX4_init 150 = .ok (.aload_n 0, 1) := by decide +kernel
theorem dX4_init_151 : decode cX4_init 151 = .ok (.getfield 19, 3) := by decide +kernel
theorem dX4_init_154 : decode cX4_init 154 = .ok (.invokevirtual 74, 3) := by decide +kernel
theorem dX4_init_157 : decode cX4_init 157 = .ok (.pop, 1) := by decide +kernel
theorem dX4_init_158 : decode cX4_init 158 = .ok (.return_, 1) := by decide +kernel
theorem dX4_write_0 : decode cX4_write 0 = .ok (.iload_n 1, 1) := by decide +kernel
theorem dX4_write_1 : decode cX4_write 1 = .ok (.bipush 32, 2) := by decide +kernel
theorem dX4_write_3 : decode cX4_write 3 = .ok (.if_icmp .lt 9, 3) := by decide +kernel
theorem dX4_write_6 : decode cX4_write 6 = .ok (.iload_n 1, 1) := by decide +kernel
theorem dX4_write_7 : decode cX4_write 7 = .ok (.bipush 126, 2) := by decide +kernel
theorem dX4_write_9 : decode cX4_write 9 = .ok (.if_icmp .le 5, 3) := by decide +kernel
theorem dX4_write_12 : decode cX4_write 12 = .ok (.iconst (-1), 1) := by decide +kernel
theorem dX4_write_13 : decode cX4_write 13 = .ok (.ireturn, 1) := by decide +kernel
theorem dX4_write_14 : decode cX4_write 14 = .ok (.aload_n 0, 1) := by decide +kernel
theorem dX4_write_15 : decode cX4_write 15 = .ok (.getfield 12, 3) := by decide +kernel
theorem dX4_write_18 : decode cX4_write 18 = .ok (.iload_n 1, 1) := by decide +kernel
theorem dX4_write_19 : decode cX4_write 19 = .ok (.invokevirtual 63, 3) := by decide +kernel
theorem dX4_write_22 : decode cX4_write 22 = .ok (.ifCond .eq 13, 3) := by decide +kernel
theorem dX4_write_25 : decode cX4_write 25 = .ok (.aload_n 0, 1) := by decide +kernel
theorem dX4_write_26 : decode cX4_write 26 = .ok (.getfield 12, 3) := by decide +kernel
theorem dX4_write_29 : decode cX4_write 29 = .ok (.getfield 71, 3) := by decide +kernel
theorem dX4_write_32 : decode cX4_write 32 = .ok (.goto 5, 3) := by decide +kernel
theorem dX4_write_35 : decode cX4_write 35 = .ok (.bipush (-3), 2) := by decide +kernel
theorem dX4_write_37 : decode cX4_write 37 = .ok (.ireturn, 1) := by decide +kernel
theorem dX4_wipe_0 : decode cX4_wipe 0 = .ok (.aload_n 0, 1) := by decide +kernel
theorem dX4_wipe_1 : decode cX4_wipe 1 = .ok (.getfield 12, 3) := by decide +kernel
theorem dX4_wipe_4 : decode cX4_wipe 4 = .ok (.getfield 71, 3) := by decide +kernel
theorem dX4_wipe_7 : decode cX4_wipe 7 = .ok (.istore_n 1, 1) := by decide +kernel
theorem dX4_wipe_8 : decode cX4_wipe 8 = .ok (.aload_n 0, 1) := by decide +kernel
theorem dX4_wipe_9 : decode cX4_wipe 9 = .ok (.getfield 12, 3) := by decide +kernel
theorem dX4_wipe_12 : decode cX4_wipe 12 = .ok (.iconst 0, 1) := by decide +kernel
theorem dX4_wipe_13 : decode cX4_wipe 13 = .ok (.putfield 71, 3) := by decide +kernel
theorem dX4_wipe_16 : decode cX4_wipe 16 = .ok (.iload_n 1, 1) := by decide +kernel
theorem dX4_wipe_17 : decode cX4_wipe 17 = .ok (.ireturn, 1) := by decide +kernel
theorem dX4_fault_0 : decode cX4_fault 0 = .ok (.aload_n 0, 1) := by decide +kernel
theorem dX4_fault_1 : decode cX4_fault 1 = .ok (.getfield 12, 3) := by decide +kernel
theorem dX4_fault_4 : decode cX4_fault 4 = .ok (.aload_n 0, 1) := by decide +kernel
theorem dX4_fault_5 : decode cX4_fault 5 = .ok (.getfield 45, 3) := by decide +kernel
theorem dX4_fault_8 : decode cX4_fault 8 = .ok (.invokevirtual 67, 3) := by decide +kernel
theorem dX4_fault_11 : decode cX4_fault 11 = .ok (.ireturn, 1) := by decide +kernel
theorem dX4_lay_0 : decode cX4_lay 0 = .ok (.aload_n 0, 1) := by decide +kernel
theorem dX4_lay_1 : decode cX4_lay 1 = .ok (.getfield 12, 3) := by decide +kernel
theorem dX4_lay_4 : decode cX4_lay 4 = .ok (.aload_n 0, 1) := by decide +kernel
theorem dX4_lay_5 : decode cX4_lay 5 = .ok (.getfield 45, 3) := by decide +kernel
theorem dX4_lay_8 : decode cX4_lay 8 = .ok (.invokevirtual 67, 3) := by decide +kernel
theorem dX4_lay_11 : decode cX4_lay 11 = .ok (.bipush (-4), 2) := by decide +kernel
theorem dX4_lay_13 : decode cX4_lay 13 = .ok (.if_icmp .eq 6, 3) := by decide +kernel
theorem dX4_lay_16 : decode cX4_lay 16 = .ok (.bipush (-2), 2) := by decide +kernel
theorem dX4_lay_18 : decode cX4_lay 18 = .ok (.ireturn, 1) := by decide +kernel
theorem dX4_lay_19 : decode cX4_lay 19 = .ok (.aload_n 0, 1) := by decide +kernel
theorem dX4_lay_20 : decode cX4_lay 20 = .ok (.getfield 32, 3) := by decide +kernel
theorem dX4_lay_23 : decode cX4_lay 23 = .ok (.iconst 0, 1) := by decide +kernel
theorem dX4_lay_24 : decode cX4_lay 24 = .ok (.putfield 77, 3) := by decide +kernel
theorem dX4_lay_27 : decode cX4_lay 27 = .ok (.aload_n 0, 1) := by decide +kernel
theorem dX4_lay_28 : decode cX4_lay 28 = .ok (.aload_n 0, 1) := by decide +kernel
theorem dX4_lay_29 : decode cX4_lay 29 = .ok (.getfield 45, 3) := by decide +kernel
theorem dX4_lay_32 : decode cX4_lay 32 = .ok (.invokevirtual 80, 3) := by decide +kernel
theorem dX4_lay_35 : decode cX4_lay 35 = .ok (.aload_n 0, 1) := by decide +kernel
theorem dX4_lay_36 : decode cX4_lay 36 = .ok (.getfield 19, 3) := by decide +kernel
theorem dX4_lay_39 : decode cX4_lay 39 = .ok (.getfield 84, 3) := by decide +kernel
theorem dX4_lay_42 : decode cX4_lay 42 = .ok (.ireturn, 1) := by decide +kernel
theorem dX4_sign_0 : decode cX4_sign 0 = .ok (.aload_n 0, 1) := by decide +kernel
theorem dX4_sign_1 : decode cX4_sign 1 = .ok (.getfield 19, 3) := by decide +kernel
theorem dX4_sign_4 : decode cX4_sign 4 = .ok (.iload_n 1, 1) := by decide +kernel
theorem dX4_sign_5 : decode cX4_sign 5 = .ok (.invokevirtual 87, 3) := by decide +kernel
theorem dX4_sign_8 : decode cX4_sign 8 = .ok (.ifCond .ne 5, 3) := by decide +kernel
theorem dX4_sign_11 : decode cX4_sign 11 = .ok (.iconst (-1), 1) := by decide +kernel
theorem dX4_sign_12 : decode cX4_sign 12 = .ok (.ireturn, 1) := by decide +kernel
theorem dX4_sign_13 : decode cX4_sign 13 = .ok (.aload_n 0, 1) := by decide +kernel
theorem dX4_sign_14 : decode cX4_sign 14 = .ok (.getfield 19, 3) := by decide +kernel
theorem dX4_sign_17 : decode cX4_sign 17 = .ok (.iload_n 1, 1) := by decide +kernel
theorem dX4_sign_18 : decode cX4_sign 18 = .ok (.invokevirtual 90, 3) := by decide +kernel
theorem dX4_sign_21 : decode cX4_sign 21 = .ok (.ireturn, 1) := by decide +kernel
theorem dX4_fold_0 : decode cX4_fold 0 = .ok (.aload_n 0, 1) := by decide +kernel
theorem dX4_fold_1 : decode cX4_fold 1 = .ok (.getfield 19, 3) := by decide +kernel
theorem dX4_fold_4 : decode cX4_fold 4 = .ok (.iload_n 1, 1) := by decide +kernel
theorem dX4_fold_5 : decode cX4_fold 5 = .ok (.invokevirtual 94, 3) := by decide +kernel
theorem dX4_fold_8 : decode cX4_fold 8 = .ok (.ifCond .ne 5, 3) := by decide +kernel
theorem dX4_fold_11 : decode cX4_fold 11 = .ok (.iconst (-1), 1) := by decide +kernel
theorem dX4_fold_12 : decode cX4_fold 12 = .ok (.ireturn, 1) := by decide +kernel
theorem dX4_fold_13 : decode cX4_fold 13 = .ok (.iload_n 2, 1) := by decide +kernel
theorem dX4_fold_14 : decode cX4_fold 14 = .ok (.tableswitch 64 0 2 #[26, 36, 46], 26) := by decide +kernel
theorem dX4_fold_40 : decode cX4_fold 40 = .ok (.aload_n 0, 1) := by decide +kernel
theorem dX4_fold_41 : decode cX4_fold 41 = .ok (.getfield 19, 3) := by decide +kernel
theorem dX4_fold_44 : decode cX4_fold 44 = .ok (.getfield 97, 3) := by decide +kernel
theorem dX4_fold_47 : decode cX4_fold 47 = .ok (.iload_n 1, 1) := by decide +kernel
theorem dX4_fold_48 : decode cX4_fold 48 = .ok (.iaload, 1) := by decide +kernel
theorem dX4_fold_49 : decode cX4_fold 49 = .ok (.ireturn, 1) := by decide +kernel
theorem dX4_fold_50 : decode cX4_fold 50 = .ok (.aload_n 0, 1) := by decide +kernel
theorem dX4_fold_51 : decode cX4_fold 51 = .ok (.getfield 19, 3) := by decide +kernel
theorem dX4_fold_54 : decode cX4_fold 54 = .ok (.getfield 101, 3) := by decide +kernel
theorem dX4_fold_57 : decode cX4_fold 57 = .ok (.iload_n 1, 1) := by decide +kernel
theorem dX4_fold_58 : decode cX4_fold 58 = .ok (.iaload, 1) := by decide +kernel
theorem dX4_fold_59 : decode cX4_fold 59 = .ok (.ireturn, 1) := by decide +kernel
theorem dX4_fold_60 : decode cX4_fold 60 = .ok (.aload_n 0, 1) := by decide +kernel
theorem dX4_fold_61 : decode cX4_fold 61 = .ok (.getfield 19, 3) := by decide +kernel
theorem dX4_fold_64 : decode cX4_fold 64 = .ok (.getfield 104, 3) := by decide +kernel
theorem dX4_fold_67 : decode cX4_fold 67 = .ok (.iload_n 1, 1) := by decide +kernel
theorem dX4_fold_68 : decode cX4_fold 68 = .ok (.baload, 1) := by decide +kernel
theorem dX4_fold_69 : decode cX4_fold 69 = .ok (.ifCond .eq 7, 3) := by decide +kernel
theorem dX4_fold_72 : decode cX4_fold 72 = .ok (.iconst 1, 1) := by decide +kernel
theorem dX4_fold_73 : decode cX4_fold 73 = .ok (.goto 4, 3) := by decide +kernel
theorem dX4_fold_76 : decode cX4_fold 76 = .ok (.iconst 0, 1) := by decide +kernel
theorem dX4_fold_77 : decode cX4_fold 77 = .ok (.ireturn, 1) := by decide +kernel
theorem dX4_fold_78 : decode cX4_fold 78 = .ok (.iconst (-1), 1) := by decide +kernel
theorem dX4_fold_79 : decode cX4_fold 79 = .ok (.ireturn, 1) := by decide +kernel
theorem dX4_hint_0 : decode cX4_hint 0 = .ok (.aload_n 0, 1) := by decide +kernel
theorem dX4_hint_1 : decode cX4_hint 1 = .ok (.getfield 19, 3) := by decide +kernel
theorem dX4_hint_4 : decode cX4_hint 4 = .ok (.iload_n 1, 1) := by decide +kernel
theorem dX4_hint_5 : decode cX4_hint 5 = .ok (.invokevirtual 108, 3) := by decide +kernel
theorem dX4_hint_8 : decode cX4_hint 8 = .ok (.ifCond .ne 5, 3) := by decide +kernel
theorem dX4_hint_11 : decode cX4_hint 11 = .ok (.iconst (-1), 1) := by decide +kernel
theorem dX4_hint_12 : decode cX4_hint 12 = .ok (.ireturn, 1) := by decide +kernel
theorem dX4_hint_13 : decode cX4_hint 13 = .ok (.iload_n 2, 1) := by decide +kernel
theorem dX4_hint_14 : decode cX4_hint 14 = .ok (.tableswitch 71 0 2 #[26, 36, 46], 26) := by decide +kernel
theorem dX4_hint_40 : decode cX4_hint 40 = .ok (.aload_n 0, 1) := by decide +kernel
theorem dX4_hint_41 : decode cX4_hint 41 = .ok (.getfield 19, 3) := by decide +kernel
theorem dX4_hint_44 : decode cX4_hint 44 = .ok (.getfield 111, 3) := by decide +kernel
theorem dX4_hint_47 : decode cX4_hint 47 = .ok (.iload_n 1, 1) := by decide +kernel
theorem dX4_hint_48 : decode cX4_hint 48 = .ok (.iaload, 1) := by decide +kernel
theorem dX4_hint_49 : decode cX4_hint 49 = .ok (.ireturn, 1) := by decide +kernel
theorem dX4_hint_50 : decode cX4_hint 50 = .ok (.aload_n 0, 1) := by decide +kernel
theorem dX4_hint_51 : decode cX4_hint 51 = .ok (.getfield 19, 3) := by decide +kernel
theorem dX4_hint_54 : decode cX4_hint 54 = .ok (.getfield 114, 3) := by decide +kernel
theorem dX4_hint_57 : decode cX4_hint 57 = .ok (.iload_n 1, 1) := by decide +kernel
theorem dX4_hint_58 : decode cX4_hint 58 = .ok (.iaload, 1) := by decide +kernel
theorem dX4_hint_59 : decode cX4_hint 59 = .ok (.ireturn, 1) := by decide +kernel
theorem dX4_hint_60 : decode cX4_hint 60 = .ok (.aload_n 0, 1) := by decide +kernel
theorem dX4_hint_61 : decode cX4_hint 61 = .ok (.getfield 19, 3) := by decide +kernel
theorem dX4_hint_64 : decode cX4_hint 64 = .ok (.aload_n 0, 1) := by decide +kernel
theorem dX4_hint_65 : decode cX4_hint 65 = .ok (.getfield 19, 3) := by decide +kernel
theorem dX4_hint_68 : decode cX4_hint 68 = .ok (.getfield 111, 3) := by decide +kernel
theorem dX4_hint_71 : decode cX4_hint 71 = .ok (.iload_n 1, 1) := by decide +kernel
theorem dX4_hint_72 : decode cX4_hint 72 = .ok (.iaload, 1) := by decide +kernel
theorem dX4_hint_73 : decode cX4_hint 73 = .ok (.invokevirtual 117, 3) := by decide +kernel
theorem dX4_hint_76 : decode cX4_hint 76 = .ok (.ifCond .eq 7, 3) := by decide +kernel
theorem dX4_hint_79 : decode cX4_hint 79 = .ok (.iconst 1, 1) := by decide +kernel
theorem dX4_hint_80 : decode cX4_hint 80 = .ok (.goto 4, 3) := by decide +kernel
theorem dX4_hint_83 : decode cX4_hint 83 = .ok (.iconst 0, 1) := by decide +kernel
theorem dX4_hint_84 : decode cX4_hint 84 = .ok (.ireturn, 1) := by decide +kernel
theorem dX4_hint_85 : decode cX4_hint 85 = .ok (.iconst (-1), 1) := by decide +kernel
theorem dX4_hint_86 : decode cX4_hint 86 = .ok (.ireturn, 1) := by decide +kernel
theorem dX4_insert_0 : decode cX4_insert 0 = .ok (.aload_n 0, 1) := by decide +kernel
theorem dX4_insert_1 : decode cX4_insert 1 = .ok (.getfield 19, 3) := by decide +kernel
theorem dX4_insert_4 : decode cX4_insert 4 = .ok (.iload_n 1, 1) := by decide +kernel
theorem dX4_insert_5 : decode cX4_insert 5 = .ok (.invokevirtual 87, 3) := by decide +kernel
theorem dX4_insert_8 : decode cX4_insert 8 = .ok (.ifCond .eq 13, 3) := by decide +kernel
theorem dX4_insert_11 : decode cX4_insert 11 = .ok (.iload_n 2, 1) := by decide +kernel
theorem dX4_insert_12 : decode cX4_insert 12 = .ok (.ifCond .lt 9, 3) := by decide +kernel
theorem dX4_insert_15 : decode cX4_insert 15 = .ok (.iload_n 2, 1) := by decide +kernel
theorem dX4_insert_16 : decode cX4_insert 16 = .ok (.bipush 27, 2) := by decide +kernel
theorem dX4_insert_18 : decode cX4_insert 18 = .ok (.if_icmp .le 5, 3) := by decide +kernel
theorem dX4_insert_21 : decode cX4_insert 21 = .ok (.iconst (-1), 1) := by decide +kernel
theorem dX4_insert_22 : decode cX4_insert 22 = .ok (.ireturn, 1) := by decide +kernel
theorem dX4_insert_23 : decode cX4_insert 23 = .ok (.aload_n 0, 1) := by decide +kernel
theorem dX4_insert_24 : decode cX4_insert 24 = .ok (.getfield 19, 3) := by decide +kernel
theorem dX4_insert_27 : decode cX4_insert 27 = .ok (.invokevirtual 120, 3) := by decide +kernel
theorem dX4_insert_30 : decode cX4_insert 30 = .ok (.ifCond .ne 6, 3) := by decide +kernel
theorem dX4_insert_33 : decode cX4_insert 33 = .ok (.bipush (-3), 2) := by decide +kernel
theorem dX4_insert_35 : decode cX4_insert 35 = .ok (.ireturn, 1) := by decide +kernel
theorem dX4_insert_36 : decode cX4_insert 36 = .ok (.aload_n 0, 1) := by decide +kernel
theorem dX4_insert_37 : decode cX4_insert 37 = .ok (.getfield 28, 3) := by decide +kernel
theorem dX4_insert_40 : decode cX4_insert 40 = .ok (.aload_n 0, 1) := by decide +kernel
theorem dX4_insert_41 : decode cX4_insert 41 = .ok (.getfield 19, 3) := by decide +kernel
theorem dX4_insert_44 : decode cX4_insert 44 = .ok (.invokevirtual 124, 3) := by decide +kernel
theorem dX4_insert_47 : decode cX4_insert 47 = .ok (.aload_n 0, 1) := by decide +kernel
theorem dX4_insert_48 : decode cX4_insert 48 = .ok (.getfield 19, 3) := by decide +kernel
theorem dX4_insert_51 : decode cX4_insert 51 = .ok (.iload_n 1, 1) := by decide +kernel
theorem dX4_insert_52 : decode cX4_insert 52 = .ok (.iload_n 2, 1) := by decide +kernel
theorem dX4_insert_53 : decode cX4_insert 53 = .ok (.invokevirtual 127, 3) := by decide +kernel
theorem dX4_insert_56 : decode cX4_insert 56 = .ok (.aload_n 0, 1) := by decide +kernel
theorem dX4_insert_57 : decode cX4_insert 57 = .ok (.invokevirtual 131, 3) := by decide +kernel
theorem dX4_insert_60 : decode cX4_insert 60 = .ok (.aload_n 0, 1) := by decide +kernel
theorem dX4_insert_61 : decode cX4_insert 61 = .ok (.getfield 19, 3) := by decide +kernel
theorem dX4_insert_64 : decode cX4_insert 64 = .ok (.getfield 84, 3) := by decide +kernel
theorem dX4_insert_67 : decode cX4_insert 67 = .ok (.ireturn, 1) := by decide +kernel
theorem dX4_erase_0 : decode cX4_erase 0 = .ok (.aload_n 0, 1) := by decide +kernel
theorem dX4_erase_1 : decode cX4_erase 1 = .ok (.getfield 19, 3) := by decide +kernel
theorem dX4_erase_4 : decode cX4_erase 4 = .ok (.iload_n 1, 1) := by decide +kernel
theorem dX4_erase_5 : decode cX4_erase 5 = .ok (.invokevirtual 134, 3) := by decide +kernel
theorem dX4_erase_8 : decode cX4_erase 8 = .ok (.ifCond .ne 5, 3) := by decide +kernel
theorem dX4_erase_11 : decode cX4_erase 11 = .ok (.iconst (-1), 1) := by decide +kernel
theorem dX4_erase_12 : decode cX4_erase 12 = .ok (.ireturn, 1) := by decide +kernel
theorem dX4_erase_13 : decode cX4_erase 13 = .ok (.aload_n 0, 1) := by decide +kernel
theorem dX4_erase_14 : decode cX4_erase 14 = .ok (.getfield 19, 3) := by decide +kernel
theorem dX4_erase_17 : decode cX4_erase 17 = .ok (.iload_n 1, 1) := by decide +kernel
theorem dX4_erase_18 : decode cX4_erase 18 = .ok (.invokevirtual 90, 3) := by decide +kernel
theorem dX4_erase_21 : decode cX4_erase 21 = .ok (.istore_n 2, 1) := by decide +kernel
theorem dX4_erase_22 : decode cX4_erase 22 = .ok (.aload_n 0, 1) := by decide +kernel
theorem dX4_erase_23 : decode cX4_erase 23 = .ok (.getfield 28, 3) := by decide +kernel
theorem dX4_erase_26 : decode cX4_erase 26 = .ok (.aload_n 0, 1) := by decide +kernel
theorem dX4_erase_27 : decode cX4_erase 27 = .ok (.getfield 19, 3) := by decide +kernel
theorem dX4_erase_30 : decode cX4_erase 30 = .ok (.invokevirtual 124, 3) := by decide +kernel
theorem dX4_erase_33 : decode cX4_erase 33 = .ok (.aload_n 0, 1) := by decide +kernel
theorem dX4_erase_34 : decode cX4_erase 34 = .ok (.getfield 19, 3) := by decide +kernel
theorem dX4_erase_37 : decode cX4_erase 37 = .ok (.iload_n 1, 1) := by decide +kernel
theorem dX4_erase_38 : decode cX4_erase 38 = .ok (.invokevirtual 137, 3) := by decide +kernel
theorem dX4_erase_41 : decode cX4_erase 41 = .ok (.aload_n 0, 1) := by decide +kernel
theorem dX4_erase_42 : decode cX4_erase 42 = .ok (.invokevirtual 131, 3) := by decide +kernel
theorem dX4_erase_45 : decode cX4_erase 45 = .ok (.iload_n 2, 1) := by decide +kernel
theorem dX4_erase_46 : decode cX4_erase 46 = .ok (.ireturn, 1) := by decide +kernel
theorem dX4_toggle_0 : decode cX4_toggle 0 = .ok (.aload_n 0, 1) := by decide +kernel
theorem dX4_toggle_1 : decode cX4_toggle 1 = .ok (.getfield 19, 3) := by decide +kernel
theorem dX4_toggle_4 : decode cX4_toggle 4 = .ok (.iload_n 1, 1) := by decide +kernel
theorem dX4_toggle_5 : decode cX4_toggle 5 = .ok (.invokevirtual 94, 3) := by decide +kernel
theorem dX4_toggle_8 : decode cX4_toggle 8 = .ok (.ifCond .ne 5, 3) := by decide +kernel
theorem dX4_toggle_11 : decode cX4_toggle 11 = .ok (.iconst (-1), 1) := by decide +kernel
theorem dX4_toggle_12 : decode cX4_toggle 12 = .ok (.ireturn, 1) := by decide +kernel
theorem dX4_toggle_13 : decode cX4_toggle 13 = .ok (.aload_n 0, 1) := by decide +kernel
theorem dX4_toggle_14 : decode cX4_toggle 14 = .ok (.getfield 28, 3) := by decide +kernel
theorem dX4_toggle_17 : decode cX4_toggle 17 = .ok (.aload_n 0, 1) := by decide +kernel
theorem dX4_toggle_18 : decode cX4_toggle 18 = .ok (.getfield 19, 3) := by decide +kernel
theorem dX4_toggle_21 : decode cX4_toggle 21 = .ok (.invokevirtual 124, 3) := by decide +kernel
theorem dX4_toggle_24 : decode cX4_toggle 24 = .ok (.aload_n 0, 1) := by decide +kernel
theorem dX4_toggle_25 : decode cX4_toggle 25 = .ok (.getfield 19, 3) := by decide +kernel
theorem dX4_toggle_28 : decode cX4_toggle 28 = .ok (.iload_n 1, 1) := by decide +kernel
theorem dX4_toggle_29 : decode cX4_toggle 29 = .ok (.invokevirtual 140, 3) := by decide +kernel
theorem dX4_toggle_32 : decode cX4_toggle 32 = .ok (.aload_n 0, 1) := by decide +kernel
theorem dX4_toggle_33 : decode cX4_toggle 33 = .ok (.invokevirtual 131, 3) := by decide +kernel
theorem dX4_toggle_36 : decode cX4_toggle 36 = .ok (.aload_n 0, 1) := by decide +kernel
theorem dX4_toggle_37 : decode cX4_toggle 37 = .ok (.getfield 19, 3) := by decide +kernel
theorem dX4_toggle_40 : decode cX4_toggle 40 = .ok (.getfield 104, 3) := by decide +kernel
theorem dX4_toggle_43 : decode cX4_toggle 43 = .ok (.iload_n 1, 1) := by decide +kernel
theorem dX4_toggle_44 : decode cX4_toggle 44 = .ok (.baload, 1) := by decide +kernel
theorem dX4_toggle_45 : decode cX4_toggle 45 = .ok (.ifCond .eq 7, 3) := by decide +kernel
theorem dX4_toggle_48 : decode cX4_toggle 48 = .ok (.iconst 1, 1) := by decide +kernel
theorem dX4_toggle_49 : decode cX4_toggle 49 = .ok (.goto 4, 3) := by decide +kernel
theorem dX4_toggle_52 : decode cX4_toggle 52 = .ok (.iconst 0, 1) := by decide +kernel
theorem dX4_toggle_53 : decode cX4_toggle 53 = .ok (.ireturn, 1) := by decide +kernel
theorem dX4_make_0 : decode cX4_make 0 = .ok (.aload_n 0, 1) := by decide +kernel
theorem dX4_make_1 : decode cX4_make 1 = .ok (.getfield 19, 3) := by decide +kernel
theorem dX4_make_4 : decode cX4_make 4 = .ok (.iload_n 1, 1) := by decide +kernel
theorem dX4_make_5 : decode cX4_make 5 = .ok (.iload_n 2, 1) := by decide +kernel
theorem dX4_make_6 : decode cX4_make 6 = .ok (.invokevirtual 143, 3) := by decide +kernel
theorem dX4_make_9 : decode cX4_make 9 = .ok (.istore_n 3, 1) := by decide +kernel
theorem dX4_make_10 : decode cX4_make 10 = .ok (.iload_n 3, 1) := by decide +kernel
theorem dX4_make_11 : decode cX4_make 11 = .ok (.ifCond .eq 5, 3) := by decide +kernel
theorem dX4_make_14 : decode cX4_make 14 = .ok (.iload_n 3, 1) := by decide +kernel
theorem dX4_make_15 : decode cX4_make 15 = .ok (.ireturn, 1) := by decide +kernel
theorem dX4_make_16 : decode cX4_make 16 = .ok (.aload_n 0, 1) := by decide +kernel
theorem dX4_make_17 : decode cX4_make 17 = .ok (.getfield 28, 3) := by decide +kernel
theorem dX4_make_20 : decode cX4_make 20 = .ok (.aload_n 0, 1) := by decide +kernel
theorem dX4_make_21 : decode cX4_make 21 = .ok (.getfield 19, 3) := by decide +kernel
theorem dX4_make_24 : decode cX4_make 24 = .ok (.invokevirtual 124, 3) := by decide +kernel
theorem dX4_make_27 : decode cX4_make 27 = .ok (.aload_n 0, 1) := by decide +kernel
theorem dX4_make_28 : decode cX4_make 28 = .ok (.getfield 19, 3) := by decide +kernel
theorem dX4_make_31 : decode cX4_make 31 = .ok (.iload_n 1, 1) := by decide +kernel
theorem dX4_make_32 : decode cX4_make 32 = .ok (.iload_n 2, 1) := by decide +kernel
theorem dX4_make_33 : decode cX4_make 33 = .ok (.invokevirtual 147, 3) := by decide +kernel
theorem dX4_make_36 : decode cX4_make 36 = .ok (.istore 4, 2) := by decide +kernel
theorem dX4_make_38 : decode cX4_make 38 = .ok (.aload_n 0, 1) := by decide +kernel
theorem dX4_make_39 : decode cX4_make 39 = .ok (.invokevirtual 131, 3) := by decide +kernel
theorem dX4_make_42 : decode cX4_make 42 = .ok (.iload 4, 2) := by decide +kernel
theorem dX4_make_44 : decode cX4_make 44 = .ok (.ireturn, 1) := by decide +kernel
theorem dX4_unfold_0 : decode cX4_unfold 0 = .ok (.aload_n 0, 1) := by decide +kernel
theorem dX4_unfold_1 : decode cX4_unfold 1 = .ok (.getfield 19, 3) := by decide +kernel
theorem dX4_unfold_4 : decode cX4_unfold 4 = .ok (.iload_n 1, 1) := by decide +kernel
theorem dX4_unfold_5 : decode cX4_unfold 5 = .ok (.invokevirtual 94, 3) := by decide +kernel
theorem dX4_unfold_8 : decode cX4_unfold 8 = .ok (.ifCond .ne 5, 3) := by decide +kernel
theorem dX4_unfold_11 : decode cX4_unfold 11 = .ok (.iconst (-1), 1) := by decide +kernel
theorem dX4_unfold_12 : decode cX4_unfold 12 = .ok (.ireturn, 1) := by decide +kernel
theorem dX4_unfold_13 : decode cX4_unfold 13 = .ok (.aload_n 0, 1) := by decide +kernel
theorem dX4_unfold_14 : decode cX4_unfold 14 = .ok (.getfield 28, 3) := by decide +kernel
theorem dX4_unfold_17 : decode cX4_unfold 17 = .ok (.aload_n 0, 1) := by decide +kernel
theorem dX4_unfold_18 : decode cX4_unfold 18 = .ok (.getfield 19, 3) := by decide +kernel
theorem dX4_unfold_21 : decode cX4_unfold 21 = .ok (.invokevirtual 124, 3) := by decide +kernel
theorem dX4_unfold_24 : decode cX4_unfold 24 = .ok (.aload_n 0, 1) := by decide +kernel
theorem dX4_unfold_25 : decode cX4_unfold 25 = .ok (.getfield 19, 3) := by decide +kernel
theorem dX4_unfold_28 : decode cX4_unfold 28 = .ok (.iload_n 1, 1) := by decide +kernel
theorem dX4_unfold_29 : decode cX4_unfold 29 = .ok (.invokevirtual 150, 3) := by decide +kernel
theorem dX4_unfold_32 : decode cX4_unfold 32 = .ok (.aload_n 0, 1) := by decide +kernel
theorem dX4_unfold_33 : decode cX4_unfold 33 = .ok (.invokevirtual 131, 3) := by decide +kernel
theorem dX4_unfold_36 : decode cX4_unfold 36 = .ok (.aload_n 0, 1) := by decide +kernel
theorem dX4_unfold_37 : decode cX4_unfold 37 = .ok (.getfield 19, 3) := by decide +kernel
theorem dX4_unfold_40 : decode cX4_unfold 40 = .ok (.getfield 153, 3) := by decide +kernel
theorem dX4_unfold_43 : decode cX4_unfold 43 = .ok (.ireturn, 1) := by decide +kernel
theorem dX4_set_0 : decode cX4_set 0 = .ok (.aload_n 0, 1) := by decide +kernel
theorem dX4_set_1 : decode cX4_set 1 = .ok (.getfield 19, 3) := by decide +kernel
theorem dX4_set_4 : decode cX4_set 4 = .ok (.iload_n 1, 1) := by decide +kernel
theorem dX4_set_5 : decode cX4_set 5 = .ok (.iload_n 2, 1) := by decide +kernel
theorem dX4_set_6 : decode cX4_set 6 = .ok (.invokevirtual 156, 3) := by decide +kernel
theorem dX4_set_9 : decode cX4_set 9 = .ok (.istore_n 3, 1) := by decide +kernel
theorem dX4_set_10 : decode cX4_set 10 = .ok (.iload_n 3, 1) := by decide +kernel
theorem dX4_set_11 : decode cX4_set 11 = .ok (.ifCond .eq 5, 3) := by decide +kernel
theorem dX4_set_14 : decode cX4_set 14 = .ok (.iload_n 3, 1) := by decide +kernel
theorem dX4_set_15 : decode cX4_set 15 = .ok (.ireturn, 1) := by decide +kernel
theorem dX4_set_16 : decode cX4_set 16 = .ok (.aload_n 0, 1) := by decide +kernel
theorem dX4_set_17 : decode cX4_set 17 = .ok (.getfield 28, 3) := by decide +kernel
theorem dX4_set_20 : decode cX4_set 20 = .ok (.aload_n 0, 1) := by decide +kernel
theorem dX4_set_21 : decode cX4_set 21 = .ok (.getfield 19, 3) := by decide +kernel
theorem dX4_set_24 : decode cX4_set 24 = .ok (.invokevirtual 124, 3) := by decide +kernel
theorem dX4_set_27 : decode cX4_set 27 = .ok (.aload_n 0, 1) := by decide +kernel
theorem dX4_set_28 : decode cX4_set 28 = .ok (.getfield 19, 3) := by decide +kernel
theorem dX4_set_31 : decode cX4_set 31 = .ok (.iload_n 1, 1) := by decide +kernel
theorem dX4_set_32 : decode cX4_set 32 = .ok (.iload_n 2, 1) := by decide +kernel
theorem dX4_set_33 : decode cX4_set 33 = .ok (.invokevirtual 159, 3) := by decide +kernel
theorem dX4_set_36 : decode cX4_set 36 = .ok (.istore 4, 2) := by decide +kernel
theorem dX4_set_38 : decode cX4_set 38 = .ok (.aload_n 0, 1) := by decide +kernel
theorem dX4_set_39 : decode cX4_set 39 = .ok (.invokevirtual 131, 3) := by decide +kernel
theorem dX4_set_42 : decode cX4_set 42 = .ok (.iload 4, 2) := by decide +kernel
theorem dX4_set_44 : decode cX4_set 44 = .ok (.ireturn, 1) := by decide +kernel
theorem dX4_unset_0 : decode cX4_unset 0 = .ok (.aload_n 0, 1) := by decide +kernel
theorem dX4_unset_1 : decode cX4_unset 1 = .ok (.getfield 19, 3) := by decide +kernel
theorem dX4_unset_4 : decode cX4_unset 4 = .ok (.iload_n 1, 1) := by decide +kernel
theorem dX4_unset_5 : decode cX4_unset 5 = .ok (.invokevirtual 108, 3) := by decide +kernel
theorem dX4_unset_8 : decode cX4_unset 8 = .ok (.ifCond .ne 5, 3) := by decide +kernel
theorem dX4_unset_11 : decode cX4_unset 11 = .ok (.iconst (-1), 1) := by decide +kernel
theorem dX4_unset_12 : decode cX4_unset 12 = .ok (.ireturn, 1) := by decide +kernel
theorem dX4_unset_13 : decode cX4_unset 13 = .ok (.aload_n 0, 1) := by decide +kernel
theorem dX4_unset_14 : decode cX4_unset 14 = .ok (.getfield 19, 3) := by decide +kernel
theorem dX4_unset_17 : decode cX4_unset 17 = .ok (.getfield 114, 3) := by decide +kernel
theorem dX4_unset_20 : decode cX4_unset 20 = .ok (.iload_n 1, 1) := by decide +kernel
theorem dX4_unset_21 : decode cX4_unset 21 = .ok (.iaload, 1) := by decide +kernel
theorem dX4_unset_22 : decode cX4_unset 22 = .ok (.istore_n 2, 1) := by decide +kernel
theorem dX4_unset_23 : decode cX4_unset 23 = .ok (.aload_n 0, 1) := by decide +kernel
theorem dX4_unset_24 : decode cX4_unset 24 = .ok (.getfield 28, 3) := by decide +kernel
theorem dX4_unset_27 : decode cX4_unset 27 = .ok (.aload_n 0, 1) := by decide +kernel
theorem dX4_unset_28 : decode cX4_unset 28 = .ok (.getfield 19, 3) := by decide +kernel
theorem dX4_unset_31 : decode cX4_unset 31 = .ok (.invokevirtual 124, 3) := by decide +kernel
theorem dX4_unset_34 : decode cX4_unset 34 = .ok (.aload_n 0, 1) := by decide +kernel
theorem dX4_unset_35 : decode cX4_unset 35 = .ok (.getfield 19, 3) := by decide +kernel
theorem dX4_unset_38 : decode cX4_unset 38 = .ok (.iload_n 1, 1) := by decide +kernel
theorem dX4_unset_39 : decode cX4_unset 39 = .ok (.invokevirtual 162, 3) := by decide +kernel
theorem dX4_unset_42 : decode cX4_unset 42 = .ok (.aload_n 0, 1) := by decide +kernel
theorem dX4_unset_43 : decode cX4_unset 43 = .ok (.invokevirtual 131, 3) := by decide +kernel
theorem dX4_unset_46 : decode cX4_unset 46 = .ok (.iload_n 2, 1) := by decide +kernel
theorem dX4_unset_47 : decode cX4_unset 47 = .ok (.ireturn, 1) := by decide +kernel
theorem dX4_wide_0 : decode cX4_wide 0 = .ok (.iload_n 1, 1) := by decide +kernel
theorem dX4_wide_1 : decode cX4_wide 1 = .ok (.iload_n 2, 1) := by decide +kernel
theorem dX4_wide_2 : decode cX4_wide 2 = .ok (.iload_n 3, 1) := by decide +kernel
theorem dX4_wide_3 : decode cX4_wide 3 = .ok (.invokestatic 165, 3) := by decide +kernel
theorem dX4_wide_6 : decode cX4_wide 6 = .ok (.ifCond .ne 5, 3) := by decide +kernel
theorem dX4_wide_9 : decode cX4_wide 9 = .ok (.iconst (-1), 1) := by decide +kernel
theorem dX4_wide_10 : decode cX4_wide 10 = .ok (.ireturn, 1) := by decide +kernel
theorem dX4_wide_11 : decode cX4_wide 11 = .ok (.aload_n 0, 1) := by decide +kernel
theorem dX4_wide_12 : decode cX4_wide 12 = .ok (.getfield 19, 3) := by decide +kernel
theorem dX4_wide_15 : decode cX4_wide 15 = .ok (.getfield 169, 3) := by decide +kernel
theorem dX4_wide_18 : decode cX4_wide 18 = .ok (.iload_n 1, 1) := by decide +kernel
theorem dX4_wide_19 : decode cX4_wide 19 = .ok (.if_icmp .ne 28, 3) := by decide +kernel
theorem dX4_wide_22 : decode cX4_wide 22 = .ok (.aload_n 0, 1) := by decide +kernel
theorem dX4_wide_23 : decode cX4_wide 23 = .ok (.getfield 19, 3) := by decide +kernel
theorem dX4_wide_26 : decode cX4_wide 26 = .ok (.getfield 172, 3) := by decide +kernel
theorem dX4_wide_29 : decode cX4_wide 29 = .ok (.iload_n 2, 1) := by decide +kernel
theorem dX4_wide_30 : decode cX4_wide 30 = .ok (.if_icmp .ne 17, 3) := by decide +kernel
theorem dX4_wide_33 : decode cX4_wide 33 = .ok (.aload_n 0, 1) := by decide +kernel
theorem dX4_wide_34 : decode cX4_wide 34 = .ok (.getfield 19, 3) := by decide +kernel
theorem dX4_wide_37 : decode cX4_wide 37 = .ok (.getfield 175, 3) := by decide +kernel
theorem dX4_wide_40 : decode cX4_wide 40 = .ok (.iload_n 3, 1) := by decide +kernel
theorem dX4_wide_41 : decode cX4_wide 41 = .ok (.if_icmp .ne 6, 3) := by decide +kernel
theorem dX4_wide_44 : decode cX4_wide 44 = .ok (.bipush (-2), 2) := by decide +kernel
theorem dX4_wide_46 : decode cX4_wide 46 = .ok (.ireturn, 1) := by decide +kernel
theorem dX4_wide_47 : decode cX4_wide 47 = .ok (.aload_n 0, 1) := by decide +kernel
theorem dX4_wide_48 : decode cX4_wide 48 = .ok (.getfield 28, 3) := by decide +kernel
theorem dX4_wide_51 : decode cX4_wide 51 = .ok (.aload_n 0, 1) := by decide +kernel
theorem dX4_wide_52 : decode cX4_wide 52 = .ok (.getfield 19, 3) := by decide +kernel
theorem dX4_wide_55 : decode cX4_wide 55 = .ok (.invokevirtual 124, 3) := by decide +kernel
theorem dX4_wide_58 : decode cX4_wide 58 = .ok (.aload_n 0, 1) := by decide +kernel
theorem dX4_wide_59 : decode cX4_wide 59 = .ok (.getfield 19, 3) := by decide +kernel
theorem dX4_wide_62 : decode cX4_wide 62 = .ok (.iload_n 1, 1) := by decide +kernel
theorem dX4_wide_63 : decode cX4_wide 63 = .ok (.iload_n 2, 1) := by decide +kernel
theorem dX4_wide_64 : decode cX4_wide 64 = .ok (.iload_n 3, 1) := by decide +kernel
theorem dX4_wide_65 : decode cX4_wide 65 = .ok (.invokevirtual 178, 3) := by decide +kernel
theorem dX4_wide_68 : decode cX4_wide 68 = .ok (.aload_n 0, 1) := by decide +kernel
theorem dX4_wide_69 : decode cX4_wide 69 = .ok (.invokevirtual 131, 3) := by decide +kernel
theorem dX4_wide_72 : decode cX4_wide 72 = .ok (.iconst 1, 1) := by decide +kernel
theorem dX4_wide_73 : decode cX4_wide 73 = .ok (.ireturn, 1) := by decide +kernel
theorem dX4_tabs_0 : decode cX4_tabs 0 = .ok (.iload_n 1, 1) := by decide +kernel
theorem dX4_tabs_1 : decode cX4_tabs 1 = .ok (.invokestatic 182, 3) := by decide +kernel
theorem dX4_tabs_4 : decode cX4_tabs 4 = .ok (.ifCond .ne 5, 3) := by decide +kernel
theorem dX4_tabs_7 : decode cX4_tabs 7 = .ok (.iconst (-1), 1) := by decide +kernel
theorem dX4_tabs_8 : decode cX4_tabs 8 = .ok (.ireturn, 1) := by decide +kernel
theorem dX4_tabs_9 : decode cX4_tabs 9 = .ok (.aload_n 0, 1) := by decide +kernel
theorem dX4_tabs_10 : decode cX4_tabs 10 = .ok (.getfield 19, 3) := by decide +kernel
theorem dX4_tabs_13 : decode cX4_tabs 13 = .ok (.getfield 185, 3) := by decide +kernel
theorem dX4_tabs_16 : decode cX4_tabs 16 = .ok (.iload_n 1, 1) := by decide +kernel
theorem dX4_tabs_17 : decode cX4_tabs 17 = .ok (.if_icmp .ne 6, 3) := by decide +kernel
theorem dX4_tabs_20 : decode cX4_tabs 20 = .ok (.bipush (-2), 2) := by decide +kernel
theorem dX4_tabs_22 : decode cX4_tabs 22 = .ok (.ireturn, 1) := by decide +kernel
theorem dX4_tabs_23 : decode cX4_tabs 23 = .ok (.aload_n 0, 1) := by decide +kernel
theorem dX4_tabs_24 : decode cX4_tabs 24 = .ok (.getfield 19, 3) := by decide +kernel
theorem dX4_tabs_27 : decode cX4_tabs 27 = .ok (.getfield 185, 3) := by decide +kernel
theorem dX4_tabs_30 : decode cX4_tabs 30 = .ok (.istore_n 2, 1) := by decide +kernel
theorem dX4_tabs_31 : decode cX4_tabs 31 = .ok (.aload_n 0, 1) := by decide +kernel
theorem dX4_tabs_32 : decode cX4_tabs 32 = .ok (.getfield 28, 3) := by decide +kernel
theorem dX4_tabs_35 : decode cX4_tabs 35 = .ok (.aload_n 0, 1) := by decide +kernel
theorem dX4_tabs_36 : decode cX4_tabs 36 = .ok (.getfield 19, 3) := by decide +kernel
theorem dX4_tabs_39 : decode cX4_tabs 39 = .ok (.invokevirtual 124, 3) := by decide +kernel
theorem dX4_tabs_42 : decode cX4_tabs 42 = .ok (.aload_n 0, 1) := by decide +kernel
theorem dX4_tabs_43 : decode cX4_tabs 43 = .ok (.getfield 19, 3) := by decide +kernel
theorem dX4_tabs_46 : decode cX4_tabs 46 = .ok (.iload_n 1, 1) := by decide +kernel
theorem dX4_tabs_47 : decode cX4_tabs 47 = .ok (.putfield 185, 3) := by decide +kernel
theorem dX4_tabs_50 : decode cX4_tabs 50 = .ok (.aload_n 0, 1) := by decide +kernel
theorem dX4_tabs_51 : decode cX4_tabs 51 = .ok (.invokevirtual 131, 3) := by decide +kernel
theorem dX4_tabs_54 : decode cX4_tabs 54 = .ok (.iload_n 2, 1) := by decide +kernel
theorem dX4_tabs_55 : decode cX4_tabs 55 = .ok (.ireturn, 1) := by decide +kernel
theorem dX4_undo_0 : decode cX4_undo 0 = .ok (.aload_n 0, 1) := by decide +kernel
theorem dX4_undo_1 : decode cX4_undo 1 = .ok (.getfield 28, 3) := by decide +kernel
theorem dX4_undo_4 : decode cX4_undo 4 = .ok (.aload_n 0, 1) := by decide +kernel
theorem dX4_undo_5 : decode cX4_undo 5 = .ok (.getfield 19, 3) := by decide +kernel
theorem dX4_undo_8 : decode cX4_undo 8 = .ok (.invokevirtual 188, 3) := by decide +kernel
theorem dX4_undo_11 : decode cX4_undo 11 = .ok (.ifCond .ne 6, 3) := by decide +kernel
theorem dX4_undo_14 : decode cX4_undo 14 = .ok (.bipush (-2), 2) := by decide +kernel
theorem dX4_undo_16 : decode cX4_undo 16 = .ok (.ireturn, 1) := by decide +kernel
theorem dX4_undo_17 : decode cX4_undo 17 = .ok (.aload_n 0, 1) := by decide +kernel
theorem dX4_undo_18 : decode cX4_undo 18 = .ok (.invokevirtual 131, 3) := by decide +kernel
theorem dX4_undo_21 : decode cX4_undo 21 = .ok (.aload_n 0, 1) := by decide +kernel
theorem dX4_undo_22 : decode cX4_undo 22 = .ok (.getfield 28, 3) := by decide +kernel
theorem dX4_undo_25 : decode cX4_undo 25 = .ok (.getfield 77, 3) := by decide +kernel
theorem dX4_undo_28 : decode cX4_undo 28 = .ok (.ireturn, 1) := by decide +kernel
theorem dX4_stands_0 : decode cX4_stands 0 = .ok (.aload_n 0, 1) := by decide +kernel
theorem dX4_stands_1 : decode cX4_stands 1 = .ok (.getfield 19, 3) := by decide +kernel
theorem dX4_stands_4 : decode cX4_stands 4 = .ok (.iload_n 1, 1) := by decide +kernel
theorem dX4_stands_5 : decode cX4_stands 5 = .ok (.invokevirtual 87, 3) := by decide +kernel
theorem dX4_stands_8 : decode cX4_stands 8 = .ok (.ifCond .ne 5, 3) := by decide +kernel
theorem dX4_stands_11 : decode cX4_stands 11 = .ok (.iconst (-1), 1) := by decide +kernel
theorem dX4_stands_12 : decode cX4_stands 12 = .ok (.ireturn, 1) := by decide +kernel
theorem dX4_stands_13 : decode cX4_stands 13 = .ok (.iload_n 2, 1) := by decide +kernel
theorem dX4_stands_14 : decode cX4_stands 14 = .ok (.tableswitch 55 0 2 #[26, 32, 38], 26) := by decide +kernel
theorem dX4_stands_40 : decode cX4_stands 40 = .ok (.aload_n 0, 1) := by decide +kernel
theorem dX4_stands_41 : decode cX4_stands 41 = .ok (.iload_n 1, 1) := by decide +kernel
theorem dX4_stands_42 : decode cX4_stands 42 = .ok (.invokevirtual 192, 3) := by decide +kernel
theorem dX4_stands_45 : decode cX4_stands 45 = .ok (.ireturn, 1) := by decide +kernel
theorem dX4_stands_46 : decode cX4_stands 46 = .ok (.aload_n 0, 1) := by decide +kernel
theorem dX4_stands_47 : decode cX4_stands 47 = .ok (.iload_n 1, 1) := by decide +kernel
theorem dX4_stands_48 : decode cX4_stands 48 = .ok (.invokevirtual 195, 3) := by decide +kernel
theorem dX4_stands_51 : decode cX4_stands 51 = .ok (.ireturn, 1) := by decide +kernel
theorem dX4_stands_52 : decode cX4_stands 52 = .ok (.aload_n 0, 1) := by decide +kernel
theorem dX4_stands_53 : decode cX4_stands 53 = .ok (.getfield 19, 3) := by decide +kernel
theorem dX4_stands_56 : decode cX4_stands 56 = .ok (.iload_n 1, 1) := by decide +kernel
theorem dX4_stands_57 : decode cX4_stands 57 = .ok (.invokevirtual 117, 3) := by decide +kernel
theorem dX4_stands_60 : decode cX4_stands 60 = .ok (.ifCond .eq 7, 3) := by decide +kernel
theorem dX4_stands_63 : decode cX4_stands 63 = .ok (.iconst 1, 1) := by decide +kernel
theorem dX4_stands_64 : decode cX4_stands 64 = .ok (.goto 4, 3) := by decide +kernel
theorem dX4_stands_67 : decode cX4_stands 67 = .ok (.iconst 0, 1) := by decide +kernel
theorem dX4_stands_68 : decode cX4_stands 68 = .ok (.ireturn, 1) := by decide +kernel
theorem dX4_stands_69 : decode cX4_stands 69 = .ok (.iconst (-1), 1) := by decide +kernel
theorem dX4_stands_70 : decode cX4_stands 70 = .ok (.ireturn, 1) := by decide +kernel
theorem dX4_place_0 : decode cX4_place 0 = .ok (.aload_n 0, 1) := by decide +kernel
theorem dX4_place_1 : decode cX4_place 1 = .ok (.getfield 38, 3) := by decide +kernel
theorem dX4_place_4 : decode cX4_place 4 = .ok (.iload_n 1, 1) := by decide +kernel
theorem dX4_place_5 : decode cX4_place 5 = .ok (.invokevirtual 198, 3) := by decide +kernel
theorem dX4_place_8 : decode cX4_place 8 = .ok (.ifCond .eq 10, 3) := by decide +kernel
theorem dX4_place_11 : decode cX4_place 11 = .ok (.iload_n 2, 1) := by decide +kernel
theorem dX4_place_12 : decode cX4_place 12 = .ok (.invokestatic 201, 3) := by decide +kernel
theorem dX4_place_15 : decode cX4_place 15 = .ok (.ifCond .ne 5, 3) := by decide +kernel
theorem dX4_place_18 : decode cX4_place 18 = .ok (.iconst (-1), 1) := by decide +kernel
theorem dX4_place_19 : decode cX4_place 19 = .ok (.ireturn, 1) := by decide +kernel
theorem dX4_place_20 : decode cX4_place 20 = .ok (.aload_n 0, 1) := by decide +kernel
theorem dX4_place_21 : decode cX4_place 21 = .ok (.getfield 38, 3) := by decide +kernel
theorem dX4_place_24 : decode cX4_place 24 = .ok (.iload_n 1, 1) := by decide +kernel
theorem dX4_place_25 : decode cX4_place 25 = .ok (.iload_n 2, 1) := by decide +kernel
theorem dX4_place_26 : decode cX4_place 26 = .ok (.aload_n 0, 1) := by decide +kernel
theorem dX4_place_27 : decode cX4_place 27 = .ok (.getfield 19, 3) := by decide +kernel
theorem dX4_place_30 : decode cX4_place 30 = .ok (.getfield 84, 3) := by decide +kernel
theorem dX4_place_33 : decode cX4_place 33 = .ok (.invokevirtual 204, 3) := by decide +kernel
theorem dX4_place_36 : decode cX4_place 36 = .ok (.ireturn, 1) := by decide +kernel
theorem dX4_screen_0 : decode cX4_screen 0 = .ok (.aload_n 0, 1) := by decide +kernel
theorem dX4_screen_1 : decode cX4_screen 1 = .ok (.getfield 38, 3) := by decide +kernel
theorem dX4_screen_4 : decode cX4_screen 4 = .ok (.iload_n 1, 1) := by decide +kernel
theorem dX4_screen_5 : decode cX4_screen 5 = .ok (.invokevirtual 198, 3) := by decide +kernel
theorem dX4_screen_8 : decode cX4_screen 8 = .ok (.ifCond .eq 10, 3) := by decide +kernel
theorem dX4_screen_11 : decode cX4_screen 11 = .ok (.iload_n 2, 1) := by decide +kernel
theorem dX4_screen_12 : decode cX4_screen 12 = .ok (.invokestatic 201, 3) := by decide +kernel
theorem dX4_screen_15 : decode cX4_screen 15 = .ok (.ifCond .ne 5, 3) := by decide +kernel
theorem dX4_screen_18 : decode cX4_screen 18 = .ok (.iconst (-1), 1) := by decide +kernel
theorem dX4_screen_19 : decode cX4_screen 19 = .ok (.ireturn, 1) := by decide +kernel
theorem dX4_screen_20 : decode cX4_screen 20 = .ok (.aload_n 0, 1) := by decide +kernel
theorem dX4_screen_21 : decode cX4_screen 21 = .ok (.getfield 38, 3) := by decide +kernel
theorem dX4_screen_24 : decode cX4_screen 24 = .ok (.iload_n 1, 1) := by decide +kernel
theorem dX4_screen_25 : decode cX4_screen 25 = .ok (.iload_n 2, 1) := by decide +kernel
theorem dX4_screen_26 : decode cX4_screen 26 = .ok (.invokevirtual 208, 3) := by decide +kernel
theorem dX4_screen_29 : decode cX4_screen 29 = .ok (.ireturn, 1) := by decide +kernel
theorem dX4_go_0 : decode cX4_go 0 = .ok (.aload_n 0, 1) := by decide +kernel
theorem dX4_go_1 : decode cX4_go 1 = .ok (.getfield 19, 3) := by decide +kernel
theorem dX4_go_4 : decode cX4_go 4 = .ok (.iload_n 1, 1) := by decide +kernel
theorem dX4_go_5 : decode cX4_go 5 = .ok (.invokevirtual 87, 3) := by decide +kernel
theorem dX4_go_8 : decode cX4_go 8 = .ok (.ifCond .ne 5, 3) := by decide +kernel
theorem dX4_go_11 : decode cX4_go 11 = .ok (.iconst (-1), 1) := by decide +kernel
theorem dX4_go_12 : decode cX4_go 12 = .ok (.ireturn, 1) := by decide +kernel
theorem dX4_go_13 : decode cX4_go 13 = .ok (.iload_n 2, 1) := by decide +kernel
theorem dX4_go_14 : decode cX4_go 14 = .ok (.tableswitch 82 0 3 #[30, 39, 48, 65], 30) := by decide +kernel
theorem dX4_go_44 : decode cX4_go 44 = .ok (.aload_n 0, 1) := by decide +kernel
theorem dX4_go_45 : decode cX4_go 45 = .ok (.getfield 19, 3) := by decide +kernel
theorem dX4_go_48 : decode cX4_go 48 = .ok (.iload_n 1, 1) := by decide +kernel
theorem dX4_go_49 : decode cX4_go 49 = .ok (.invokevirtual 211, 3) := by decide +kernel
theorem dX4_go_52 : decode cX4_go 52 = .ok (.ireturn, 1) := by decide +kernel
theorem dX4_go_53 : decode cX4_go 53 = .ok (.aload_n 0, 1) := by decide +kernel
theorem dX4_go_54 : decode cX4_go 54 = .ok (.getfield 19, 3) := by decide +kernel
theorem dX4_go_57 : decode cX4_go 57 = .ok (.iload_n 1, 1) := by decide +kernel
theorem dX4_go_58 : decode cX4_go 58 = .ok (.invokevirtual 214, 3) := by decide +kernel
theorem dX4_go_61 : decode cX4_go 61 = .ok (.ireturn, 1) := by decide +kernel
theorem dX4_go_62 : decode cX4_go 62 = .ok (.aload_n 0, 1) := by decide +kernel
theorem dX4_go_63 : decode cX4_go 63 = .ok (.aload_n 0, 1) := by decide +kernel
theorem dX4_go_64 : decode cX4_go 64 = .ok (.iload_n 1, 1) := by decide +kernel
theorem dX4_go_65 : decode cX4_go 65 = .ok (.invokevirtual 192, 3) := by decide +kernel
theorem dX4_go_68 : decode cX4_go 68 = .ok (.iconst 1, 1) := by decide +kernel
theorem dX4_go_69 : decode cX4_go 69 = .ok (.isub, 1) := by decide +kernel
theorem dX4_go_70 : decode cX4_go 70 = .ok (.aload_n 0, 1) := by decide +kernel
theorem dX4_go_71 : decode cX4_go 71 = .ok (.iload_n 1, 1) := by decide +kernel
theorem dX4_go_72 : decode cX4_go 72 = .ok (.invokevirtual 195, 3) := by decide +kernel
theorem dX4_go_75 : decode cX4_go 75 = .ok (.invokevirtual 217, 3) := by decide +kernel
theorem dX4_go_78 : decode cX4_go 78 = .ok (.ireturn, 1) := by decide +kernel
theorem dX4_go_79 : decode cX4_go 79 = .ok (.aload_n 0, 1) := by decide +kernel
theorem dX4_go_80 : decode cX4_go 80 = .ok (.aload_n 0, 1) := by decide +kernel
theorem dX4_go_81 : decode cX4_go 81 = .ok (.iload_n 1, 1) := by decide +kernel
theorem dX4_go_82 : decode cX4_go 82 = .ok (.invokevirtual 192, 3) := by decide +kernel
theorem dX4_go_85 : decode cX4_go 85 = .ok (.iconst 1, 1) := by decide +kernel
theorem dX4_go_86 : decode cX4_go 86 = .ok (.iadd, 1) := by decide +kernel
theorem dX4_go_87 : decode cX4_go 87 = .ok (.aload_n 0, 1) := by decide +kernel
theorem dX4_go_88 : decode cX4_go 88 = .ok (.iload_n 1, 1) := by decide +kernel
theorem dX4_go_89 : decode cX4_go 89 = .ok (.invokevirtual 195, 3) := by decide +kernel
theorem dX4_go_92 : decode cX4_go 92 = .ok (.invokevirtual 217, 3) := by decide +kernel
theorem dX4_go_95 : decode cX4_go 95 = .ok (.ireturn, 1) := by decide +kernel
theorem dX4_go_96 : decode cX4_go 96 = .ok (.iconst (-1), 1) := by decide +kernel
theorem dX4_go_97 : decode cX4_go 97 = .ok (.ireturn, 1) := by decide +kernel
theorem dX4_row_0 : decode cX4_row 0 = .ok (.aload_n 0, 1) := by decide +kernel
theorem dX4_row_1 : decode cX4_row 1 = .ok (.getfield 38, 3) := by decide +kernel
theorem dX4_row_4 : decode cX4_row 4 = .ok (.iload_n 1, 1) := by decide +kernel
theorem dX4_row_5 : decode cX4_row 5 = .ok (.invokevirtual 198, 3) := by decide +kernel
theorem dX4_row_8 : decode cX4_row 8 = .ok (.ifCond .ne 5, 3) := by decide +kernel
theorem dX4_row_11 : decode cX4_row 11 = .ok (.iconst (-1), 1) := by decide +kernel
theorem dX4_row_12 : decode cX4_row 12 = .ok (.ireturn, 1) := by decide +kernel
theorem dX4_row_13 : decode cX4_row 13 = .ok (.iload_n 2, 1) := by decide +kernel
theorem dX4_row_14 : decode cX4_row 14 = .ok (.lookupswitch 54 #[(0, 26), (1, 36)], 26) := by decide +kernel
theorem dX4_row_40 : decode cX4_row 40 = .ok (.aload_n 0, 1) := by decide +kernel
theorem dX4_row_41 : decode cX4_row 41 = .ok (.getfield 38, 3) := by decide +kernel
theorem dX4_row_44 : decode cX4_row 44 = .ok (.getfield 220, 3) := by decide +kernel
theorem dX4_row_47 : decode cX4_row 47 = .ok (.iload_n 1, 1) := by decide +kernel
theorem dX4_row_48 : decode cX4_row 48 = .ok (.iaload, 1) := by decide +kernel
theorem dX4_row_49 : decode cX4_row 49 = .ok (.ireturn, 1) := by decide +kernel
theorem dX4_row_50 : decode cX4_row 50 = .ok (.aload_n 0, 1) := by decide +kernel
theorem dX4_row_51 : decode cX4_row 51 = .ok (.getfield 38, 3) := by decide +kernel
theorem dX4_row_54 : decode cX4_row 54 = .ok (.getfield 223, 3) := by decide +kernel
theorem dX4_row_57 : decode cX4_row 57 = .ok (.iload_n 1, 1) := by decide +kernel
theorem dX4_row_58 : decode cX4_row 58 = .ok (.baload, 1) := by decide +kernel
theorem dX4_row_59 : decode cX4_row 59 = .ok (.ifCond .eq 7, 3) := by decide +kernel
theorem dX4_row_62 : decode cX4_row 62 = .ok (.iconst 1, 1) := by decide +kernel
theorem dX4_row_63 : decode cX4_row 63 = .ok (.goto 4, 3) := by decide +kernel
theorem dX4_row_66 : decode cX4_row 66 = .ok (.iconst 0, 1) := by decide +kernel
theorem dX4_row_67 : decode cX4_row 67 = .ok (.ireturn, 1) := by decide +kernel
theorem dX4_row_68 : decode cX4_row 68 = .ok (.iconst (-1), 1) := by decide +kernel
theorem dX4_row_69 : decode cX4_row 69 = .ok (.ireturn, 1) := by decide +kernel
theorem dX4_changed_0 : decode cX4_changed 0 = .ok (.iload_n 1, 1) := by decide +kernel
theorem dX4_changed_1 : decode cX4_changed 1 = .ok (.lookupswitch 37 #[(0, 27), (1, 32)], 27) := by decide +kernel
theorem dX4_changed_28 : decode cX4_changed 28 = .ok (.aload_n 0, 1) := by decide +kernel
theorem dX4_changed_29 : decode cX4_changed 29 = .ok (.invokevirtual 226, 3) := by decide +kernel
theorem dX4_changed_32 : decode cX4_changed 32 = .ok (.ireturn, 1) := by decide +kernel
theorem dX4_changed_33 : decode cX4_changed 33 = .ok (.aload_n 0, 1) := by decide +kernel
theorem dX4_changed_34 : decode cX4_changed 34 = .ok (.invokevirtual 229, 3) := by decide +kernel
theorem dX4_changed_37 : decode cX4_changed 37 = .ok (.ireturn, 1) := by decide +kernel
theorem dX4_changed_38 : decode cX4_changed 38 = .ok (.iconst (-1), 1) := by decide +kernel
theorem dX4_changed_39 : decode cX4_changed 39 = .ok (.ireturn, 1) := by decide +kernel
theorem dX4_fit_0 : decode cX4_fit 0 = .ok (.iload_n 1, 1) := by decide +kernel
theorem dX4_fit_1 : decode cX4_fit 1 = .ok (.iconst 1, 1) := by decide +kernel
theorem dX4_fit_2 : decode cX4_fit 2 = .ok (.if_icmp .lt 9, 3) := by decide +kernel
theorem dX4_fit_5 : decode cX4_fit 5 = .ok (.iload_n 1, 1) := by decide +kernel
theorem dX4_fit_6 : decode cX4_fit 6 = .ok (.bipush 40, 2) := by decide +kernel
theorem dX4_fit_8 : decode cX4_fit 8 = .ok (.if_icmp .le 5, 3) := by decide +kernel
theorem dX4_fit_11 : decode cX4_fit 11 = .ok (.iconst (-1), 1) := by decide +kernel
theorem dX4_fit_12 : decode cX4_fit 12 = .ok (.ireturn, 1) := by decide +kernel
theorem dX4_fit_13 : decode cX4_fit 13 = .ok (.aload_n 0, 1) := by decide +kernel
theorem dX4_fit_14 : decode cX4_fit 14 = .ok (.getfield 45, 3) := by decide +kernel
theorem dX4_fit_17 : decode cX4_fit 17 = .ok (.aload_n 0, 1) := by decide +kernel
theorem dX4_fit_18 : decode cX4_fit 18 = .ok (.getfield 19, 3) := by decide +kernel
theorem dX4_fit_21 : decode cX4_fit 21 = .ok (.invokevirtual 232, 3) := by decide +kernel
theorem dX4_fit_24 : decode cX4_fit 24 = .ok (.iconst 4, 1) := by decide +kernel
theorem dX4_fit_25 : decode cX4_fit 25 = .ok (.istore_n 2, 1) := by decide +kernel
theorem dX4_fit_26 : decode cX4_fit 26 = .ok (.iload_n 2, 1) := by decide +kernel
theorem dX4_fit_27 : decode cX4_fit 27 = .ok (.bipush 20, 2) := by decide +kernel
theorem dX4_fit_29 : decode cX4_fit 29 = .ok (.if_icmp .gt 34, 3) := by decide +kernel
theorem dX4_fit_32 : decode cX4_fit 32 = .ok (.aload_n 0, 1) := by decide +kernel
theorem dX4_fit_33 : decode cX4_fit 33 = .ok (.getfield 45, 3) := by decide +kernel
theorem dX4_fit_36 : decode cX4_fit 36 = .ok (.iload_n 2, 1) := by decide +kernel
theorem dX4_fit_37 : decode cX4_fit 37 = .ok (.putfield 172, 3) := by decide +kernel
theorem dX4_fit_40 : decode cX4_fit 40 = .ok (.aload_n 0, 1) := by decide +kernel
theorem dX4_fit_41 : decode cX4_fit 41 = .ok (.getfield 48, 3) := by decide +kernel
theorem dX4_fit_44 : decode cX4_fit 44 = .ok (.aload_n 0, 1) := by decide +kernel
theorem dX4_fit_45 : decode cX4_fit 45 = .ok (.getfield 45, 3) := by decide +kernel
theorem dX4_fit_48 : decode cX4_fit 48 = .ok (.invokevirtual 74, 3) := by decide +kernel
theorem dX4_fit_51 : decode cX4_fit 51 = .ok (.iload_n 1, 1) := by decide +kernel
theorem dX4_fit_52 : decode cX4_fit 52 = .ok (.if_icmp .gt 5, 3) := by decide +kernel
theorem dX4_fit_55 : decode cX4_fit 55 = .ok (.iload_n 2, 1) := by decide +kernel
theorem dX4_fit_56 : decode cX4_fit 56 = .ok (.ireturn, 1) := by decide +kernel
theorem dX4_fit_57 : decode cX4_fit 57 = .ok (.iinc 2 1, 3) := by decide +kernel
theorem dX4_fit_60 : decode cX4_fit 60 = .ok (.goto (-34), 3) := by decide +kernel
theorem dX4_fit_63 : decode cX4_fit 63 = .ok (.bipush (-4), 2) := by decide +kernel
theorem dX4_fit_65 : decode cX4_fit 65 = .ok (.ireturn, 1) := by decide +kernel
theorem dX4_saves_0 : decode cX4_saves 0 = .ok (.iload_n 1, 1) := by decide +kernel
theorem dX4_saves_1 : decode cX4_saves 1 = .ok (.ifCond .eq 10, 3) := by decide +kernel
theorem dX4_saves_4 : decode cX4_saves 4 = .ok (.iload_n 1, 1) := by decide +kernel
theorem dX4_saves_5 : decode cX4_saves 5 = .ok (.iconst 1, 1) := by decide +kernel
theorem dX4_saves_6 : decode cX4_saves 6 = .ok (.if_icmp .eq 5, 3) := by decide +kernel
theorem dX4_saves_9 : decode cX4_saves 9 = .ok (.iconst (-1), 1) := by decide +kernel
theorem dX4_saves_10 : decode cX4_saves 10 = .ok (.ireturn, 1) := by decide +kernel
theorem dX4_saves_11 : decode cX4_saves 11 = .ok (.bipush (-4), 2) := by decide +kernel
theorem dX4_saves_13 : decode cX4_saves 13 = .ok (.istore_n 2, 1) := by decide +kernel
theorem dX4_saves_14 : decode cX4_saves 14 = .ok (.bipush (-4), 2) := by decide +kernel
theorem dX4_saves_16 : decode cX4_saves 16 = .ok (.istore_n 3, 1) := by decide +kernel
theorem dX4_saves_17 : decode cX4_saves 17 = .ok (.iconst 0, 1) := by decide +kernel
theorem dX4_saves_18 : decode cX4_saves 18 = .ok (.istore 4, 2) := by decide +kernel
theorem dX4_saves_20 : decode cX4_saves 20 = .ok (.iload 4, 2) := by decide +kernel
theorem dX4_saves_22 : decode cX4_saves 22 = .ok (.aload_n 0, 1) := by decide +kernel
theorem dX4_saves_23 : decode cX4_saves 23 = .ok (.getfield 19, 3) := by decide +kernel
theorem dX4_saves_26 : decode cX4_saves 26 = .ok (.getfield 153, 3) := by decide +kernel
theorem dX4_saves_29 : decode cX4_saves 29 = .ok (.if_icmp .ge 76, 3) := by decide +kernel
theorem dX4_saves_32 : decode cX4_saves 32 = .ok (.aload_n 0, 1) := by decide +kernel
theorem dX4_saves_33 : decode cX4_saves 33 = .ok (.getfield 19, 3) := by decide +kernel
theorem dX4_saves_36 : decode cX4_saves 36 = .ok (.getfield 104, 3) := by decide +kernel
theorem dX4_saves_39 : decode cX4_saves 39 = .ok (.iload 4, 2) := by decide +kernel
theorem dX4_saves_41 : decode cX4_saves 41 = .ok (.baload, 1) := by decide +kernel
theorem dX4_saves_42 : decode cX4_saves 42 = .ok (.ifCond .eq 6, 3) := by decide +kernel
theorem dX4_saves_45 : decode cX4_saves 45 = .ok (.goto 54, 3) := by decide +kernel
theorem dX4_saves_48 : decode cX4_saves 48 = .ok (.aload_n 0, 1) := by decide +kernel
theorem dX4_saves_49 : decode cX4_saves 49 = .ok (.getfield 45, 3) := by decide +kernel
theorem dX4_saves_52 : decode cX4_saves 52 = .ok (.aload_n 0, 1) := by decide +kernel
theorem dX4_saves_53 : decode cX4_saves 53 = .ok (.getfield 19, 3) := by decide +kernel
theorem dX4_saves_56 : decode cX4_saves 56 = .ok (.invokevirtual 232, 3) := by decide +kernel
theorem dX4_saves_59 : decode cX4_saves 59 = .ok (.aload_n 0, 1) := by decide +kernel
theorem dX4_saves_60 : decode cX4_saves 60 = .ok (.getfield 45, 3) := by decide +kernel
theorem dX4_saves_63 : decode cX4_saves 63 = .ok (.iload 4, 2) := by decide +kernel
theorem dX4_saves_65 : decode cX4_saves 65 = .ok (.invokevirtual 140, 3) := by decide +kernel
theorem dX4_saves_68 : decode cX4_saves 68 = .ok (.aload_n 0, 1) := by decide +kernel
theorem dX4_saves_69 : decode cX4_saves 69 = .ok (.getfield 48, 3) := by decide +kernel
theorem dX4_saves_72 : decode cX4_saves 72 = .ok (.aload_n 0, 1) := by decide +kernel
theorem dX4_saves_73 : decode cX4_saves 73 = .ok (.getfield 45, 3) := by decide +kernel
theorem dX4_saves_76 : decode cX4_saves 76 = .ok (.invokevirtual 74, 3) := by decide +kernel
theorem dX4_saves_79 : decode cX4_saves 79 = .ok (.istore 5, 2) := by decide +kernel
theorem dX4_saves_81 : decode cX4_saves 81 = .ok (.iload_n 2, 1) := by decide +kernel
theorem dX4_saves_82 : decode cX4_saves 82 = .ok (.bipush (-4), 2) := by decide +kernel
theorem dX4_saves_84 : decode cX4_saves 84 = .ok (.if_icmp .eq 9, 3) := by decide +kernel
theorem dX4_saves_87 : decode cX4_saves 87 = .ok (.iload 5, 2) := by decide +kernel
theorem dX4_saves_89 : decode cX4_saves 89 = .ok (.iload_n 3, 1) := by decide +kernel
theorem dX4_saves_90 : decode cX4_saves 90 = .ok (.if_icmp .ge 9, 3) := by decide +kernel
theorem dX4_saves_93 : decode cX4_saves 93 = .ok (.iload 4, 2) := by decide +kernel
theorem dX4_saves_95 : decode cX4_saves 95 = .ok (.istore_n 2, 1) := by decide +kernel
theorem dX4_saves_96 : decode cX4_saves 96 = .ok (.iload 5, 2) := by decide +kernel
theorem dX4_saves_98 : decode cX4_saves 98 = .ok (.istore_n 3, 1) := by decide +kernel
theorem dX4_saves_99 : decode cX4_saves 99 = .ok (.iinc 4 1, 3) := by decide +kernel
theorem dX4_saves_102 : decode cX4_saves 102 = .ok (.goto (-82), 3) := by decide +kernel
theorem dX4_saves_105 : decode cX4_saves 105 = .ok (.iload_n 1, 1) := by decide +kernel
theorem dX4_saves_106 : decode cX4_saves 106 = .ok (.ifCond .ne 7, 3) := by decide +kernel
theorem dX4_saves_109 : decode cX4_saves 109 = .ok (.iload_n 2, 1) := by decide +kernel
theorem dX4_saves_110 : decode cX4_saves 110 = .ok (.goto 4, 3) := by decide +kernel
theorem dX4_saves_113 : decode cX4_saves 113 = .ok (.iload_n 3, 1) := by decide +kernel
theorem dX4_saves_114 : decode cX4_saves 114 = .ok (.ireturn, 1) := by decide +kernel
theorem dX4_tight_0 : decode cX4_tight 0 = .ok (.iload_n 1, 1) := by decide +kernel
theorem dX4_tight_1 : decode cX4_tight 1 = .ok (.iconst (-1), 1) := by decide +kernel
theorem dX4_tight_2 : decode cX4_tight 2 = .ok (.if_icmp .ge 5, 3) := by decide +kernel
theorem dX4_tight_5 : decode cX4_tight 5 = .ok (.iconst (-1), 1) := by decide +kernel
theorem dX4_tight_6 : decode cX4_tight 6 = .ok (.ireturn, 1) := by decide +kernel
theorem dX4_tight_7 : decode cX4_tight 7 = .ok (.iconst 0, 1) := by decide +kernel
theorem dX4_tight_8 : decode cX4_tight 8 = .ok (.istore_n 2, 1) := by decide +kernel
theorem dX4_tight_9 : decode cX4_tight 9 = .ok (.iconst 0, 1) := by decide +kernel
theorem dX4_tight_10 : decode cX4_tight 10 = .ok (.istore_n 3, 1) := by decide +kernel
theorem dX4_tight_11 : decode cX4_tight 11 = .ok (.iload_n 3, 1) := by decide +kernel
theorem dX4_tight_12 : decode cX4_tight 12 = .ok (.aload_n 0, 1) := by decide +kernel
theorem dX4_tight_13 : decode cX4_tight 13 = .ok (.getfield 19, 3) := by decide +kernel
theorem dX4_tight_16 : decode cX4_tight 16 = .ok (.getfield 84, 3) := by decide +kernel
theorem dX4_tight_19 : decode cX4_tight 19 = .ok (.if_icmp .gt 30, 3) := by decide +kernel
theorem dX4_tight_22 : decode cX4_tight 22 = .ok (.aload_n 0, 1) := by decide +kernel
theorem dX4_tight_23 : decode cX4_tight 23 = .ok (.iload_n 3, 1) := by decide +kernel
theorem dX4_tight_24 : decode cX4_tight 24 = .ok (.invokevirtual 235, 3) := by decide +kernel
theorem dX4_tight_27 : decode cX4_tight 27 = .ok (.ifCond .ne 6, 3) := by decide +kernel
theorem dX4_tight_30 : decode cX4_tight 30 = .ok (.goto 13, 3) := by decide +kernel
theorem dX4_tight_33 : decode cX4_tight 33 = .ok (.iload_n 2, 1) := by decide +kernel
theorem dX4_tight_34 : decode cX4_tight 34 = .ok (.iload_n 1, 1) := by decide +kernel
theorem dX4_tight_35 : decode cX4_tight 35 = .ok (.if_icmp .ne 5, 3) := by decide +kernel
theorem dX4_tight_38 : decode cX4_tight 38 = .ok (.iload_n 3, 1) := by decide +kernel
theorem dX4_tight_39 : decode cX4_tight 39 = .ok (.ireturn, 1) := by decide +kernel
theorem dX4_tight_40 : decode cX4_tight 40 = .ok (.iinc 2 1, 3) := by decide +kernel
theorem dX4_tight_43 : decode cX4_tight 43 = .ok (.iinc 3 1, 3) := by decide +kernel
theorem dX4_tight_46 : decode cX4_tight 46 = .ok (.goto (-35), 3) := by decide +kernel
theorem dX4_tight_49 : decode cX4_tight 49 = .ok (.iload_n 1, 1) := by decide +kernel
theorem dX4_tight_50 : decode cX4_tight 50 = .ok (.iconst (-1), 1) := by decide +kernel
theorem dX4_tight_51 : decode cX4_tight 51 = .ok (.if_icmp .ne 7, 3) := by decide +kernel
theorem dX4_tight_54 : decode cX4_tight 54 = .ok (.iload_n 2, 1) := by decide +kernel
theorem dX4_tight_55 : decode cX4_tight 55 = .ok (.goto 5, 3) := by decide +kernel
theorem dX4_tight_58 : decode cX4_tight 58 = .ok (.bipush (-4), 2) := by decide +kernel
theorem dX4_tight_60 : decode cX4_tight 60 = .ok (.ireturn, 1) := by decide +kernel
theorem dX4_day_0 : decode cX4_day 0 = .ok (.iload_n 1, 1) := by decide +kernel
theorem dX4_day_1 : decode cX4_day 1 = .ok (.ifCond .lt 21, 3) := by decide +kernel
theorem dX4_day_4 : decode cX4_day 4 = .ok (.iload_n 1, 1) := by decide +kernel
theorem dX4_day_5 : decode cX4_day 5 = .ok (.sipush 9999, 3) := by decide +kernel
theorem dX4_day_8 : decode cX4_day 8 = .ok (.if_icmp .gt 14, 3) := by decide +kernel
theorem dX4_day_11 : decode cX4_day 11 = .ok (.iload_n 2, 1) := by decide +kernel
theorem dX4_day_12 : decode cX4_day 12 = .ok (.iconst 1, 1) := by decide +kernel
theorem dX4_day_13 : decode cX4_day 13 = .ok (.if_icmp .lt 9, 3) := by decide +kernel
theorem dX4_day_16 : decode cX4_day 16 = .ok (.iload_n 2, 1) := by decide +kernel
theorem dX4_day_17 : decode cX4_day 17 = .ok (.bipush 40, 2) := by decide +kernel
theorem dX4_day_19 : decode cX4_day 19 = .ok (.if_icmp .le 5, 3) := by decide +kernel
theorem dX4_day_22 : decode cX4_day 22 = .ok (.iconst (-1), 1) := by decide +kernel
theorem dX4_day_23 : decode cX4_day 23 = .ok (.ireturn, 1) := by decide +kernel
theorem dX4_day_24 : decode cX4_day 24 = .ok (.iload_n 3, 1) := by decide +kernel
theorem dX4_day_25 : decode cX4_day 25 = .ok (.ifCond .lt 8, 3) := by decide +kernel
theorem dX4_day_28 : decode cX4_day 28 = .ok (.iload_n 3, 1) := by decide +kernel
theorem dX4_day_29 : decode cX4_day 29 = .ok (.iconst 2, 1) := by decide +kernel
theorem dX4_day_30 : decode cX4_day 30 = .ok (.if_icmp .le 5, 3) := by decide +kernel
theorem dX4_day_33 : decode cX4_day 33 = .ok (.iconst (-1), 1) := by decide +kernel
theorem dX4_day_34 : decode cX4_day 34 = .ok (.ireturn, 1) := by decide +kernel
theorem dX4_day_35 : decode cX4_day 35 = .ok (.aload_n 0, 1) := by decide +kernel
theorem dX4_day_36 : decode cX4_day 36 = .ok (.getfield 45, 3) := by decide +kernel
theorem dX4_day_39 : decode cX4_day 39 = .ok (.aload_n 0, 1) := by decide +kernel
theorem dX4_day_40 : decode cX4_day 40 = .ok (.getfield 19, 3) := by decide +kernel
theorem dX4_day_43 : decode cX4_day 43 = .ok (.invokevirtual 232, 3) := by decide +kernel
theorem dX4_day_46 : decode cX4_day 46 = .ok (.iconst 0, 1) := by decide +kernel
theorem dX4_day_47 : decode cX4_day 47 = .ok (.istore 4, 2) := by decide +kernel
theorem dX4_day_49 : decode cX4_day 49 = .ok (.iload 4, 2) := by decide +kernel
theorem dX4_day_51 : decode cX4_day 51 = .ok (.iload_n 2, 1) := by decide +kernel
theorem dX4_day_52 : decode cX4_day 52 = .ok (.if_icmp .ge 22, 3) := by decide +kernel
theorem dX4_day_55 : decode cX4_day 55 = .ok (.aload_n 0, 1) := by decide +kernel
theorem dX4_day_56 : decode cX4_day 56 = .ok (.getfield 45, 3) := by decide +kernel
theorem dX4_day_59 : decode cX4_day 59 = .ok (.iload_n 1, 1) := by decide +kernel
theorem dX4_day_60 : decode cX4_day 60 = .ok (.iload 4, 2) := by decide +kernel
theorem dX4_day_62 : decode cX4_day 62 = .ok (.invokestatic 238, 3) := by decide +kernel
theorem dX4_day_65 : decode cX4_day 65 = .ok (.invokevirtual 240, 3) := by decide +kernel
theorem dX4_day_68 : decode cX4_day 68 = .ok (.iinc 4 1, 3) := by decide +kernel
theorem dX4_day_71 : decode cX4_day 71 = .ok (.goto (-22), 3) := by decide +kernel
theorem dX4_day_74 : decode cX4_day 74 = .ok (.aload_n 0, 1) := by decide +kernel
theorem dX4_day_75 : decode cX4_day 75 = .ok (.getfield 48, 3) := by decide +kernel
theorem dX4_day_78 : decode cX4_day 78 = .ok (.aload_n 0, 1) := by decide +kernel
theorem dX4_day_79 : decode cX4_day 79 = .ok (.getfield 45, 3) := by decide +kernel
theorem dX4_day_82 : decode cX4_day 82 = .ok (.invokevirtual 74, 3) := by decide +kernel
theorem dX4_day_85 : decode cX4_day 85 = .ok (.istore 4, 2) := by decide +kernel
theorem dX4_day_87 : decode cX4_day 87 = .ok (.iload_n 3, 1) := by decide +kernel
theorem dX4_day_88 : decode cX4_day 88 = .ok (.lookupswitch 39 #[(0, 28), (1, 36)], 28) := by decide +kernel
theorem dX4_day_116 : decode cX4_day 116 = .ok (.aload_n 0, 1) := by decide +kernel
theorem dX4_day_117 : decode cX4_day 117 = .ok (.getfield 45, 3) := by decide +kernel
theorem dX4_day_120 : decode cX4_day 120 = .ok (.getfield 84, 3) := by decide +kernel
theorem dX4_day_123 : decode cX4_day 123 = .ok (.ireturn, 1) := by decide +kernel
theorem dX4_day_124 : decode cX4_day 124 = .ok (.iload 4, 2) := by decide +kernel
theorem dX4_day_126 : decode cX4_day 126 = .ok (.ireturn, 1) := by decide +kernel
theorem dX4_day_127 : decode cX4_day 127 = .ok (.aload_n 0, 1) := by decide +kernel
theorem dX4_day_128 : decode cX4_day 128 = .ok (.getfield 48, 3) := by decide +kernel
theorem dX4_day_131 : decode cX4_day 131 = .ok (.invokevirtual 243, 3) := by decide +kernel
theorem dX4_day_134 : decode cX4_day 134 = .ok (.ireturn, 1) := by decide +kernel
theorem dX4_keep_0 : decode cX4_keep 0 = .ok (.aload_n 0, 1) := by decide +kernel
theorem dX4_keep_1 : decode cX4_keep 1 = .ok (.getfield 32, 3) := by decide +kernel
theorem dX4_keep_4 : decode cX4_keep 4 = .ok (.invokevirtual 246, 3) := by decide +kernel
theorem dX4_keep_7 : decode cX4_keep 7 = .ok (.ifCond .eq 6, 3) := by decide +kernel
theorem dX4_keep_10 : decode cX4_keep 10 = .ok (.bipush (-3), 2) := by decide +kernel
theorem dX4_keep_12 : decode cX4_keep 12 = .ok (.ireturn, 1) := by decide +kernel
theorem dX4_keep_13 : decode cX4_keep 13 = .ok (.aload_n 0, 1) := by decide +kernel
theorem dX4_keep_14 : decode cX4_keep 14 = .ok (.getfield 32, 3) := by decide +kernel
theorem dX4_keep_17 : decode cX4_keep 17 = .ok (.aload_n 0, 1) := by decide +kernel
theorem dX4_keep_18 : decode cX4_keep 18 = .ok (.getfield 19, 3) := by decide +kernel
theorem dX4_keep_21 : decode cX4_keep 21 = .ok (.invokevirtual 124, 3) := by decide +kernel
theorem dX4_keep_24 : decode cX4_keep 24 = .ok (.aload_n 0, 1) := by decide +kernel
theorem dX4_keep_25 : decode cX4_keep 25 = .ok (.getfield 32, 3) := by decide +kernel
theorem dX4_keep_28 : decode cX4_keep 28 = .ok (.getfield 77, 3) := by decide +kernel
theorem dX4_keep_31 : decode cX4_keep 31 = .ok (.ireturn, 1) := by decide +kernel
theorem dX4_back_0 : decode cX4_back 0 = .ok (.aload_n 0, 1) := by decide +kernel
theorem dX4_back_1 : decode cX4_back 1 = .ok (.getfield 32, 3) := by decide +kernel
theorem dX4_back_4 : decode cX4_back 4 = .ok (.aload_n 0, 1) := by decide +kernel
theorem dX4_back_5 : decode cX4_back 5 = .ok (.getfield 45, 3) := by decide +kernel
theorem dX4_back_8 : decode cX4_back 8 = .ok (.invokevirtual 188, 3) := by decide +kernel
theorem dX4_back_11 : decode cX4_back 11 = .ok (.ifCond .ne 6, 3) := by decide +kernel
theorem dX4_back_14 : decode cX4_back 14 = .ok (.bipush (-2), 2) := by decide +kernel
theorem dX4_back_16 : decode cX4_back 16 = .ok (.ireturn, 1) := by decide +kernel
theorem dX4_back_17 : decode cX4_back 17 = .ok (.aload_n 0, 1) := by decide +kernel
theorem dX4_back_18 : decode cX4_back 18 = .ok (.aload_n 0, 1) := by decide +kernel
theorem dX4_back_19 : decode cX4_back 19 = .ok (.getfield 45, 3) := by decide +kernel
theorem dX4_back_22 : decode cX4_back 22 = .ok (.invokevirtual 80, 3) := by decide +kernel
theorem dX4_back_25 : decode cX4_back 25 = .ok (.aload_n 0, 1) := by decide +kernel
theorem dX4_back_26 : decode cX4_back 26 = .ok (.getfield 32, 3) := by decide +kernel
theorem dX4_back_29 : decode cX4_back 29 = .ok (.getfield 77, 3) := by decide +kernel
theorem dX4_back_32 : decode cX4_back 32 = .ok (.ireturn, 1) := by decide +kernel
theorem dX4_count_0 : decode cX4_count 0 = .ok (.iload_n 1, 1) := by decide +kernel
theorem dX4_count_1 : decode cX4_count 1 = .ok (.tableswitch 159 0 11 #[63, 71, 79, 87, 95, 103, 111, 119, 127, 135, 143, 151], 63) := by decide +kernel
theorem dX4_count_64 : decode cX4_count 64 = .ok (.aload_n 0, 1) := by decide +kernel
theorem dX4_count_65 : decode cX4_count 65 = .ok (.getfield 19, 3) := by decide +kernel
theorem dX4_count_68 : decode cX4_count 68 = .ok (.getfield 84, 3) := by decide +kernel
theorem dX4_count_71 : decode cX4_count 71 = .ok (.ireturn, 1) := by decide +kernel
theorem dX4_count_72 : decode cX4_count 72 = .ok (.aload_n 0, 1) := by decide +kernel
theorem dX4_count_73 : decode cX4_count 73 = .ok (.getfield 19, 3) := by decide +kernel
theorem dX4_count_76 : decode cX4_count 76 = .ok (.getfield 153, 3) := by decide +kernel
theorem dX4_count_79 : decode cX4_count 79 = .ok (.ireturn, 1) := by decide +kernel
theorem dX4_count_80 : decode cX4_count 80 = .ok (.aload_n 0, 1) := by decide +kernel
theorem dX4_count_81 : decode cX4_count 81 = .ok (.getfield 19, 3) := by decide +kernel
theorem dX4_count_84 : decode cX4_count 84 = .ok (.getfield 249, 3) := by decide +kernel
theorem dX4_count_87 : decode cX4_count 87 = .ok (.ireturn, 1) := by decide +kernel
theorem dX4_count_88 : decode cX4_count 88 = .ok (.aload_n 0, 1) := by decide +kernel
theorem dX4_count_89 : decode cX4_count 89 = .ok (.getfield 38, 3) := by decide +kernel
theorem dX4_count_92 : decode cX4_count 92 = .ok (.getfield 252, 3) := by decide +kernel
theorem dX4_count_95 : decode cX4_count 95 = .ok (.ireturn, 1) := by decide +kernel
theorem dX4_count_96 : decode cX4_count 96 = .ok (.aload_n 0, 1) := by decide +kernel
theorem dX4_count_97 : decode cX4_count 97 = .ok (.getfield 38, 3) := by decide +kernel
theorem dX4_count_100 : decode cX4_count 100 = .ok (.invokevirtual 243, 3) := by decide +kernel
theorem dX4_count_103 : decode cX4_count 103 = .ok (.ireturn, 1) := by decide +kernel
theorem dX4_count_104 : decode cX4_count 104 = .ok (.aload_n 0, 1) := by decide +kernel
theorem dX4_count_105 : decode cX4_count 105 = .ok (.getfield 19, 3) := by decide +kernel
theorem dX4_count_108 : decode cX4_count 108 = .ok (.getfield 169, 3) := by decide +kernel
theorem dX4_count_111 : decode cX4_count 111 = .ok (.ireturn, 1) := by decide +kernel
theorem dX4_count_112 : decode cX4_count 112 = .ok (.aload_n 0, 1) := by decide +kernel
theorem dX4_count_113 : decode cX4_count 113 = .ok (.getfield 19, 3) := by decide +kernel
theorem dX4_count_116 : decode cX4_count 116 = .ok (.getfield 172, 3) := by decide +kernel
theorem dX4_count_119 : decode cX4_count 119 = .ok (.ireturn, 1) := by decide +kernel
theorem dX4_count_120 : decode cX4_count 120 = .ok (.aload_n 0, 1) := by decide +kernel
theorem dX4_count_121 : decode cX4_count 121 = .ok (.getfield 19, 3) := by decide +kernel
theorem dX4_count_124 : decode cX4_count 124 = .ok (.getfield 175, 3) := by decide +kernel
theorem dX4_count_127 : decode cX4_count 127 = .ok (.ireturn, 1) := by decide +kernel
theorem dX4_count_128 : decode cX4_count 128 = .ok (.aload_n 0, 1) := by decide +kernel
theorem dX4_count_129 : decode cX4_count 129 = .ok (.getfield 19, 3) := by decide +kernel
theorem dX4_count_132 : decode cX4_count 132 = .ok (.getfield 185, 3) := by decide +kernel
theorem dX4_count_135 : decode cX4_count 135 = .ok (.ireturn, 1) := by decide +kernel
theorem dX4_count_136 : decode cX4_count 136 = .ok (.aload_n 0, 1) := by decide +kernel
theorem dX4_count_137 : decode cX4_count 137 = .ok (.getfield 28, 3) := by decide +kernel
theorem dX4_count_140 : decode cX4_count 140 = .ok (.getfield 77, 3) := by decide +kernel
theorem dX4_count_143 : decode cX4_count 143 = .ok (.ireturn, 1) := by decide +kernel
theorem dX4_count_144 : decode cX4_count 144 = .ok (.aload_n 0, 1) := by decide +kernel
theorem dX4_count_145 : decode cX4_count 145 = .ok (.getfield 32, 3) := by decide +kernel
theorem dX4_count_148 : decode cX4_count 148 = .ok (.getfield 77, 3) := by decide +kernel
theorem dX4_count_151 : decode cX4_count 151 = .ok (.ireturn, 1) := by decide +kernel
theorem dX4_count_152 : decode cX4_count 152 = .ok (.aload_n 0, 1) := by decide +kernel
theorem dX4_count_153 : decode cX4_count 153 = .ok (.getfield 12, 3) := by decide +kernel
theorem dX4_count_156 : decode cX4_count 156 = .ok (.getfield 71, 3) := by decide +kernel
theorem dX4_count_159 : decode cX4_count 159 = .ok (.ireturn, 1) := by decide +kernel
theorem dX4_count_160 : decode cX4_count 160 = .ok (.iconst (-1), 1) := by decide +kernel
theorem dX4_count_161 : decode cX4_count 161 = .ok (.ireturn, 1) := by decide +kernel
theorem dX4_isColumn_0 : decode cX4_isColumn 0 = .ok (.iload_n 0, 1) := by decide +kernel
theorem dX4_isColumn_1 : decode cX4_isColumn 1 = .ok (.ifCond .lt 13, 3) := by decide +kernel
theorem dX4_isColumn_4 : decode cX4_isColumn 4 = .ok (.iload_n 0, 1) := by decide +kernel
theorem dX4_isColumn_5 : decode cX4_isColumn 5 = .ok (.bipush 99, 2) := by decide +kernel
theorem dX4_isColumn_7 : decode cX4_isColumn 7 = .ok (.if_icmp .gt 7, 3) := by decide +kernel
theorem dX4_isColumn_10 : decode cX4_isColumn 10 = .ok (.iconst 1, 1) := by decide +kernel
theorem dX4_isColumn_11 : decode cX4_isColumn 11 = .ok (.goto 4, 3) := by decide +kernel
theorem dX4_isColumn_14 : decode cX4_isColumn 14 = .ok (.iconst 0, 1) := by decide +kernel
theorem dX4_isColumn_15 : decode cX4_isColumn 15 = .ok (.ireturn, 1) := by decide +kernel
theorem dX4_draw_0 : decode cX4_draw 0 = .ok (.ldc2_w 255, 3) := by decide +kernel
theorem dX4_draw_3 : decode cX4_draw 3 = .ok (.iload_n 0, 1) := by decide +kernel
theorem dX4_draw_4 : decode cX4_draw 4 = .ok (.i2l, 1) := by decide +kernel
theorem dX4_draw_5 : decode cX4_draw 5 = .ok (.lmul, 1) := by decide +kernel
theorem dX4_draw_6 : decode cX4_draw 6 = .ok (.ldc2_w 257, 3) := by decide +kernel
theorem dX4_draw_9 : decode cX4_draw 9 = .ok (.iload_n 1, 1) := by decide +kernel
theorem dX4_draw_10 : decode cX4_draw 10 = .ok (.i2l, 1) := by decide +kernel
theorem dX4_draw_11 : decode cX4_draw 11 = .ok (.lmul, 1) := by decide +kernel
theorem dX4_draw_12 : decode cX4_draw 12 = .ok (.ladd, 1) := by decide +kernel
theorem dX4_draw_13 : decode cX4_draw 13 = .ok (.lconst 1, 1) := by decide +kernel
theorem dX4_draw_14 : decode cX4_draw 14 = .ok (.ladd, 1) := by decide +kernel
theorem dX4_draw_15 : decode cX4_draw 15 = .ok (.lstore_n 2, 1) := by decide +kernel
theorem dX4_draw_16 : decode cX4_draw 16 = .ok (.lload_n 2, 1) := by decide +kernel
theorem dX4_draw_17 : decode cX4_draw 17 = .ok (.lload_n 2, 1) := by decide +kernel
theorem dX4_draw_18 : decode cX4_draw 18 = .ok (.lmul, 1) := by decide +kernel
theorem dX4_draw_19 : decode cX4_draw 19 = .ok (.ldc2_w 259, 3) := by decide +kernel
theorem dX4_draw_22 : decode cX4_draw 22 = .ok (.lrem, 1) := by decide +kernel
theorem dX4_draw_23 : decode cX4_draw 23 = .ok (.l2i, 1) := by decide +kernel
theorem dX4_draw_24 : decode cX4_draw 24 = .ok (.ireturn, 1) := by decide +kernel
theorem dX4_startAnew_0 : decode cX4_startAnew 0 = .ok (.aload_n 0, 1) := by decide +kernel
theorem dX4_startAnew_1 : decode cX4_startAnew 1 = .ok (.getfield 19, 3) := by decide +kernel
theorem dX4_startAnew_4 : decode cX4_startAnew 4 = .ok (.aload_n 1, 1) := by decide +kernel
theorem dX4_startAnew_5 : decode cX4_startAnew 5 = .ok (.invokevirtual 232, 3) := by decide +kernel
theorem dX4_startAnew_8 : decode cX4_startAnew 8 = .ok (.aload_n 0, 1) := by decide +kernel
theorem dX4_startAnew_9 : decode cX4_startAnew 9 = .ok (.getfield 28, 3) := by decide +kernel
theorem dX4_startAnew_12 : decode cX4_startAnew 12 = .ok (.iconst 0, 1) := by decide +kernel
theorem dX4_startAnew_13 : decode cX4_startAnew 13 = .ok (.putfield 77, 3) := by decide +kernel
theorem dX4_startAnew_16 : decode cX4_startAnew 16 = .ok (.aload_n 0, 1) := by decide +kernel
theorem dX4_startAnew_17 : decode cX4_startAnew 17 = .ok (.iconst 0, 1) := by decide +kernel
theorem dX4_startAnew_18 : decode cX4_startAnew 18 = .ok (.putfield 261, 3) := by decide +kernel
theorem dX4_startAnew_21 : decode cX4_startAnew 21 = .ok (.aload_n 0, 1) := by decide +kernel
theorem dX4_startAnew_22 : decode cX4_startAnew 22 = .ok (.getfield 38, 3) := by decide +kernel
theorem dX4_startAnew_25 : decode cX4_startAnew 25 = .ok (.aload_n 0, 1) := by decide +kernel
theorem dX4_startAnew_26 : decode cX4_startAnew 26 = .ok (.getfield 19, 3) := by decide +kernel
theorem dX4_startAnew_29 : decode cX4_startAnew 29 = .ok (.invokevirtual 74, 3) := by decide +kernel
theorem dX4_startAnew_32 : decode cX4_startAnew 32 = .ok (.pop, 1) := by decide +kernel
theorem dX4_startAnew_33 : decode cX4_startAnew 33 = .ok (.return_, 1) := by decide +kernel
theorem dX4_redraw_0 : decode cX4_redraw 0 = .ok (.aload_n 0, 1) := by decide +kernel
theorem dX4_redraw_1 : decode cX4_redraw 1 = .ok (.getfield 42, 3) := by decide +kernel
theorem dX4_redraw_4 : decode cX4_redraw 4 = .ok (.astore_n 1, 1) := by decide +kernel
theorem dX4_redraw_5 : decode cX4_redraw 5 = .ok (.aload_n 0, 1) := by decide +kernel
theorem dX4_redraw_6 : decode cX4_redraw 6 = .ok (.aload_n 0, 1) := by decide +kernel
theorem dX4_redraw_7 : decode cX4_redraw 7 = .ok (.getfield 38, 3) := by decide +kernel
theorem dX4_redraw_10 : decode cX4_redraw 10 = .ok (.putfield 42, 3) := by decide +kernel
theorem dX4_redraw_13 : decode cX4_redraw 13 = .ok (.aload_n 0, 1) := by decide +kernel
theorem dX4_redraw_14 : decode cX4_redraw 14 = .ok (.aload_n 1, 1) := by decide +kernel
theorem dX4_redraw_15 : decode cX4_redraw 15 = .ok (.putfield 38, 3) := by decide +kernel
theorem dX4_redraw_18 : decode cX4_redraw 18 = .ok (.aload_n 0, 1) := by decide +kernel
theorem dX4_redraw_19 : decode cX4_redraw 19 = .ok (.getfield 38, 3) := by decide +kernel
theorem dX4_redraw_22 : decode cX4_redraw 22 = .ok (.aload_n 0, 1) := by decide +kernel
theorem dX4_redraw_23 : decode cX4_redraw 23 = .ok (.getfield 19, 3) := by decide +kernel
theorem dX4_redraw_26 : decode cX4_redraw 26 = .ok (.invokevirtual 74, 3) := by decide +kernel
theorem dX4_redraw_29 : decode cX4_redraw 29 = .ok (.pop, 1) := by decide +kernel
theorem dX4_redraw_30 : decode cX4_redraw 30 = .ok (.aload_n 0, 1) := by decide +kernel
theorem dX4_redraw_31 : decode cX4_redraw 31 = .ok (.iconst 1, 1) := by decide +kernel
theorem dX4_redraw_32 : decode cX4_redraw 32 = .ok (.putfield 261, 3) := by decide +kernel
theorem dX4_redraw_35 : decode cX4_redraw 35 = .ok (.return_, 1) := by decide +kernel
theorem dX4_rowOf_0 : decode cX4_rowOf 0 = .ok (.aload_n 0, 1) := by decide +kernel
theorem dX4_rowOf_1 : decode cX4_rowOf 1 = .ok (.getfield 38, 3) := by decide +kernel
theorem dX4_rowOf_4 : decode cX4_rowOf 4 = .ok (.aload_n 0, 1) := by decide +kernel
theorem dX4_rowOf_5 : decode cX4_rowOf 5 = .ok (.getfield 19, 3) := by decide +kernel
theorem dX4_rowOf_8 : decode cX4_rowOf 8 = .ok (.iload_n 1, 1) := by decide +kernel
theorem dX4_rowOf_9 : decode cX4_rowOf 9 = .ok (.invokevirtual 265, 3) := by decide +kernel
theorem dX4_rowOf_12 : decode cX4_rowOf 12 = .ok (.invokevirtual 268, 3) := by decide +kernel
theorem dX4_rowOf_15 : decode cX4_rowOf 15 = .ok (.istore_n 2, 1) := by decide +kernel
theorem dX4_rowOf_16 : decode cX4_rowOf 16 = .ok (.iload_n 2, 1) := by decide +kernel
theorem dX4_rowOf_17 : decode cX4_rowOf 17 = .ok (.ifCond .ge 15, 3) := by decide +kernel
theorem dX4_rowOf_20 : decode cX4_rowOf 20 = .ok (.aload_n 0, 1) := by decide +kernel
theorem dX4_rowOf_21 : decode cX4_rowOf 21 = .ok (.getfield 38, 3) := by decide +kernel
theorem dX4_rowOf_24 : decode cX4_rowOf 24 = .ok (.getfield 252, 3) := by decide +kernel
theorem dX4_rowOf_27 : decode cX4_rowOf 27 = .ok (.iconst 1, 1) := by decide +kernel
theorem dX4_rowOf_28 : decode cX4_rowOf 28 = .ok (.isub, 1) := by decide +kernel
theorem dX4_rowOf_29 : decode cX4_rowOf 29 = .ok (.goto 12, 3) := by decide +kernel
theorem dX4_rowOf_32 : decode cX4_rowOf 32 = .ok (.aload_n 0, 1) := by decide +kernel
theorem dX4_rowOf_33 : decode cX4_rowOf 33 = .ok (.getfield 38, 3) := by decide +kernel
theorem dX4_rowOf_36 : decode cX4_rowOf 36 = .ok (.getfield 271, 3) := by decide +kernel
theorem dX4_rowOf_39 : decode cX4_rowOf 39 = .ok (.iload_n 2, 1) := by decide +kernel
theorem dX4_rowOf_40 : decode cX4_rowOf 40 = .ok (.iaload, 1) := by decide +kernel
theorem dX4_rowOf_41 : decode cX4_rowOf 41 = .ok (.ireturn, 1) := by decide +kernel
theorem dX4_columnOf_0 : decode cX4_columnOf 0 = .ok (.aload_n 0, 1) := by decide +kernel
theorem dX4_columnOf_1 : decode cX4_columnOf 1 = .ok (.getfield 38, 3) := by decide +kernel
theorem dX4_columnOf_4 : decode cX4_columnOf 4 = .ok (.aload_n 0, 1) := by decide +kernel
theorem dX4_columnOf_5 : decode cX4_columnOf 5 = .ok (.getfield 19, 3) := by decide +kernel
theorem dX4_columnOf_8 : decode cX4_columnOf 8 = .ok (.iload_n 1, 1) := by decide +kernel
theorem dX4_columnOf_9 : decode cX4_columnOf 9 = .ok (.invokevirtual 265, 3) := by decide +kernel
theorem dX4_columnOf_12 : decode cX4_columnOf 12 = .ok (.invokevirtual 268, 3) := by decide +kernel
theorem dX4_columnOf_15 : decode cX4_columnOf 15 = .ok (.istore_n 2, 1) := by decide +kernel
theorem dX4_columnOf_16 : decode cX4_columnOf 16 = .ok (.iload_n 2, 1) := by decide +kernel
theorem dX4_columnOf_17 : decode cX4_columnOf 17 = .ok (.ifCond .ge 13, 3) := by decide +kernel
theorem dX4_columnOf_20 : decode cX4_columnOf 20 = .ok (.aload_n 0, 1) := by decide +kernel
theorem dX4_columnOf_21 : decode cX4_columnOf 21 = .ok (.getfield 38, 3) := by decide +kernel
theorem dX4_columnOf_24 : decode cX4_columnOf 24 = .ok (.getfield 274, 3) := by decide +kernel
theorem dX4_columnOf_27 : decode cX4_columnOf 27 = .ok (.goto 12, 3) := by decide +kernel
theorem dX4_columnOf_30 : decode cX4_columnOf 30 = .ok (.aload_n 0, 1) := by decide +kernel
theorem dX4_columnOf_31 : decode cX4_columnOf 31 = .ok (.getfield 38, 3) := by decide +kernel
theorem dX4_columnOf_34 : decode cX4_columnOf 34 = .ok (.getfield 277, 3) := by decide +kernel
theorem dX4_columnOf_37 : decode cX4_columnOf 37 = .ok (.iload_n 2, 1) := by decide +kernel
theorem dX4_columnOf_38 : decode cX4_columnOf 38 = .ok (.iaload, 1) := by decide +kernel
theorem dX4_columnOf_39 : decode cX4_columnOf 39 = .ok (.ireturn, 1) := by decide +kernel
theorem dX4_acrossTo_0 : decode cX4_acrossTo 0 = .ok (.aload_n 0, 1) := by decide +kernel
theorem dX4_acrossTo_1 : decode cX4_acrossTo 1 = .ok (.getfield 38, 3) := by decide +kernel
theorem dX4_acrossTo_4 : decode cX4_acrossTo 4 = .ok (.iload_n 1, 1) := by decide +kernel
theorem dX4_acrossTo_5 : decode cX4_acrossTo 5 = .ok (.invokevirtual 198, 3) := by decide +kernel
theorem dX4_acrossTo_8 : decode cX4_acrossTo 8 = .ok (.ifCond .eq 22, 3) := by decide +kernel
theorem dX4_acrossTo_11 : decode cX4_acrossTo 11 = .ok (.aload_n 0, 1) := by decide +kernel
theorem dX4_acrossTo_12 : decode cX4_acrossTo 12 = .ok (.getfield 38, 3) := by decide +kernel
theorem dX4_acrossTo_15 : decode cX4_acrossTo 15 = .ok (.iload_n 1, 1) := by decide +kernel
theorem dX4_acrossTo_16 : decode cX4_acrossTo 16 = .ok (.iload_n 2, 1) := by decide +kernel
theorem dX4_acrossTo_17 : decode cX4_acrossTo 17 = .ok (.aload_n 0, 1) := by decide +kernel
theorem dX4_acrossTo_18 : decode cX4_acrossTo 18 = .ok (.getfield 19, 3) := by decide +kernel
theorem dX4_acrossTo_21 : decode cX4_acrossTo 21 = .ok (.getfield 84, 3) := by decide +kernel
theorem dX4_acrossTo_24 : decode cX4_acrossTo 24 = .ok (.invokevirtual 204, 3) := by decide +kernel
theorem dX4_acrossTo_27 : decode cX4_acrossTo 27 = .ok (.goto 5, 3) := by decide +kernel
theorem dX4_acrossTo_30 : decode cX4_acrossTo 30 = .ok (.bipush (-4), 2) := by decide +kernel
theorem dX4_acrossTo_32 : decode cX4_acrossTo 32 = .ok (.ireturn, 1) := by decide +kernel
theorem dX4_rowsToCompare_0 : decode cX4_rowsToCompare 0 = .ok (.aload_n 0, 1) := by decide +kernel
theorem dX4_rowsToCompare_1 : decode cX4_rowsToCompare 1 = .ok (.getfield 261, 3) := by decide +kernel
theorem dX4_rowsToCompare_4 : decode cX4_rowsToCompare 4 = .ok (.ifCond .eq 23, 3) := by decide +kernel
theorem dX4_rowsToCompare_7 : decode cX4_rowsToCompare 7 = .ok (.aload_n 0, 1) := by decide +kernel
theorem dX4_rowsToCompare_8 : decode cX4_rowsToCompare 8 = .ok (.getfield 38, 3) := by decide +kernel
theorem dX4_rowsToCompare_11 : decode cX4_rowsToCompare 11 = .ok (.getfield 252, 3) := by decide +kernel
theorem dX4_rowsToCompare_14 : decode cX4_rowsToCompare 14 = .ok (.aload_n 0, 1) := by decide +kernel
theorem dX4_rowsToCompare_15 : decode cX4_rowsToCompare 15 = .ok (.getfield 42, 3) := by decide +kernel
theorem dX4_rowsToCompare_18 : decode cX4_rowsToCompare 18 = .ok (.getfield 252, 3) := by decide +kernel
theorem dX4_rowsToCompare_21 : decode cX4_rowsToCompare 21 = .ok (.invokestatic 280, 3) := by decide +kernel
theorem dX4_rowsToCompare_24 : decode cX4_rowsToCompare 24 = .ok (.goto 4, 3) := by decide +kernel
theorem dX4_rowsToCompare_27 : decode cX4_rowsToCompare 27 = .ok (.iconst 0, 1) := by decide +kernel
theorem dX4_rowsToCompare_28 : decode cX4_rowsToCompare 28 = .ok (.ireturn, 1) := by decide +kernel
theorem dX4_firstChanged_0 : decode cX4_firstChanged 0 = .ok (.aload_n 0, 1) := by decide +kernel
theorem dX4_firstChanged_1 : decode cX4_firstChanged 1 = .ok (.invokevirtual 285, 3) := by decide +kernel
theorem dX4_firstChanged_4 : decode cX4_firstChanged 4 = .ok (.istore_n 1, 1) := by decide +kernel
theorem dX4_firstChanged_5 : decode cX4_firstChanged 5 = .ok (.iconst 0, 1) := by decide +kernel
theorem dX4_firstChanged_6 : decode cX4_firstChanged 6 = .ok (.istore_n 2, 1) := by decide +kernel
theorem dX4_firstChanged_7 : decode cX4_firstChanged 7 = .ok (.iload_n 2, 1) := by decide +kernel
theorem dX4_firstChanged_8 : decode cX4_firstChanged 8 = .ok (.iload_n 1, 1) := by decide +kernel
theorem dX4_firstChanged_9 : decode cX4_firstChanged 9 = .ok (.if_icmp .ge 26, 3) := by decide +kernel
theorem dX4_firstChanged_12 : decode cX4_firstChanged 12 = .ok (.aload_n 0, 1) := by decide +kernel
theorem dX4_firstChanged_13 : decode cX4_firstChanged 13 = .ok (.getfield 38, 3) := by decide +kernel
theorem dX4_firstChanged_16 : decode cX4_firstChanged 16 = .ok (.aload_n 0, 1) := by decide +kernel
theorem dX4_firstChanged_17 : decode cX4_firstChanged 17 = .ok (.getfield 42, 3) := by decide +kernel
theorem dX4_firstChanged_20 : decode cX4_firstChanged 20 = .ok (.iload_n 2, 1) := by decide +kernel
theorem dX4_firstChanged_21 : decode cX4_firstChanged 21 = .ok (.invokevirtual 288, 3) := by decide +kernel
theorem dX4_firstChanged_24 : decode cX4_firstChanged 24 = .ok (.ifCond .ne 5, 3) := by decide +kernel
theorem dX4_firstChanged_27 : decode cX4_firstChanged 27 = .ok (.iload_n 2, 1) := by decide +kernel
theorem dX4_firstChanged_28 : decode cX4_firstChanged 28 = .ok (.ireturn, 1) := by decide +kernel
theorem dX4_firstChanged_29 : decode cX4_firstChanged 29 = .ok (.iinc 2 1, 3) := by decide +kernel
theorem dX4_firstChanged_32 : decode cX4_firstChanged 32 = .ok (.goto (-25), 3) := by decide +kernel
theorem dX4_firstChanged_35 : decode cX4_firstChanged 35 = .ok (.bipush (-4), 2) := by decide +kernel
theorem dX4_firstChanged_37 : decode cX4_firstChanged 37 = .ok (.ireturn, 1) := by decide +kernel
theorem dX4_countChanged_0 : decode cX4_countChanged 0 = .ok (.aload_n 0, 1) := by decide +kernel
theorem dX4_countChanged_1 : decode cX4_countChanged 1 = .ok (.invokevirtual 285, 3) := by decide +kernel
theorem dX4_countChanged_4 : decode cX4_countChanged 4 = .ok (.istore_n 1, 1) := by decide +kernel
theorem dX4_countChanged_5 : decode cX4_countChanged 5 = .ok (.iconst 0, 1) := by decide +kernel
theorem dX4_countChanged_6 : decode cX4_countChanged 6 = .ok (.istore_n 2, 1) := by decide +kernel
theorem dX4_countChanged_7 : decode cX4_countChanged 7 = .ok (.iconst 0, 1) := by decide +kernel
theorem dX4_countChanged_8 : decode cX4_countChanged 8 = .ok (.istore_n 3, 1) := by decide +kernel
theorem dX4_countChanged_9 : decode cX4_countChanged 9 = .ok (.iload_n 3, 1) := by decide +kernel
theorem dX4_countChanged_10 : decode cX4_countChanged 10 = .ok (.iload_n 1, 1) := by decide +kernel
theorem dX4_countChanged_11 : decode cX4_countChanged 11 = .ok (.if_icmp .ge 27, 3) := by decide +kernel
theorem dX4_countChanged_14 : decode cX4_countChanged 14 = .ok (.aload_n 0, 1) := by decide +kernel
theorem dX4_countChanged_15 : decode cX4_countChanged 15 = .ok (.getfield 38, 3) := by decide +kernel
theorem dX4_countChanged_18 : decode cX4_countChanged 18 = .ok (.aload_n 0, 1) := by decide +kernel
theorem dX4_countChanged_19 : decode cX4_countChanged 19 = .ok (.getfield 42, 3) := by decide +kernel
theorem dX4_countChanged_22 : decode cX4_countChanged 22 = .ok (.iload_n 3, 1) := by decide +kernel
theorem dX4_countChanged_23 : decode cX4_countChanged 23 = .ok (.invokevirtual 288, 3) := by decide +kernel
theorem dX4_countChanged_26 : decode cX4_countChanged 26 = .ok (.ifCond .ne 6, 3) := by decide +kernel
theorem dX4_countChanged_29 : decode cX4_countChanged 29 = .ok (.iinc 2 1, 3) := by decide +kernel
theorem dX4_countChanged_32 : decode cX4_countChanged 32 = .ok (.iinc 3 1, 3) := by decide +kernel
theorem dX4_countChanged_35 : decode cX4_countChanged 35 = .ok (.goto (-26), 3) := by decide +kernel
theorem dX4_countChanged_38 : decode cX4_countChanged 38 = .ok (.iload_n 2, 1) := by decide +kernel
theorem dX4_countChanged_39 : decode cX4_countChanged 39 = .ok (.ireturn, 1) := by decide +kernel
theorem dX4_isTight_0 : decode cX4_isTight 0 = .ok (.aload_n 0, 1) := by decide +kernel
theorem dX4_isTight_1 : decode cX4_isTight 1 = .ok (.getfield 19, 3) := by decide +kernel
theorem dX4_isTight_4 : decode cX4_isTight 4 = .ok (.invokevirtual 120, 3) := by decide +kernel
theorem dX4_isTight_7 : decode cX4_isTight 7 = .ok (.ifCond .ne 5, 3) := by decide +kernel
theorem dX4_isTight_10 : decode cX4_isTight 10 = .ok (.iconst 0, 1) := by decide +kernel
theorem dX4_isTight_11 : decode cX4_isTight 11 = .ok (.ireturn, 1) := by decide +kernel
theorem dX4_isTight_12 : decode cX4_isTight 12 = .ok (.aload_n 0, 1) := by decide +kernel
theorem dX4_isTight_13 : decode cX4_isTight 13 = .ok (.getfield 45, 3) := by decide +kernel
theorem dX4_isTight_16 : decode cX4_isTight 16 = .ok (.aload_n 0, 1) := by decide +kernel
theorem dX4_isTight_17 : decode cX4_isTight 17 = .ok (.getfield 19, 3) := by decide +kernel
theorem dX4_isTight_20 : decode cX4_isTight 20 = .ok (.invokevirtual 232, 3) := by decide +kernel
theorem dX4_isTight_23 : decode cX4_isTight 23 = .ok (.aload_n 0, 1) := by decide +kernel
theorem dX4_isTight_24 : decode cX4_isTight 24 = .ok (.getfield 45, 3) := by decide +kernel
theorem dX4_isTight_27 : decode cX4_isTight 27 = .ok (.iload_n 1, 1) := by decide +kernel
theorem dX4_isTight_28 : decode cX4_isTight 28 = .ok (.iconst 0, 1) := by decide +kernel
theorem dX4_isTight_29 : decode cX4_isTight 29 = .ok (.invokevirtual 127, 3) := by decide +kernel
theorem dX4_isTight_32 : decode cX4_isTight 32 = .ok (.aload_n 0, 1) := by decide +kernel
theorem dX4_isTight_33 : decode cX4_isTight 33 = .ok (.getfield 48, 3) := by decide +kernel
theorem dX4_isTight_36 : decode cX4_isTight 36 = .ok (.aload_n 0, 1) := by decide +kernel
theorem dX4_isTight_37 : decode cX4_isTight 37 = .ok (.getfield 45, 3) := by decide +kernel
theorem dX4_isTight_40 : decode cX4_isTight 40 = .ok (.invokevirtual 74, 3) := by decide +kernel
theorem dX4_isTight_43 : decode cX4_isTight 43 = .ok (.aload_n 0, 1) := by decide +kernel
theorem dX4_isTight_44 : decode cX4_isTight 44 = .ok (.getfield 38, 3) := by decide +kernel
theorem dX4_isTight_47 : decode cX4_isTight 47 = .ok (.getfield 252, 3) := by decide +kernel
theorem dX4_isTight_50 : decode cX4_isTight 50 = .ok (.if_icmp .le 7, 3) := by decide +kernel
theorem dX4_isTight_53 : decode cX4_isTight 53 = .ok (.iconst 1, 1) := by decide +kernel
theorem dX4_isTight_54 : decode cX4_isTight 54 = .ok (.goto 4, 3) := by decide +kernel
theorem dX4_isTight_57 : decode cX4_isTight 57 = .ok (.iconst 0, 1) := by decide +kernel
theorem dX4_isTight_58 : decode cX4_isTight 58 = .ok (.ireturn, 1) := by decide +kernel
