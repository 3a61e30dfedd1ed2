theorem dX2_init_0 : decode cX2_init 0 = .ok (.aload_n 0, 1) := by decide +kernel
theorem dX2_init_1 : decode cX2_init 1 = .ok (.invokespecial 3, 3) := by decide +kernel
theorem dX2_init_4 : decode cX2_init 4 = .ok (.aload_n 0, 1) := by decide +kernel
theorem dX2_init_5 : decode cX2_init 5 = .ok (.bipush 40, 2) := by decide +kernel
theorem dX2_init_7 : decode cX2_init 7 = .ok (.newarray .int, 2) := by decide +kernel
theorem dX2_init_9 : decode cX2_init 9 = .ok (.putfield 9, 3) := by decide +kernel
theorem dX2_init_12 : decode cX2_init 12 = .ok (.aload_n 0, 1) := by decide +kernel
theorem dX2_init_13 : decode cX2_init 13 = .ok (.iconst 4, 1) := by decide +kernel
theorem dX2_init_14 : decode cX2_init 14 = .ok (.newarray .int, 2) := by decide +kernel
theorem dX2_init_16 : decode cX2_init 16 = .ok (.putfield 15, 3) := by decide +kernel
theorem dX2_init_19 : decode cX2_init 19 = .ok (.aload_n 0, 1) := by decide +kernel
theorem dX2_init_20 : decode cX2_init 20 = .ok (.iconst 4, 1) := by decide +kernel
theorem dX2_init_21 : decode cX2_init 21 = .ok (.newarray .int, 2) := by decide +kernel
theorem dX2_init_23 : decode cX2_init 23 = .ok (.putfield 18, 3) := by decide +kernel
theorem dX2_init_26 : decode cX2_init 26 = .ok (.aload_n 0, 1) := by decide +kernel
theorem dX2_init_27 : decode cX2_init 27 = .ok (.iconst 4, 1) := by decide +kernel
theorem dX2_init_28 : decode cX2_init 28 = .ok (.newarray .boolean, 2) := by decide +kernel
theorem dX2_init_30 : decode cX2_init 30 = .ok (.putfield 21, 3) := by decide +kernel
theorem dX2_init_33 : decode cX2_init 33 = .ok (.aload_n 0, 1) := by decide +kernel
theorem dX2_init_34 : decode cX2_init 34 = .ok (.iconst 4, 1) := by decide +kernel
theorem dX2_init_35 : decode cX2_init 35 = .ok (.newarray .int, 2) := by decide +kernel
theorem dX2_init_37 : decode cX2_init 37 = .ok (.putfield 25, 3) := by decide +kernel
theorem dX2_init_40 : decode cX2_init 40 = .ok (.aload_n 0, 1) := by decide +kernel
theorem dX2_init_41 : decode cX2_init 41 = .ok (.iconst 4, 1) := by decide +kernel
theorem dX2_init_42 : decode cX2_init 42 = .ok (.newarray .int, 2) := by decide +kernel
theorem dX2_init_44 : decode cX2_init 44 = .ok (.putfield 28, 3) := by decide +kernel
theorem dX2_init_47 : decode cX2_init 47 = .ok (.return_, 1) := by decide +kernel
theorem dX2_clear_0 : decode cX2_clear 0 = .ok (.aload_n 0, 1) := by decide +kernel
theorem dX2_clear_1 : decode cX2_clear 1 = .ok (.iconst 0, 1) := by decide +kernel
theorem dX2_clear_2 : decode cX2_clear 2 = .ok (.putfield 31, 3) := by decide +kernel
theorem dX2_clear_5 : decode cX2_clear 5 = .ok (.aload_n 0, 1) := by decide +kernel
theorem dX2_clear_6 : decode cX2_clear 6 = .ok (.iconst 0, 1) := by decide +kernel
theorem dX2_clear_7 : decode cX2_clear 7 = .ok (.putfield 35, 3) := by decide +kernel
theorem dX2_clear_10 : decode cX2_clear 10 = .ok (.aload_n 0, 1) := by decide +kernel
theorem dX2_clear_11 : decode cX2_clear 11 = .ok (.iconst 0, 1) := by decide +kernel
theorem dX2_clear_12 : decode cX2_clear 12 = .ok (.putfield 38, 3) := by decide +kernel
theorem dX2_clear_15 : decode cX2_clear 15 = .ok (.aload_n 0, 1) := by decide +kernel
theorem dX2_clear_16 : decode cX2_clear 16 = .ok (.iconst 1, 1) := by decide +kernel
theorem dX2_clear_17 : decode cX2_clear 17 = .ok (.bipush 8, 2) := by decide +kernel
theorem dX2_clear_19 : decode cX2_clear 19 = .ok (.iconst 0, 1) := by decide +kernel
theorem dX2_clear_20 : decode cX2_clear 20 = .ok (.invokevirtual 41, 3) := by decide +kernel
theorem dX2_clear_23 : decode cX2_clear 23 = .ok (.aload_n 0, 1) := by decide +kernel
theorem dX2_clear_24 : decode cX2_clear 24 = .ok (.iconst 4, 1) := by decide +kernel
theorem dX2_clear_25 : decode cX2_clear 25 = .ok (.putfield 45, 3) := by decide +kernel
theorem dX2_clear_28 : decode cX2_clear 28 = .ok (.return_, 1) := by decide +kernel
theorem dX2_copyFrom_0 : decode cX2_copyFrom 0 = .ok (.aload_n 1, 1) := by decide +kernel
theorem dX2_copyFrom_1 : decode cX2_copyFrom 1 = .ok (.getfield 9, 3) := by decide +kernel
theorem dX2_copyFrom_4 : decode cX2_copyFrom 4 = .ok (.iconst 0, 1) := by decide +kernel
theorem dX2_copyFrom_5 : decode cX2_copyFrom 5 = .ok (.aload_n 0, 1) := by decide +kernel
theorem dX2_copyFrom_6 : decode cX2_copyFrom 6 = .ok (.getfield 9, 3) := by decide +kernel
theorem dX2_copyFrom_9 : decode cX2_copyFrom 9 = .ok (.iconst 0, 1) := by decide +kernel
theorem dX2_copyFrom_10 : decode cX2_copyFrom 10 = .ok (.bipush 40, 2) := by decide +kernel
theorem dX2_copyFrom_12 : decode cX2_copyFrom 12 = .ok (.invokestatic 48, 3) := by decide +kernel
theorem dX2_copyFrom_15 : decode cX2_copyFrom 15 = .ok (.aload_n 0, 1) := by decide +kernel
theorem dX2_copyFrom_16 : decode cX2_copyFrom 16 = .ok (.aload_n 1, 1) := by decide +kernel
theorem dX2_copyFrom_17 : decode cX2_copyFrom 17 = .ok (.getfield 31, 3) := by decide +kernel
theorem dX2_copyFrom_20 : decode cX2_copyFrom 20 = .ok (.putfield 31, 3) := by decide +kernel
theorem dX2_copyFrom_23 : decode cX2_copyFrom 23 = .ok (.iconst 0, 1) := by decide +kernel
theorem dX2_copyFrom_24 : decode cX2_copyFrom 24 = .ok (.istore_n 2, 1) := by decide +kernel
theorem dX2_copyFrom_25 : decode cX2_copyFrom 25 = .ok (.iload_n 2, 1) := by decide +kernel
theorem dX2_copyFrom_26 : decode cX2_copyFrom 26 = .ok (.iconst 4, 1) := by decide +kernel
theorem dX2_copyFrom_27 : decode cX2_copyFrom 27 = .ok (.if_icmp .ge 45, 3) := by decide +kernel
theorem dX2_copyFrom_30 : decode cX2_copyFrom 30 = .ok (.aload_n 0, 1) := by decide +kernel
theorem dX2_copyFrom_31 : decode cX2_copyFrom 31 = .ok (.getfield 15, 3) := by decide +kernel
theorem dX2_copyFrom_34 : decode cX2_copyFrom 34 = .ok (.iload_n 2, 1) := by decide +kernel
theorem dX2_copyFrom_35 : decode cX2_copyFrom 35 = .ok (.aload_n 1, 1) := by decide +kernel
theorem dX2_copyFrom_36 : decode cX2_copyFrom 36 = .ok (.getfield 15, 3) := by decide +kernel
theorem dX2_copyFrom_39 : decode cX2_copyFrom 39 = .ok (.iload_n 2, 1) := by decide +kernel
theorem dX2_copyFrom_40 : decode cX2_copyFrom 40 = .ok (.iaload, 1) := by decide +kernel
theorem dX2_copyFrom_41 : decode cX2_copyFrom 41 = .ok (.iastore, 1) := by decide +kernel
theorem dX2_copyFrom_42 : decode cX2_copyFrom 42 = .ok (.aload_n 0, 1) := by decide +kernel
theorem dX2_copyFrom_43 : decode cX2_copyFrom 43 = .ok (.getfield 18, 3) := by decide +kernel
theorem dX2_copyFrom_46 : decode cX2_copyFrom 46 = .ok (.iload_n 2, 1) := by decide +kernel
theorem dX2_copyFrom_47 : decode cX2_copyFrom 47 = .ok (.aload_n 1, 1) := by decide +kernel
theorem dX2_copyFrom_48 : decode cX2_copyFrom 48 = .ok (.getfield 18, 3) := by decide +kernel
theorem dX2_copyFrom_51 : decode cX2_copyFrom 51 = .ok (.iload_n 2, 1) := by decide +kernel
theorem dX2_copyFrom_52 : decode cX2_copyFrom 52 = .ok (.iaload, 1) := by decide +kernel
theorem dX2_copyFrom_53 : decode cX2_copyFrom 53 = .ok (.iastore, 1) := by decide +kernel
theorem dX2_copyFrom_54 : decode cX2_copyFrom 54 = .ok (.aload_n 0, 1) := by decide +kernel
theorem dX2_copyFrom_55 : decode cX2_copyFrom 55 = .ok (.getfield 21, 3) := by decide +kernel
theorem dX2_copyFrom_58 : decode cX2_copyFrom 58 = .ok (.iload_n 2, 1) := by decide +kernel
theorem dX2_copyFrom_59 : decode cX2_copyFrom 59 = .ok (.aload_n 1, 1) := by decide +kernel
theorem dX2_copyFrom_60 : decode cX2_copyFrom 60 = .ok (.getfield 21, 3) := by decide +kernel
theorem dX2_copyFrom_63 : decode cX2_copyFrom 63 = .ok (.iload_n 2, 1) := by decide +kernel
theorem dX2_copyFrom_64 : decode cX2_copyFrom 64 = .ok (.baload, 1) := by decide +kernel
theorem dX2_copyFrom_65 : decode cX2_copyFrom 65 = .ok (.bastore, 1) := by decide +kernel
theorem dX2_copyFrom_66 : decode cX2_copyFrom 66 = .ok (.iinc 2 1, 3) := by decide +kernel
theorem dX2_copyFrom_69 : decode cX2_copyFrom 69 = .ok (.goto (-44), 3) := by decide +kernel
theorem dX2_copyFrom_72 : decode cX2_copyFrom 72 = .ok (.aload_n 0, 1) := by decide +kernel
theorem dX2_copyFrom_73 : decode cX2_copyFrom 73 = .ok (.aload_n 1, 1) := by decide +kernel
theorem dX2_copyFrom_74 : decode cX2_copyFrom 74 = .ok (.getfield 35, 3) := by decide +kernel
theorem dX2_copyFrom_77 : decode cX2_copyFrom 77 = .ok (.putfield 35, 3) := by decide +kernel
theorem dX2_copyFrom_80 : decode cX2_copyFrom 80 = .ok (.aload_n 1, 1) := by decide +kernel
theorem dX2_copyFrom_81 : decode cX2_copyFrom 81 = .ok (.getfield 25, 3) := by decide +kernel
theorem dX2_copyFrom_84 : decode cX2_copyFrom 84 = .ok (.iconst 0, 1) := by decide +kernel
theorem dX2_copyFrom_85 : decode cX2_copyFrom 85 = .ok (.aload_n 0, 1) := by decide +kernel
theorem dX2_copyFrom_86 : decode cX2_copyFrom 86 = .ok (.getfield 25, 3) := by decide +kernel
theorem dX2_copyFrom_89 : decode cX2_copyFrom 89 = .ok (.iconst 0, 1) := by decide +kernel
theorem dX2_copyFrom_90 : decode cX2_copyFrom 90 = .ok (.iconst 4, 1) := by decide +kernel
theorem dX2_copyFrom_91 : decode cX2_copyFrom 91 = .ok (.invokestatic 48, 3) := by decide +kernel
theorem dX2_copyFrom_94 : decode cX2_copyFrom 94 = .ok (.aload_n 1, 1) := by decide +kernel
theorem dX2_copyFrom_95 : decode cX2_copyFrom 95 = .ok (.getfield 28, 3) := by decide +kernel
theorem dX2_copyFrom_98 : decode cX2_copyFrom 98 = .ok (.iconst 0, 1) := by decide +kernel
theorem dX2_copyFrom_99 : decode cX2_copyFrom 99 = .ok (.aload_n 0, 1) := by decide +kernel
theorem dX2_copyFrom_100 : decode cX2_copyFrom 100 = .ok (.getfield 28, 3) := by decide +kernel
theorem dX2_copyFrom_103 : decode cX2_copyFrom 103 = .ok (.iconst 0, 1) := by decide +kernel
theorem dX2_copyFrom_104 : decode cX2_copyFrom 104 = .ok (.iconst 4, 1) := by decide +kernel
theorem dX2_copyFrom_105 : decode cX2_copyFrom 105 = .ok (.invokestatic 48, 3) := by decide +kernel
theorem dX2_copyFrom_108 : decode cX2_copyFrom 108 = .ok (.aload_n 0, 1) := by decide +kernel
theorem dX2_copyFrom_109 : decode cX2_copyFrom 109 = .ok (.aload_n 1, 1) := by decide +kernel
theorem dX2_copyFrom_110 : decode cX2_copyFrom 110 = .ok (.getfield 38, 3) := by decide +kernel
theorem dX2_copyFrom_113 : decode cX2_copyFrom 113 = .ok (.putfield 38, 3) := by decide +kernel
theorem dX2_copyFrom_116 : decode cX2_copyFrom 116 = .ok (.aload_n 0, 1) := by decide +kernel
theorem dX2_copyFrom_117 : decode cX2_copyFrom 117 = .ok (.aload_n 1, 1) := by decide +kernel
theorem dX2_copyFrom_118 : decode cX2_copyFrom 118 = .ok (.getfield 54, 3) := by decide +kernel
theorem dX2_copyFrom_121 : decode cX2_copyFrom 121 = .ok (.aload_n 1, 1) := by decide +kernel
theorem dX2_copyFrom_122 : decode cX2_copyFrom 122 = .ok (.getfield 57, 3) := by decide +kernel
theorem dX2_copyFrom_125 : decode cX2_copyFrom 125 = .ok (.aload_n 1, 1) := by decide +kernel
theorem dX2_copyFrom_126 : decode cX2_copyFrom 126 = .ok (.getfield 60, 3) := by decide +kernel
theorem dX2_copyFrom_129 : decode cX2_copyFrom 129 = .ok (.invokevirtual 41, 3) := by decide +kernel
theorem dX2_copyFrom_132 : decode cX2_copyFrom 132 = .ok (.aload_n 0, 1) := by decide +kernel
theorem dX2_copyFrom_133 : decode cX2_copyFrom 133 = .ok (.aload_n 1, 1) := by decide +kernel
theorem dX2_copyFrom_134 : decode cX2_copyFrom 134 = .ok (.getfield 45, 3) := by decide +kernel
theorem dX2_copyFrom_137 : decode cX2_copyFrom 137 = .ok (.putfield 45, 3) := by decide +kernel
theorem dX2_copyFrom_140 : decode cX2_copyFrom 140 = .ok (.return_, 1) := by decide +kernel
theorem dX2_isFlow_0 : decode cX2_isFlow 0 = .ok (.iload_n 0, 1) := by decide +kernel
theorem dX2_isFlow_1 : decode cX2_isFlow 1 = .ok (.ifCond .lt 32, 3) := by decide +kernel
theorem dX2_isFlow_4 : decode cX2_isFlow 4 = .ok (.iload_n 0, 1) := by decide +kernel
theorem dX2_isFlow_5 : decode cX2_isFlow 5 = .ok (.iconst 2, 1) := by decide +kernel
theorem dX2_isFlow_6 : decode cX2_isFlow 6 = .ok (.if_icmp .gt 27, 3) := by decide +kernel
theorem dX2_isFlow_9 : decode cX2_isFlow 9 = .ok (.iload_n 1, 1) := by decide +kernel
theorem dX2_isFlow_10 : decode cX2_isFlow 10 = .ok (.iconst 4, 1) := by decide +kernel
theorem dX2_isFlow_11 : decode cX2_isFlow 11 = .ok (.if_icmp .lt 22, 3) := by decide +kernel
theorem dX2_isFlow_14 : decode cX2_isFlow 14 = .ok (.iload_n 1, 1) := by decide +kernel
theorem dX2_isFlow_15 : decode cX2_isFlow 15 = .ok (.bipush 20, 2) := by decide +kernel
theorem dX2_isFlow_17 : decode cX2_isFlow 17 = .ok (.if_icmp .gt 16, 3) := by decide +kernel
theorem dX2_isFlow_20 : decode cX2_isFlow 20 = .ok (.iload_n 2, 1) := by decide +kernel
theorem dX2_isFlow_21 : decode cX2_isFlow 21 = .ok (.ifCond .lt 12, 3) := by decide +kernel
theorem dX2_isFlow_24 : decode cX2_isFlow 24 = .ok (.iload_n 2, 1) := by decide +kernel
theorem dX2_isFlow_25 : decode cX2_isFlow 25 = .ok (.iconst 3, 1) := by decide +kernel
theorem dX2_isFlow_26 : decode cX2_isFlow 26 = .ok (.if_icmp .gt 7, 3) := by decide +kernel
theorem dX2_isFlow_29 : decode cX2_isFlow 29 = .ok (.iconst 1, 1) := by decide +kernel
theorem dX2_isFlow_30 : decode cX2_isFlow 30 = .ok (.goto 4, 3) := by decide +kernel
theorem dX2_isFlow_33 : decode cX2_isFlow 33 = .ok (.iconst 0, 1) := by decide +kernel
theorem dX2_isFlow_34 : decode cX2_isFlow 34 = .ok (.ireturn, 1) := by decide +kernel
theorem dX2_setFlow_0 : decode cX2_setFlow 0 = .ok (.aload_n 0, 1) := by decide +kernel
theorem dX2_setFlow_1 : decode cX2_setFlow 1 = .ok (.iload_n 1, 1) := by decide +kernel
theorem dX2_setFlow_2 : decode cX2_setFlow 2 = .ok (.putfield 54, 3) := by decide +kernel
theorem dX2_setFlow_5 : decode cX2_setFlow 5 = .ok (.aload_n 0, 1) := by decide +kernel
theorem dX2_setFlow_6 : decode cX2_setFlow 6 = .ok (.iload_n 2, 1) := by decide +kernel
theorem dX2_setFlow_7 : decode cX2_setFlow 7 = .ok (.putfield 57, 3) := by decide +kernel
theorem dX2_setFlow_10 : decode cX2_setFlow 10 = .ok (.aload_n 0, 1) := by decide +kernel
theorem dX2_setFlow_11 : decode cX2_setFlow 11 = .ok (.iload_n 3, 1) := by decide +kernel
theorem dX2_setFlow_12 : decode cX2_setFlow 12 = .ok (.putfield 60, 3) := by decide +kernel
theorem dX2_setFlow_15 : decode cX2_setFlow 15 = .ok (.return_, 1) := by decide +kernel
theorem dX2_isTabStep_0 : decode cX2_isTabStep 0 = .ok (.iload_n 0, 1) := by decide +kernel
theorem dX2_isTabStep_1 : decode cX2_isTabStep 1 = .ok (.iconst 1, 1) := by decide +kernel
theorem dX2_isTabStep_2 : decode cX2_isTabStep 2 = .ok (.if_icmp .lt 13, 3) := by decide +kernel
theorem dX2_isTabStep_5 : decode cX2_isTabStep 5 = .ok (.iload_n 0, 1) := by decide +kernel
theorem dX2_isTabStep_6 : decode cX2_isTabStep 6 = .ok (.bipush 8, 2) := by decide +kernel
theorem dX2_isTabStep_8 : decode cX2_isTabStep 8 = .ok (.if_icmp .gt 7, 3) := by decide +kernel
theorem dX2_isTabStep_11 : decode cX2_isTabStep 11 = .ok (.iconst 1, 1) := by decide +kernel
theorem dX2_isTabStep_12 : decode cX2_isTabStep 12 = .ok (.goto 4, 3) := by decide +kernel
theorem dX2_isTabStep_15 : decode cX2_isTabStep 15 = .ok (.iconst 0, 1) := by decide +kernel
theorem dX2_isTabStep_16 : decode cX2_isTabStep 16 = .ok (.ireturn, 1) := by decide +kernel
theorem dX2_hasPlace_0 : decode cX2_hasPlace 0 = .ok (.iload_n 1, 1) := by decide +kernel
theorem dX2_hasPlace_1 : decode cX2_hasPlace 1 = .ok (.ifCond .lt 15, 3) := by decide +kernel
theorem dX2_hasPlace_4 : decode cX2_hasPlace 4 = .ok (.iload_n 1, 1) := by decide +kernel
theorem dX2_hasPlace_5 : decode cX2_hasPlace 5 = .ok (.aload_n 0, 1) := by decide +kernel
theorem dX2_hasPlace_6 : decode cX2_hasPlace 6 = .ok (.getfield 31, 3) := by decide +kernel
theorem dX2_hasPlace_9 : decode cX2_hasPlace 9 = .ok (.if_icmp .gt 7, 3) := by decide +kernel
theorem dX2_hasPlace_12 : decode cX2_hasPlace 12 = .ok (.iconst 1, 1) := by decide +kernel
theorem dX2_hasPlace_13 : decode cX2_hasPlace 13 = .ok (.goto 4, 3) := by decide +kernel
theorem dX2_hasPlace_16 : decode cX2_hasPlace 16 = .ok (.iconst 0, 1) := by decide +kernel
theorem dX2_hasPlace_17 : decode cX2_hasPlace 17 = .ok (.ireturn, 1) := by decide +kernel
theorem dX2_hasSign_0 : decode cX2_hasSign 0 = .ok (.iload_n 1, 1) := by decide +kernel
theorem dX2_hasSign_1 : decode cX2_hasSign 1 = .ok (.ifCond .lt 15, 3) := by decide +kernel
theorem dX2_hasSign_4 : decode cX2_hasSign 4 = .ok (.iload_n 1, 1) := by decide +kernel
theorem dX2_hasSign_5 : decode cX2_hasSign 5 = .ok (.aload_n 0, 1) := by decide +kernel
theorem dX2_hasSign_6 : decode cX2_hasSign 6 = .ok (.getfield 31, 3) := by decide +kernel
theorem dX2_hasSign_9 : decode cX2_hasSign 9 = .ok (.if_icmp .ge 7, 3) := by decide +kernel
theorem dX2_hasSign_12 : decode cX2_hasSign 12 = .ok (.iconst 1, 1) := by decide +kernel
theorem dX2_hasSign_13 : decode cX2_hasSign 13 = .ok (.goto 4, 3) := by decide +kernel
theorem dX2_hasSign_16 : decode cX2_hasSign 16 = .ok (.iconst 0, 1) := by decide +kernel
theorem dX2_hasSign_17 : decode cX2_hasSign 17 = .ok (.ireturn, 1) := by decide +kernel
theorem dX2_hasFold_0 : decode cX2_hasFold 0 = .ok (.iload_n 1, 1) := by decide +kernel
theorem dX2_hasFold_1 : decode cX2_hasFold 1 = .ok (.ifCond .lt 15, 3) := by decide +kernel
theorem dX2_hasFold_4 : decode cX2_hasFold 4 = .ok (.iload_n 1, 1) := by decide +kernel
theorem dX2_hasFold_5 : decode cX2_hasFold 5 = .ok (.aload_n 0, 1) := by decide +kernel
theorem dX2_hasFold_6 : decode cX2_hasFold 6 = .ok (.getfield 35, 3) := by decide +kernel
theorem dX2_hasFold_9 : decode cX2_hasFold 9 = .ok (.if_icmp .ge 7, 3) := by decide +kernel
theorem dX2_hasFold_12 : decode cX2_hasFold 12 = .ok (.iconst 1, 1) := by decide +kernel
theorem dX2_hasFold_13 : decode cX2_hasFold 13 = .ok (.goto 4, 3) := by decide +kernel
theorem dX2_hasFold_16 : decode cX2_hasFold 16 = .ok (.iconst 0, 1) := by decide +kernel
theorem dX2_hasFold_17 : decode cX2_hasFold 17 = .ok (.ireturn, 1) := by decide +kernel
theorem dX2_hasHint_0 : decode cX2_hasHint 0 = .ok (.iload_n 1, 1) := by decide +kernel
theorem dX2_hasHint_1 : decode cX2_hasHint 1 = .ok (.ifCond .lt 15, 3) := by decide +kernel
theorem dX2_hasHint_4 : decode cX2_hasHint 4 = .ok (.iload_n 1, 1) := by decide +kernel
theorem dX2_hasHint_5 : decode cX2_hasHint 5 = .ok (.aload_n 0, 1) := by decide +kernel
theorem dX2_hasHint_6 : decode cX2_hasHint 6 = .ok (.getfield 38, 3) := by decide +kernel
theorem dX2_hasHint_9 : decode cX2_hasHint 9 = .ok (.if_icmp .ge 7, 3) := by decide +kernel
theorem dX2_hasHint_12 : decode cX2_hasHint 12 = .ok (.iconst 1, 1) := by decide +kernel
theorem dX2_hasHint_13 : decode cX2_hasHint 13 = .ok (.goto 4, 3) := by decide +kernel
theorem dX2_hasHint_16 : decode cX2_hasHint 16 = .ok (.iconst 0, 1) := by decide +kernel
theorem dX2_hasHint_17 : decode cX2_hasHint 17 = .ok (.ireturn, 1) := by decide +kernel
theorem dX2_hasRoom_0 : decode cX2_hasRoom 0 = .ok (.aload_n 0, 1) := by decide +kernel
theorem dX2_hasRoom_1 : decode cX2_hasRoom 1 = .ok (.getfield 31, 3) := by decide +kernel
theorem dX2_hasRoom_4 : decode cX2_hasRoom 4 = .ok (.bipush 40, 2) := by decide +kernel
theorem dX2_hasRoom_6 : decode cX2_hasRoom 6 = .ok (.if_icmp .ge 7, 3) := by decide +kernel
theorem dX2_hasRoom_9 : decode cX2_hasRoom 9 = .ok (.iconst 1, 1) := by decide +kernel
theorem dX2_hasRoom_10 : decode cX2_hasRoom 10 = .ok (.goto 4, 3) := by decide +kernel
theorem dX2_hasRoom_13 : decode cX2_hasRoom 13 = .ok (.iconst 0, 1) := by decide +kernel
theorem dX2_hasRoom_14 : decode cX2_hasRoom 14 = .ok (.ireturn, 1) := by decide +kernel
theorem dX2_signAt_0 : decode cX2_signAt 0 = .ok (.aload_n 0, 1) := by decide +kernel
theorem dX2_signAt_1 : decode cX2_signAt 1 = .ok (.iload_n 1, 1) := by decide +kernel
theorem dX2_signAt_2 : decode cX2_signAt 2 = .ok (.invokevirtual 63, 3) := by decide +kernel
theorem dX2_signAt_5 : decode cX2_signAt 5 = .ok (.ifCond .eq 12, 3) := by decide +kernel
theorem dX2_signAt_8 : decode cX2_signAt 8 = .ok (.aload_n 0, 1) := by decide +kernel
theorem dX2_signAt_9 : decode cX2_signAt 9 = .ok (.getfield 9, 3) := by decide +kernel
theorem dX2_signAt_12 : decode cX2_signAt 12 = .ok (.iload_n 1, 1) := by decide +kernel
theorem dX2_signAt_13 : decode cX2_signAt 13 = .ok (.iaload, 1) := by decide +kernel
theorem dX2_signAt_14 : decode cX2_signAt 14 = .ok (.goto 5, 3) := by decide +kernel
theorem dX2_signAt_17 : decode cX2_signAt 17 = .ok (.bipush (-4), 2) := by decide +kernel
theorem dX2_signAt_19 : decode cX2_signAt 19 = .ok (.ireturn, 1) := by decide +kernel
theorem dX2_putIn_0 : decode cX2_putIn 0 = .ok (.aload_n 0, 1) := by decide +kernel
theorem dX2_putIn_1 : decode cX2_putIn 1 = .ok (.iload_n 1, 1) := by decide +kernel
theorem dX2_putIn_2 : decode cX2_putIn 2 = .ok (.invokevirtual 67, 3) := by decide +kernel
theorem dX2_putIn_5 : decode cX2_putIn 5 = .ok (.ifCond .eq 10, 3) := by decide +kernel
theorem dX2_putIn_8 : decode cX2_putIn 8 = .ok (.aload_n 0, 1) := by decide +kernel
theorem dX2_putIn_9 : decode cX2_putIn 9 = .ok (.invokevirtual 70, 3) := by decide +kernel
theorem dX2_putIn_12 : decode cX2_putIn 12 = .ok (.ifCond .ne 4, 3) := by decide +kernel
theorem dX2_putIn_15 : decode cX2_putIn 15 = .ok (.return_, 1) := by decide +kernel
theorem dX2_putIn_16 : decode cX2_putIn 16 = .ok (.aload_n 0, 1) := by decide +kernel
theorem dX2_putIn_17 : decode cX2_putIn 17 = .ok (.getfield 31, 3) := by decide +kernel
theorem dX2_putIn_20 : decode cX2_putIn 20 = .ok (.istore_n 3, 1) := by decide +kernel
theorem dX2_putIn_21 : decode cX2_putIn 21 = .ok (.iload_n 3, 1) := by decide +kernel
theorem dX2_putIn_22 : decode cX2_putIn 22 = .ok (.iload_n 1, 1) := by decide +kernel
theorem dX2_putIn_23 : decode cX2_putIn 23 = .ok (.if_icmp .le 23, 3) := by decide +kernel
theorem dX2_putIn_26 : decode cX2_putIn 26 = .ok (.aload_n 0, 1) := by decide +kernel
theorem dX2_putIn_27 : decode cX2_putIn 27 = .ok (.getfield 9, 3) := by decide +kernel
theorem dX2_putIn_30 : decode cX2_putIn 30 = .ok (.iload_n 3, 1) := by decide +kernel
theorem dX2_putIn_31 : decode cX2_putIn 31 = .ok (.aload_n 0, 1) := by decide +kernel
theorem dX2_putIn_32 : decode cX2_putIn 32 = .ok (.getfield 9, 3) := by decide +kernel
theorem dX2_putIn_35 : decode cX2_putIn 35 = .ok (.iload_n 3, 1) := by decide +kernel
theorem dX2_putIn_36 : decode cX2_putIn 36 = .ok (.iconst 1, 1) := by decide +kernel
theorem dX2_putIn_37 : decode cX2_putIn 37 = .ok (.isub, 1) := by decide +kernel
theorem dX2_putIn_38 : decode cX2_putIn 38 = .ok (.iaload, 1) := by decide +kernel
theorem dX2_putIn_39 : decode cX2_putIn 39 = .ok (.iastore, 1) := by decide +kernel
theorem dX2_putIn_40 : decode cX2_putIn 40 = .ok (.iinc 3 (-1), 3) := by decide +kernel
theorem dX2_putIn_43 : decode cX2_putIn 43 = .ok (.goto (-22), 3) := by decide +kernel
theorem dX2_putIn_46 : decode cX2_putIn 46 = .ok (.aload_n 0, 1) := by decide +kernel
theorem dX2_putIn_47 : decode cX2_putIn 47 = .ok (.getfield 9, 3) := by decide +kernel
theorem dX2_putIn_50 : decode cX2_putIn 50 = .ok (.iload_n 1, 1) := by decide +kernel
theorem dX2_putIn_51 : decode cX2_putIn 51 = .ok (.iload_n 2, 1) := by decide +kernel
theorem dX2_putIn_52 : decode cX2_putIn 52 = .ok (.iastore, 1) := by decide +kernel
theorem dX2_putIn_53 : decode cX2_putIn 53 = .ok (.aload_n 0, 1) := by decide +kernel
theorem dX2_putIn_54 : decode cX2_putIn 54 = .ok (.dup, 1) := by decide +kernel
theorem dX2_putIn_55 : decode cX2_putIn 55 = .ok (.getfield 31, 3) := by decide +kernel
theorem dX2_putIn_58 : decode cX2_putIn 58 = .ok (.iconst 1, 1) := by decide +kernel
theorem dX2_putIn_59 : decode cX2_putIn 59 = .ok (.iadd, 1) := by decide +kernel
theorem dX2_putIn_60 : decode cX2_putIn 60 = .ok (.putfield 31, 3) := by decide +kernel
theorem dX2_putIn_63 : decode cX2_putIn 63 = .ok (.iconst 0, 1) := by decide +kernel
theorem dX2_putIn_64 : decode cX2_putIn 64 = .ok (.istore_n 3, 1) := by decide +kernel
theorem dX2_putIn_65 : decode cX2_putIn 65 = .ok (.iload_n 3, 1) := by decide +kernel
theorem dX2_putIn_66 : decode cX2_putIn 66 = .ok (.aload_n 0, 1) := by decide +kernel
theorem dX2_putIn_67 : decode cX2_putIn 67 = .ok (.getfield 35, 3) := by decide +kernel
theorem dX2_putIn_70 : decode cX2_putIn 70 = .ok (.if_icmp .ge 49, 3) := by decide +kernel
theorem dX2_putIn_73 : decode cX2_putIn 73 = .ok (.aload_n 0, 1) := by decide +kernel
theorem dX2_putIn_74 : decode cX2_putIn 74 = .ok (.getfield 15, 3) := by decide +kernel
theorem dX2_putIn_77 : decode cX2_putIn 77 = .ok (.iload_n 3, 1) := by decide +kernel
theorem dX2_putIn_78 : decode cX2_putIn 78 = .ok (.iaload, 1) := by decide +kernel
theorem dX2_putIn_79 : decode cX2_putIn 79 = .ok (.iload_n 1, 1) := by decide +kernel
theorem dX2_putIn_80 : decode cX2_putIn 80 = .ok (.if_icmp .lt 13, 3) := by decide +kernel
theorem dX2_putIn_83 : decode cX2_putIn 83 = .ok (.aload_n 0, 1) := by decide +kernel
theorem dX2_putIn_84 : decode cX2_putIn 84 = .ok (.getfield 15, 3) := by decide +kernel
theorem dX2_putIn_87 : decode cX2_putIn 87 = .ok (.iload_n 3, 1) := by decide +kernel
theorem dX2_putIn_88 : decode cX2_putIn 88 = .ok (.dup2, 1) := by decide +kernel
theorem dX2_putIn_89 : decode cX2_putIn 89 = .ok (.iaload, 1) := by decide +kernel
theorem dX2_putIn_90 : decode cX2_putIn 90 = .ok (.iconst 1, 1) := by decide +kernel
theorem dX2_putIn_91 : decode cX2_putIn 91 = .ok (.iadd, 1) := by decide +kernel
theorem dX2_putIn_92 : decode cX2_putIn 92 = .ok (.iastore, 1) := by decide +kernel
theorem dX2_putIn_93 : decode cX2_putIn 93 = .ok (.aload_n 0, 1) := by decide +kernel
theorem dX2_putIn_94 : decode cX2_putIn 94 = .ok (.getfield 18, 3) := by decide +kernel
theorem dX2_putIn_97 : decode cX2_putIn 97 = .ok (.iload_n 3, 1) := by decide +kernel
theorem dX2_putIn_98 : decode cX2_putIn 98 = .ok (.iaload, 1) := by decide +kernel
theorem dX2_putIn_99 : decode cX2_putIn 99 = .ok (.iload_n 1, 1) := by decide +kernel
theorem dX2_putIn_100 : decode cX2_putIn 100 = .ok (.if_icmp .le 13, 3) := by decide +kernel
theorem dX2_putIn_103 : decode cX2_putIn 103 = .ok (.aload_n 0, 1) := by decide +kernel
theorem dX2_putIn_104 : decode cX2_putIn 104 = .ok (.getfield 18, 3) := by decide +kernel
theorem dX2_putIn_107 : decode cX2_putIn 107 = .ok (.iload_n 3, 1) := by decide +kernel
theorem dX2_putIn_108 : decode cX2_putIn 108 = .ok (.dup2, 1) := by decide +kernel
theorem dX2_putIn_109 : decode cX2_putIn 109 = .ok (.iaload, 1) := by decide +kernel
theorem dX2_putIn_110 : decode cX2_putIn 110 = .ok (.iconst 1, 1) := by decide +kernel
theorem dX2_putIn_111 : decode cX2_putIn 111 = .ok (.iadd, 1) := by decide +kernel
theorem dX2_putIn_112 : decode cX2_putIn 112 = .ok (.iastore, 1) := by decide +kernel
theorem dX2_putIn_113 : decode cX2_putIn 113 = .ok (.iinc 3 1, 3) := by decide +kernel
theorem dX2_putIn_116 : decode cX2_putIn 116 = .ok (.goto (-51), 3) := by decide +kernel
theorem dX2_putIn_119 : decode cX2_putIn 119 = .ok (.iconst 0, 1) := by decide +kernel
theorem dX2_putIn_120 : decode cX2_putIn 120 = .ok (.istore_n 3, 1) := by decide +kernel
theorem dX2_putIn_121 : decode cX2_putIn 121 = .ok (.iload_n 3, 1) := by decide +kernel
theorem dX2_putIn_122 : decode cX2_putIn 122 = .ok (.aload_n 0, 1) := by decide +kernel
theorem dX2_putIn_123 : decode cX2_putIn 123 = .ok (.getfield 38, 3) := by decide +kernel
theorem dX2_putIn_126 : decode cX2_putIn 126 = .ok (.if_icmp .ge 29, 3) := by decide +kernel
theorem dX2_putIn_129 : decode cX2_putIn 129 = .ok (.aload_n 0, 1) := by decide +kernel
theorem dX2_putIn_130 : decode cX2_putIn 130 = .ok (.getfield 25, 3) := by decide +kernel
theorem dX2_putIn_133 : decode cX2_putIn 133 = .ok (.iload_n 3, 1) := by decide +kernel
theorem dX2_putIn_134 : decode cX2_putIn 134 = .ok (.iaload, 1) := by decide +kernel
theorem dX2_putIn_135 : decode cX2_putIn 135 = .ok (.iload_n 1, 1) := by decide +kernel
theorem dX2_putIn_136 : decode cX2_putIn 136 = .ok (.if_icmp .lt 13, 3) := by decide +kernel
theorem dX2_putIn_139 : decode cX2_putIn 139 = .ok (.aload_n 0, 1) := by decide +kernel
theorem dX2_putIn_140 : decode cX2_putIn 140 = .ok (.getfield 25, 3) := by decide +kernel
theorem dX2_putIn_143 : decode cX2_putIn 143 = .ok (.iload_n 3, 1) := by decide +kernel
theorem dX2_putIn_144 : decode cX2_putIn 144 = .ok (.dup2, 1) := by decide +kernel
theorem dX2_putIn_145 : decode cX2_putIn 145 = .ok (.iaload, 1) := by decide +kernel
theorem dX2_putIn_146 : decode cX2_putIn 146 = .ok (.iconst 1, 1) := by decide +kernel
theorem dX2_putIn_147 : decode cX2_putIn 147 = .ok (.iadd, 1) := by decide +kernel
theorem dX2_putIn_148 : decode cX2_putIn 148 = .ok (.iastore, 1) := by decide +kernel
theorem dX2_putIn_149 : decode cX2_putIn 149 = .ok (.iinc 3 1, 3) := by decide +kernel
theorem dX2_putIn_152 : decode cX2_putIn 152 = .ok (.goto (-31), 3) := by decide +kernel
theorem dX2_putIn_155 : decode cX2_putIn 155 = .ok (.return_, 1) := by decide +kernel
theorem dX2_takeOut_0 : decode cX2_takeOut 0 = .ok (.aload_n 0, 1) := by decide +kernel
theorem dX2_takeOut_1 : decode cX2_takeOut 1 = .ok (.iload_n 1, 1) := by decide +kernel
theorem dX2_takeOut_2 : decode cX2_takeOut 2 = .ok (.invokevirtual 63, 3) := by decide +kernel
theorem dX2_takeOut_5 : decode cX2_takeOut 5 = .ok (.ifCond .ne 4, 3) := by decide +kernel
theorem dX2_takeOut_8 : decode cX2_takeOut 8 = .ok (.return_, 1) := by decide +kernel
theorem dX2_takeOut_9 : decode cX2_takeOut 9 = .ok (.iload_n 1, 1) := by decide +kernel
theorem dX2_takeOut_10 : decode cX2_takeOut 10 = .ok (.iconst 1, 1) := by decide +kernel
theorem dX2_takeOut_11 : decode cX2_takeOut 11 = .ok (.iadd, 1) := by decide +kernel
theorem dX2_takeOut_12 : decode cX2_takeOut 12 = .ok (.istore_n 2, 1) := by decide +kernel
theorem dX2_takeOut_13 : decode cX2_takeOut 13 = .ok (.iload_n 2, 1) := by decide +kernel
theorem dX2_takeOut_14 : decode cX2_takeOut 14 = .ok (.aload_n 0, 1) := by decide +kernel
theorem dX2_takeOut_15 : decode cX2_takeOut 15 = .ok (.getfield 31, 3) := by decide +kernel
theorem dX2_takeOut_18 : decode cX2_takeOut 18 = .ok (.if_icmp .ge 23, 3) := by decide +kernel
theorem dX2_takeOut_21 : decode cX2_takeOut 21 = .ok (.aload_n 0, 1) := by decide +kernel
theorem dX2_takeOut_22 : decode cX2_takeOut 22 = .ok (.getfield 9, 3) := by decide +kernel
theorem dX2_takeOut_25 : decode cX2_takeOut 25 = .ok (.iload_n 2, 1) := by decide +kernel
theorem dX2_takeOut_26 : decode cX2_takeOut 26 = .ok (.iconst 1, 1) := by decide +kernel
theorem dX2_takeOut_27 : decode cX2_takeOut 27 = .ok (.isub, 1) := by decide +kernel
theorem dX2_takeOut_28 : decode cX2_takeOut 28 = .ok (.aload_n 0, 1) := by decide +kernel
theorem dX2_takeOut_29 : decode cX2_takeOut 29 = .ok (.getfield 9, 3) := by decide +kernel
theorem dX2_takeOut_32 : decode cX2_takeOut 32 = .ok (.iload_n 2, 1) := by decide +kernel
theorem dX2_takeOut_33 : decode cX2_takeOut 33 = .ok (.iaload, 1) := by decide +kernel
theorem dX2_takeOut_34 : decode cX2_takeOut 34 = .ok (.iastore, 1) := by decide +kernel
theorem dX2_takeOut_35 : decode cX2_takeOut 35 = .ok (.iinc 2 1, 3) := by decide +kernel
theorem dX2_takeOut_38 : decode cX2_takeOut 38 = .ok (.goto (-25), 3) := by decide +kernel
theorem dX2_takeOut_41 : decode cX2_takeOut 41 = .ok (.aload_n 0, 1) := by decide +kernel
theorem dX2_takeOut_42 : decode cX2_takeOut 42 = .ok (.dup, 1) := by decide +kernel
theorem dX2_takeOut_43 : decode cX2_takeOut 43 = .ok (.getfield 31, 3) := by decide +kernel
theorem dX2_takeOut_46 : decode cX2_takeOut 46 = .ok (.iconst 1, 1) := by decide +kernel
theorem dX2_takeOut_47 : decode cX2_takeOut 47 = .ok (.isub, 1) := by decide +kernel
theorem dX2_takeOut_48 : decode cX2_takeOut 48 = .ok (.putfield 31, 3) := by decide +kernel
theorem dX2_takeOut_51 : decode cX2_takeOut 51 = .ok (.aload_n 0, 1) := by decide +kernel
theorem dX2_takeOut_52 : decode cX2_takeOut 52 = .ok (.iload_n 1, 1) := by decide +kernel
theorem dX2_takeOut_53 : decode cX2_takeOut 53 = .ok (.invokevirtual 74, 3) := by decide +kernel
theorem dX2_takeOut_56 : decode cX2_takeOut 56 = .ok (.aload_n 0, 1) := by decide +kernel
theorem dX2_takeOut_57 : decode cX2_takeOut 57 = .ok (.iload_n 1, 1) := by decide +kernel
theorem dX2_takeOut_58 : decode cX2_takeOut 58 = .ok (.invokevirtual 78, 3) := by decide +kernel
theorem dX2_takeOut_61 : decode cX2_takeOut 61 = .ok (.return_, 1) := by decide +kernel
theorem dX2_pullFolds_0 : decode cX2_pullFolds 0 = .ok (.aload_n 0, 1) := by decide +kernel
theorem dX2_pullFolds_1 : decode cX2_pullFolds 1 = .ok (.getfield 35, 3) := by decide +kernel
theorem dX2_pullFolds_4 : decode cX2_pullFolds 4 = .ok (.iconst 1, 1) := by decide +kernel
theorem dX2_pullFolds_5 : decode cX2_pullFolds 5 = .ok (.isub, 1) := by decide +kernel
theorem dX2_pullFolds_6 : decode cX2_pullFolds 6 = .ok (.istore_n 2, 1) := by decide +kernel
theorem dX2_pullFolds_7 : decode cX2_pullFolds 7 = .ok (.iload_n 2, 1) := by decide +kernel
theorem dX2_pullFolds_8 : decode cX2_pullFolds 8 = .ok (.ifCond .lt 69, 3) := by decide +kernel
theorem dX2_pullFolds_11 : decode cX2_pullFolds 11 = .ok (.aload_n 0, 1) := by decide +kernel
theorem dX2_pullFolds_12 : decode cX2_pullFolds 12 = .ok (.getfield 15, 3) := by decide +kernel
theorem dX2_pullFolds_15 : decode cX2_pullFolds 15 = .ok (.iload_n 2, 1) := by decide +kernel
theorem dX2_pullFolds_16 : decode cX2_pullFolds 16 = .ok (.iaload, 1) := by decide +kernel
theorem dX2_pullFolds_17 : decode cX2_pullFolds 17 = .ok (.iload_n 1, 1) := by decide +kernel
theorem dX2_pullFolds_18 : decode cX2_pullFolds 18 = .ok (.if_icmp .le 13, 3) := by decide +kernel
theorem dX2_pullFolds_21 : decode cX2_pullFolds 21 = .ok (.aload_n 0, 1) := by decide +kernel
theorem dX2_pullFolds_22 : decode cX2_pullFolds 22 = .ok (.getfield 15, 3) := by decide +kernel
theorem dX2_pullFolds_25 : decode cX2_pullFolds 25 = .ok (.iload_n 2, 1) := by decide +kernel
theorem dX2_pullFolds_26 : decode cX2_pullFolds 26 = .ok (.dup2, 1) := by decide +kernel
theorem dX2_pullFolds_27 : decode cX2_pullFolds 27 = .ok (.iaload, 1) := by decide +kernel
theorem dX2_pullFolds_28 : decode cX2_pullFolds 28 = .ok (.iconst 1, 1) := by decide +kernel
theorem dX2_pullFolds_29 : decode cX2_pullFolds 29 = .ok (.isub, 1) := by decide +kernel
theorem dX2_pullFolds_30 : decode cX2_pullFolds 30 = .ok (.iastore, 1) := by decide +kernel
theorem dX2_pullFolds_31 : decode cX2_pullFolds 31 = .ok (.aload_n 0, 1) := by decide +kernel
theorem dX2_pullFolds_32 : decode cX2_pullFolds 32 = .ok (.getfield 18, 3) := by decide +kernel
theorem dX2_pullFolds_35 : decode cX2_pullFolds 35 = .ok (.iload_n 2, 1) := by decide +kernel
theorem dX2_pullFolds_36 : decode cX2_pullFolds 36 = .ok (.iaload, 1) := by decide +kernel
theorem dX2_pullFolds_37 : decode cX2_pullFolds 37 = .ok (.iload_n 1, 1) := by decide +kernel
theorem dX2_pullFolds_38 : decode cX2_pullFolds 38 = .ok (.if_icmp .le 13, 3) := by decide +kernel
theorem dX2_pullFolds_41 : decode cX2_pullFolds 41 = .ok (.aload_n 0, 1) := by decide +kernel
theorem dX2_pullFolds_42 : decode cX2_pullFolds 42 = .ok (.getfield 18, 3) := by decide +kernel
theorem dX2_pullFolds_45 : decode cX2_pullFolds 45 = .ok (.iload_n 2, 1) := by decide +kernel
theorem dX2_pullFolds_46 : decode cX2_pullFolds 46 = .ok (.dup2, 1) := by decide +kernel
theorem dX2_pullFolds_47 : decode cX2_pullFolds 47 = .ok (.iaload, 1) := by decide +kernel
theorem dX2_pullFolds_48 : decode cX2_pullFolds 48 = .ok (.iconst 1, 1) := by decide +kernel
theorem dX2_pullFolds_49 : decode cX2_pullFolds 49 = .ok (.isub, 1) := by decide +kernel
theorem dX2_pullFolds_50 : decode cX2_pullFolds 50 = .ok (.iastore, 1) := by decide +kernel
theorem dX2_pullFolds_51 : decode cX2_pullFolds 51 = .ok (.aload_n 0, 1) := by decide +kernel
theorem dX2_pullFolds_52 : decode cX2_pullFolds 52 = .ok (.getfield 15, 3) := by decide +kernel
theorem dX2_pullFolds_55 : decode cX2_pullFolds 55 = .ok (.iload_n 2, 1) := by decide +kernel
theorem dX2_pullFolds_56 : decode cX2_pullFolds 56 = .ok (.iaload, 1) := by decide +kernel
theorem dX2_pullFolds_57 : decode cX2_pullFolds 57 = .ok (.aload_n 0, 1) := by decide +kernel
theorem dX2_pullFolds_58 : decode cX2_pullFolds 58 = .ok (.getfield 18, 3) := by decide +kernel
theorem dX2_pullFolds_61 : decode cX2_pullFolds 61 = .ok (.iload_n 2, 1) := by decide +kernel
theorem dX2_pullFolds_62 : decode cX2_pullFolds 62 = .ok (.iaload, 1) := by decide +kernel
theorem dX2_pullFolds_63 : decode cX2_pullFolds 63 = .ok (.if_icmp .lt 8, 3) := by decide +kernel
theorem dX2_pullFolds_66 : decode cX2_pullFolds 66 = .ok (.aload_n 0, 1) := by decide +kernel
theorem dX2_pullFolds_67 : decode cX2_pullFolds 67 = .ok (.iload_n 2, 1) := by decide +kernel
theorem dX2_pullFolds_68 : decode cX2_pullFolds 68 = .ok (.invokevirtual 81, 3) := by decide +kernel
theorem dX2_pullFolds_71 : decode cX2_pullFolds 71 = .ok (.iinc 2 (-1), 3) := by decide +kernel
theorem dX2_pullFolds_74 : decode cX2_pullFolds 74 = .ok (.goto (-67), 3) := by decide +kernel
theorem dX2_pullFolds_77 : decode cX2_pullFolds 77 = .ok (.return_, 1) := by decide +kernel
theorem dX2_pullHints_0 : decode cX2_pullHints 0 = .ok (.aload_n 0, 1) := by decide +kernel
theorem dX2_pullHints_1 : decode cX2_pullHints 1 = .ok (.iload_n 1, 1) := by decide +kernel
theorem dX2_pullHints_2 : decode cX2_pullHints 2 = .ok (.iconst 1, 1) := by decide +kernel
theorem dX2_pullHints_3 : decode cX2_pullHints 3 = .ok (.iadd, 1) := by decide +kernel
theorem dX2_pullHints_4 : decode cX2_pullHints 4 = .ok (.invokevirtual 84, 3) := by decide +kernel
theorem dX2_pullHints_7 : decode cX2_pullHints 7 = .ok (.ifCond .lt 12, 3) := by decide +kernel
theorem dX2_pullHints_10 : decode cX2_pullHints 10 = .ok (.aload_n 0, 1) := by decide +kernel
theorem dX2_pullHints_11 : decode cX2_pullHints 11 = .ok (.aload_n 0, 1) := by decide +kernel
theorem dX2_pullHints_12 : decode cX2_pullHints 12 = .ok (.iload_n 1, 1) := by decide +kernel
theorem dX2_pullHints_13 : decode cX2_pullHints 13 = .ok (.invokevirtual 84, 3) := by decide +kernel
theorem dX2_pullHints_16 : decode cX2_pullHints 16 = .ok (.invokevirtual 88, 3) := by decide +kernel
theorem dX2_pullHints_19 : decode cX2_pullHints 19 = .ok (.iconst 0, 1) := by decide +kernel
theorem dX2_pullHints_20 : decode cX2_pullHints 20 = .ok (.istore_n 2, 1) := by decide +kernel
theorem dX2_pullHints_21 : decode cX2_pullHints 21 = .ok (.iload_n 2, 1) := by decide +kernel
theorem dX2_pullHints_22 : decode cX2_pullHints 22 = .ok (.aload_n 0, 1) := by decide +kernel
theorem dX2_pullHints_23 : decode cX2_pullHints 23 = .ok (.getfield 38, 3) := by decide +kernel
theorem dX2_pullHints_26 : decode cX2_pullHints 26 = .ok (.if_icmp .ge 29, 3) := by decide +kernel
theorem dX2_pullHints_29 : decode cX2_pullHints 29 = .ok (.aload_n 0, 1) := by decide +kernel
theorem dX2_pullHints_30 : decode cX2_pullHints 30 = .ok (.getfield 25, 3) := by decide +kernel
theorem dX2_pullHints_33 : decode cX2_pullHints 33 = .ok (.iload_n 2, 1) := by decide +kernel
theorem dX2_pullHints_34 : decode cX2_pullHints 34 = .ok (.iaload, 1) := by decide +kernel
theorem dX2_pullHints_35 : decode cX2_pullHints 35 = .ok (.iload_n 1, 1) := by decide +kernel
theorem dX2_pullHints_36 : decode cX2_pullHints 36 = .ok (.if_icmp .le 13, 3) := by decide +kernel
theorem dX2_pullHints_39 : decode cX2_pullHints 39 = .ok (.aload_n 0, 1) := by decide +kernel
theorem dX2_pullHints_40 : decode cX2_pullHints 40 = .ok (.getfield 25, 3) := by decide +kernel
theorem dX2_pullHints_43 : decode cX2_pullHints 43 = .ok (.iload_n 2, 1) := by decide +kernel
theorem dX2_pullHints_44 : decode cX2_pullHints 44 = .ok (.dup2, 1) := by decide +kernel
theorem dX2_pullHints_45 : decode cX2_pullHints 45 = .ok (.iaload, 1) := by decide +kernel
theorem dX2_pullHints_46 : decode cX2_pullHints 46 = .ok (.iconst 1, 1) := by decide +kernel
theorem dX2_pullHints_47 : decode cX2_pullHints 47 = .ok (.isub, 1) := by decide +kernel
theorem dX2_pullHints_48 : decode cX2_pullHints 48 = .ok (.iastore, 1) := by decide +kernel
theorem dX2_pullHints_49 : decode cX2_pullHints 49 = .ok (.iinc 2 1, 3) := by decide +kernel
theorem dX2_pullHints_52 : decode cX2_pullHints 52 = .ok (.goto (-31), 3) := by decide +kernel
theorem dX2_pullHints_55 : decode cX2_pullHints 55 = .ok (.return_, 1) := by decide +kernel
theorem dX2_foldRefusal_0 : decode cX2_foldRefusal 0 = .ok (.aload_n 0, 1) := by decide +kernel
theorem dX2_foldRefusal_1 : decode cX2_foldRefusal 1 = .ok (.iload_n 1, 1) := by decide +kernel
theorem dX2_foldRefusal_2 : decode cX2_foldRefusal 2 = .ok (.invokevirtual 67, 3) := by decide +kernel
theorem dX2_foldRefusal_5 : decode cX2_foldRefusal 5 = .ok (.ifCond .eq 16, 3) := by decide +kernel
theorem dX2_foldRefusal_8 : decode cX2_foldRefusal 8 = .ok (.aload_n 0, 1) := by decide +kernel
theorem dX2_foldRefusal_9 : decode cX2_foldRefusal 9 = .ok (.iload_n 2, 1) := by decide +kernel
theorem dX2_foldRefusal_10 : decode cX2_foldRefusal 10 = .ok (.invokevirtual 67, 3) := by decide +kernel
theorem dX2_foldRefusal_13 : decode cX2_foldRefusal 13 = .ok (.ifCond .eq 8, 3) := by decide +kernel
theorem dX2_foldRefusal_16 : decode cX2_foldRefusal 16 = .ok (.iload_n 1, 1) := by decide +kernel
theorem dX2_foldRefusal_17 : decode cX2_foldRefusal 17 = .ok (.iload_n 2, 1) := by decide +kernel
theorem dX2_foldRefusal_18 : decode cX2_foldRefusal 18 = .ok (.if_icmp .lt 5, 3) := by decide +kernel
theorem dX2_foldRefusal_21 : decode cX2_foldRefusal 21 = .ok (.iconst (-1), 1) := by decide +kernel
theorem dX2_foldRefusal_22 : decode cX2_foldRefusal 22 = .ok (.ireturn, 1) := by decide +kernel
theorem dX2_foldRefusal_23 : decode cX2_foldRefusal 23 = .ok (.iconst 0, 1) := by decide +kernel
theorem dX2_foldRefusal_24 : decode cX2_foldRefusal 24 = .ok (.istore_n 3, 1) := by decide +kernel
theorem dX2_foldRefusal_25 : decode cX2_foldRefusal 25 = .ok (.iload_n 3, 1) := by decide +kernel
theorem dX2_foldRefusal_26 : decode cX2_foldRefusal 26 = .ok (.aload_n 0, 1) := by decide +kernel
theorem dX2_foldRefusal_27 : decode cX2_foldRefusal 27 = .ok (.getfield 35, 3) := by decide +kernel
theorem dX2_foldRefusal_30 : decode cX2_foldRefusal 30 = .ok (.if_icmp .ge 32, 3) := by decide +kernel
theorem dX2_foldRefusal_33 : decode cX2_foldRefusal 33 = .ok (.iload_n 1, 1) := by decide +kernel
theorem dX2_foldRefusal_34 : decode cX2_foldRefusal 34 = .ok (.aload_n 0, 1) := by decide +kernel
theorem dX2_foldRefusal_35 : decode cX2_foldRefusal 35 = .ok (.getfield 18, 3) := by decide +kernel
theorem dX2_foldRefusal_38 : decode cX2_foldRefusal 38 = .ok (.iload_n 3, 1) := by decide +kernel
theorem dX2_foldRefusal_39 : decode cX2_foldRefusal 39 = .ok (.iaload, 1) := by decide +kernel
theorem dX2_foldRefusal_40 : decode cX2_foldRefusal 40 = .ok (.if_icmp .ge 16, 3) := by decide +kernel
theorem dX2_foldRefusal_43 : decode cX2_foldRefusal 43 = .ok (.aload_n 0, 1) := by decide +kernel
theorem dX2_foldRefusal_44 : decode cX2_foldRefusal 44 = .ok (.getfield 15, 3) := by decide +kernel
theorem dX2_foldRefusal_47 : decode cX2_foldRefusal 47 = .ok (.iload_n 3, 1) := by decide +kernel
theorem dX2_foldRefusal_48 : decode cX2_foldRefusal 48 = .ok (.iaload, 1) := by decide +kernel
theorem dX2_foldRefusal_49 : decode cX2_foldRefusal 49 = .ok (.iload_n 2, 1) := by decide +kernel
theorem dX2_foldRefusal_50 : decode cX2_foldRefusal 50 = .ok (.if_icmp .ge 6, 3) := by decide +kernel
theorem dX2_foldRefusal_53 : decode cX2_foldRefusal 53 = .ok (.bipush (-2), 2) := by decide +kernel
theorem dX2_foldRefusal_55 : decode cX2_foldRefusal 55 = .ok (.ireturn, 1) := by decide +kernel
theorem dX2_foldRefusal_56 : decode cX2_foldRefusal 56 = .ok (.iinc 3 1, 3) := by decide +kernel
theorem dX2_foldRefusal_59 : decode cX2_foldRefusal 59 = .ok (.goto (-34), 3) := by decide +kernel
theorem dX2_foldRefusal_62 : decode cX2_foldRefusal 62 = .ok (.aload_n 0, 1) := by decide +kernel
theorem dX2_foldRefusal_63 : decode cX2_foldRefusal 63 = .ok (.getfield 35, 3) := by decide +kernel
theorem dX2_foldRefusal_66 : decode cX2_foldRefusal 66 = .ok (.iconst 4, 1) := by decide +kernel
theorem dX2_foldRefusal_67 : decode cX2_foldRefusal 67 = .ok (.if_icmp .ge 7, 3) := by decide +kernel
theorem dX2_foldRefusal_70 : decode cX2_foldRefusal 70 = .ok (.iconst 0, 1) := by decide +kernel
theorem dX2_foldRefusal_71 : decode cX2_foldRefusal 71 = .ok (.goto 5, 3) := by decide +kernel
theorem dX2_foldRefusal_74 : decode cX2_foldRefusal 74 = .ok (.bipush (-3), 2) := by decide +kernel
theorem dX2_foldRefusal_76 : decode cX2_foldRefusal 76 = .ok (.ireturn, 1) := by decide +kernel
theorem dX2_addFold_0 : decode cX2_addFold 0 = .ok (.aload_n 0, 1) := by decide +kernel
theorem dX2_addFold_1 : decode cX2_addFold 1 = .ok (.getfield 35, 3) := by decide +kernel
theorem dX2_addFold_4 : decode cX2_addFold 4 = .ok (.iconst 4, 1) := by decide +kernel
theorem dX2_addFold_5 : decode cX2_addFold 5 = .ok (.if_icmp .lt 6, 3) := by decide +kernel
theorem dX2_addFold_8 : decode cX2_addFold 8 = .ok (.bipush (-3), 2) := by decide +kernel
theorem dX2_addFold_10 : decode cX2_addFold 10 = .ok (.ireturn, 1) := by decide +kernel
theorem dX2_addFold_11 : decode cX2_addFold 11 = .ok (.aload_n 0, 1) := by decide +kernel
theorem dX2_addFold_12 : decode cX2_addFold 12 = .ok (.getfield 35, 3) := by decide +kernel
theorem dX2_addFold_15 : decode cX2_addFold 15 = .ok (.istore_n 3, 1) := by decide +kernel
theorem dX2_addFold_16 : decode cX2_addFold 16 = .ok (.iload_n 3, 1) := by decide +kernel
theorem dX2_addFold_17 : decode cX2_addFold 17 = .ok (.ifCond .le 63, 3) := by decide +kernel
theorem dX2_addFold_20 : decode cX2_addFold 20 = .ok (.aload_n 0, 1) := by decide +kernel
theorem dX2_addFold_21 : decode cX2_addFold 21 = .ok (.getfield 15, 3) := by decide +kernel
theorem dX2_addFold_24 : decode cX2_addFold 24 = .ok (.iload_n 3, 1) := by decide +kernel
theorem dX2_addFold_25 : decode cX2_addFold 25 = .ok (.iconst 1, 1) := by decide +kernel
theorem dX2_addFold_26 : decode cX2_addFold 26 = .ok (.isub, 1) := by decide +kernel
theorem dX2_addFold_27 : decode cX2_addFold 27 = .ok (.iaload, 1) := by decide +kernel
theorem dX2_addFold_28 : decode cX2_addFold 28 = .ok (.iload_n 1, 1) := by decide +kernel
theorem dX2_addFold_29 : decode cX2_addFold 29 = .ok (.if_icmp .le 51, 3) := by decide +kernel
theorem dX2_addFold_32 : decode cX2_addFold 32 = .ok (.aload_n 0, 1) := by decide +kernel
theorem dX2_addFold_33 : decode cX2_addFold 33 = .ok (.getfield 15, 3) := by decide +kernel
theorem dX2_addFold_36 : decode cX2_addFold 36 = .ok (.iload_n 3, 1) := by decide +kernel
theorem dX2_addFold_37 : decode cX2_addFold 37 = .ok (.aload_n 0, 1) := by decide +kernel
theorem dX2_addFold_38 : decode cX2_addFold 38 = .ok (.getfield 15, 3) := by decide +kernel
theorem dX2_addFold_41 : decode cX2_addFold 41 = .ok (.iload_n 3, 1) := by decide +kernel
theorem dX2_addFold_42 : decode cX2_addFold 42 = .ok (.iconst 1, 1) := by decide +kernel
theorem dX2_addFold_43 : decode cX2_addFold 43 = .ok (.isub, 1) := by decide +kernel
theorem dX2_addFold_44 : decode cX2_addFold 44 = .ok (.iaload, 1) := by decide +kernel
theorem dX2_addFold_45 : decode cX2_addFold 45 = .ok (.iastore, 1) := by decide +kernel
theorem dX2_addFold_46 : decode cX2_addFold 46 = .ok (.aload_n 0, 1) := by decide +kernel
theorem dX2_addFold_47 : decode cX2_addFold 47 = .ok (.getfield 18, 3) := by decide +kernel
theorem dX2_addFold_50 : decode cX2_addFold 50 = .ok (.iload_n 3, 1) := by decide +kernel
theorem dX2_addFold_51 : decode cX2_addFold 51 = .ok (.aload_n 0, 1) := by decide +kernel
theorem dX2_addFold_52 : decode cX2_addFold 52 = .ok (.getfield 18, 3) := by decide +kernel
theorem dX2_addFold_55 : decode cX2_addFold 55 = .ok (.iload_n 3, 1) := by decide +kernel
theorem dX2_addFold_56 : decode cX2_addFold 56 = .ok (.iconst 1, 1) := by decide +kernel
theorem dX2_addFold_57 : decode cX2_addFold 57 = .ok (.isub, 1) := by decide +kernel
theorem dX2_addFold_58 : decode cX2_addFold 58 = .ok (.iaload, 1) := by decide +kernel
theorem dX2_addFold_59 : decode cX2_addFold 59 = .ok (.iastore, 1) := by decide +kernel
theorem dX2_addFold_60 : decode cX2_addFold 60 = .ok (.aload_n 0, 1) := by decide +kernel
theorem dX2_addFold_61 : decode cX2_addFold 61 = .ok (.getfield 21, 3) := by decide +kernel
theorem dX2_addFold_64 : decode cX2_addFold 64 = .ok (.iload_n 3, 1) := by decide +kernel
theorem dX2_addFold_65 : decode cX2_addFold 65 = .ok (.aload_n 0, 1) := by decide +kernel
theorem dX2_addFold_66 : decode cX2_addFold 66 = .ok (.getfield 21, 3) := by decide +kernel
theorem dX2_addFold_69 : decode cX2_addFold 69 = .ok (.iload_n 3, 1) := by decide +kernel
theorem dX2_addFold_70 : decode cX2_addFold 70 = .ok (.iconst 1, 1) := by decide +kernel
theorem dX2_addFold_71 : decode cX2_addFold 71 = .ok (.isub, 1) := by decide +kernel
theorem dX2_addFold_72 : decode cX2_addFold 72 = .ok (.baload, 1) := by decide +kernel
theorem dX2_addFold_73 : decode cX2_addFold 73 = .ok (.bastore, 1) := by decide +kernel
theorem dX2_addFold_74 : decode cX2_addFold 74 = .ok (.iinc 3 (-1), 3) := by decide +kernel
theorem dX2_addFold_77 : decode cX2_addFold 77 = .ok (.goto (-61), 3) := by decide +kernel
theorem dX2_addFold_80 : decode cX2_addFold 80 = .ok (.aload_n 0, 1) := by decide +kernel
theorem dX2_addFold_81 : decode cX2_addFold 81 = .ok (.getfield 15, 3) := by decide +kernel
theorem dX2_addFold_84 : decode cX2_addFold 84 = .ok (.iload_n 3, 1) := by decide +kernel
theorem dX2_addFold_85 : decode cX2_addFold 85 = .ok (.iload_n 1, 1) := by decide +kernel
theorem dX2_addFold_86 : decode cX2_addFold 86 = .ok (.iastore, 1) := by decide +kernel
theorem dX2_addFold_87 : decode cX2_addFold 87 = .ok (.aload_n 0, 1) := by decide +kernel
theorem dX2_addFold_88 : decode cX2_addFold 88 = .ok (.getfield 18, 3) := by decide +kernel
theorem dX2_addFold_91 : decode cX2_addFold 91 = .ok (.iload_n 3, 1) := by decide +kernel
theorem dX2_addFold_92 : decode cX2_addFold 92 = .ok (.iload_n 2, 1) := by decide +kernel
theorem dX2_addFold_93 : decode cX2_addFold 93 = .ok (.iastore, 1) := by decide +kernel
theorem dX2_addFold_94 : decode cX2_addFold 94 = .ok (.aload_n 0, 1) := by decide +kernel
theorem dX2_addFold_95 : decode cX2_addFold 95 = .ok (.getfield 21, 3) := by decide +kernel
theorem dX2_addFold_98 : decode cX2_addFold 98 = .ok (.iload_n 3, 1) := by decide +kernel
theorem dX2_addFold_99 : decode cX2_addFold 99 = .ok (.iconst 1, 1) := by decide +kernel
theorem dX2_addFold_100 : decode cX2_addFold 100 = .ok (.bastore, 1) := by decide +kernel
theorem dX2_addFold_101 : decode cX2_addFold 101 = .ok (.aload_n 0, 1) := by decide +kernel
theorem dX2_addFold_102 : decode cX2_addFold 102 = .ok (.dup, 1) := by decide +kernel
theorem dX2_addFold_103 : decode cX2_addFold 103 = .ok (.getfield 35, 3) := by decide +kernel
theorem dX2_addFold_106 : decode cX2_addFold 106 = .ok (.iconst 1, 1) := by decide +kernel
theorem dX2_addFold_107 : decode cX2_addFold 107 = .ok (.iadd, 1) := by decide +kernel
theorem dX2_addFold_108 : decode cX2_addFold 108 = .ok (.putfield 35, 3) := by decide +kernel
theorem dX2_addFold_111 : decode cX2_addFold 111 = .ok (.iload_n 3, 1) := by decide +kernel
theorem dX2_addFold_112 : decode cX2_addFold 112 = .ok (.ireturn, 1) := by decide +kernel
theorem dX2_dropFold_0 : decode cX2_dropFold 0 = .ok (.aload_n 0, 1) := by decide +kernel
theorem dX2_dropFold_1 : decode cX2_dropFold 1 = .ok (.iload_n 1, 1) := by decide +kernel
theorem dX2_dropFold_2 : decode cX2_dropFold 2 = .ok (.invokevirtual 91, 3) := by decide +kernel
theorem dX2_dropFold_5 : decode cX2_dropFold 5 = .ok (.ifCond .ne 4, 3) := by decide +kernel
theorem dX2_dropFold_8 : decode cX2_dropFold 8 = .ok (.return_, 1) := by decide +kernel
theorem dX2_dropFold_9 : decode cX2_dropFold 9 = .ok (.iload_n 1, 1) := by decide +kernel
theorem dX2_dropFold_10 : decode cX2_dropFold 10 = .ok (.iconst 1, 1) := by decide +kernel
theorem dX2_dropFold_11 : decode cX2_dropFold 11 = .ok (.iadd, 1) := by decide +kernel
theorem dX2_dropFold_12 : decode cX2_dropFold 12 = .ok (.istore_n 2, 1) := by decide +kernel
theorem dX2_dropFold_13 : decode cX2_dropFold 13 = .ok (.iload_n 2, 1) := by decide +kernel
theorem dX2_dropFold_14 : decode cX2_dropFold 14 = .ok (.aload_n 0, 1) := by decide +kernel
theorem dX2_dropFold_15 : decode cX2_dropFold 15 = .ok (.getfield 35, 3) := by decide +kernel
theorem dX2_dropFold_18 : decode cX2_dropFold 18 = .ok (.if_icmp .ge 51, 3) := by decide +kernel
theorem dX2_dropFold_21 : decode cX2_dropFold 21 = .ok (.aload_n 0, 1) := by decide +kernel
theorem dX2_dropFold_22 : decode cX2_dropFold 22 = .ok (.getfield 15, 3) := by decide +kernel
theorem dX2_dropFold_25 : decode cX2_dropFold 25 = .ok (.iload_n 2, 1) := by decide +kernel
theorem dX2_dropFold_26 : decode cX2_dropFold 26 = .ok (.iconst 1, 1) := by decide +kernel
theorem dX2_dropFold_27 : decode cX2_dropFold 27 = .ok (.isub, 1) := by decide +kernel
theorem dX2_dropFold_28 : decode cX2_dropFold 28 = .ok (.aload_n 0, 1) := by decide +kernel
theorem dX2_dropFold_29 : decode cX2_dropFold 29 = .ok (.getfield 15, 3) := by decide +kernel
theorem dX2_dropFold_32 : decode cX2_dropFold 32 = .ok (.iload_n 2, 1) := by decide +kernel
theorem dX2_dropFold_33 : decode cX2_dropFold 33 = .ok (.iaload, 1) := by decide +kernel
theorem dX2_dropFold_34 : decode cX2_dropFold 34 = .ok (.iastore, 1) := by decide +kernel
theorem dX2_dropFold_35 : decode cX2_dropFold 35 = .ok (.aload_n 0, 1) := by decide +kernel
theorem dX2_dropFold_36 : decode cX2_dropFold 36 = .ok (.getfield 18, 3) := by decide +kernel
theorem dX2_dropFold_39 : decode cX2_dropFold 39 = .ok (.iload_n 2, 1) := by decide +kernel
theorem dX2_dropFold_40 : decode cX2_dropFold 40 = .ok (.iconst 1, 1) := by decide +kernel
theorem dX2_dropFold_41 : decode cX2_dropFold 41 = .ok (.isub, 1) := by decide +kernel
theorem dX2_dropFold_42 : decode cX2_dropFold 42 = .ok (.aload_n 0, 1) := by decide +kernel
theorem dX2_dropFold_43 : decode cX2_dropFold 43 = .ok (.getfield 18, 3) := by decide +kernel
theorem dX2_dropFold_46 : decode cX2_dropFold 46 = .ok (.iload_n 2, 1) := by decide +kernel
theorem dX2_dropFold_47 : decode cX2_dropFold 47 = .ok (.iaload, 1) := by decide +kernel
theorem dX2_dropFold_48 : decode cX2_dropFold 48 = .ok (.iastore, 1) := by decide +kernel
theorem dX2_dropFold_49 : decode cX2_dropFold 49 = .ok (.aload_n 0, 1) := by decide +kernel
theorem dX2_dropFold_50 : decode cX2_dropFold 50 = .ok (.getfield 21, 3) := by decide +kernel
theorem dX2_dropFold_53 : decode cX2_dropFold 53 = .ok (.iload_n 2, 1) := by decide +kernel
theorem dX2_dropFold_54 : decode cX2_dropFold 54 = .ok (.iconst 1, 1) := by decide +kernel
theorem dX2_dropFold_55 : decode cX2_dropFold 55 = .ok (.isub, 1) := by decide +kernel
theorem dX2_dropFold_56 : decode cX2_dropFold 56 = .ok (.aload_n 0, 1) := by decide +kernel
theorem dX2_dropFold_57 : decode cX2_dropFold 57 = .ok (.getfield 21, 3) := by decide +kernel
theorem dX2_dropFold_60 : decode cX2_dropFold 60 = .ok (.iload_n 2, 1) := by decide +kernel
theorem dX2_dropFold_61 : decode cX2_dropFold 61 = .ok (.baload, 1) := by decide +kernel
theorem dX2_dropFold_62 : decode cX2_dropFold 62 = .ok (.bastore, 1) := by decide +kernel
theorem dX2_dropFold_63 : decode cX2_dropFold 63 = .ok (.iinc 2 1, 3) := by decide +kernel
theorem dX2_dropFold_66 : decode cX2_dropFold 66 = .ok (.goto (-53), 3) := by decide +kernel
theorem dX2_dropFold_69 : decode cX2_dropFold 69 = .ok (.aload_n 0, 1) := by decide +kernel
theorem dX2_dropFold_70 : decode cX2_dropFold 70 = .ok (.dup, 1) := by decide +kernel
theorem dX2_dropFold_71 : decode cX2_dropFold 71 = .ok (.getfield 35, 3) := by decide +kernel
theorem dX2_dropFold_74 : decode cX2_dropFold 74 = .ok (.iconst 1, 1) := by decide +kernel
theorem dX2_dropFold_75 : decode cX2_dropFold 75 = .ok (.isub, 1) := by decide +kernel
theorem dX2_dropFold_76 : decode cX2_dropFold 76 = .ok (.putfield 35, 3) := by decide +kernel
theorem dX2_dropFold_79 : decode cX2_dropFold 79 = .ok (.return_, 1) := by decide +kernel
theorem dX2_turn_0 : decode cX2_turn 0 = .ok (.aload_n 0, 1) := by decide +kernel
theorem dX2_turn_1 : decode cX2_turn 1 = .ok (.iload_n 1, 1) := by decide +kernel
theorem dX2_turn_2 : decode cX2_turn 2 = .ok (.invokevirtual 91, 3) := by decide +kernel
theorem dX2_turn_5 : decode cX2_turn 5 = .ok (.ifCond .eq 23, 3) := by decide +kernel
theorem dX2_turn_8 : decode cX2_turn 8 = .ok (.aload_n 0, 1) := by decide +kernel
theorem dX2_turn_9 : decode cX2_turn 9 = .ok (.getfield 21, 3) := by decide +kernel
theorem dX2_turn_12 : decode cX2_turn 12 = .ok (.iload_n 1, 1) := by decide +kernel
theorem dX2_turn_13 : decode cX2_turn 13 = .ok (.aload_n 0, 1) := by decide +kernel
theorem dX2_turn_14 : decode cX2_turn 14 = .ok (.getfield 21, 3) := by decide +kernel
theorem dX2_turn_17 : decode cX2_turn 17 = .ok (.iload_n 1, 1) := by decide +kernel
theorem dX2_turn_18 : decode cX2_turn 18 = .ok (.baload, 1) := by decide +kernel
theorem dX2_turn_19 : decode cX2_turn 19 = .ok (.ifCond .ne 7, 3) := by decide +kernel
theorem dX2_turn_22 : decode cX2_turn 22 = .ok (.iconst 1, 1) := by decide +kernel
theorem dX2_turn_23 : decode cX2_turn 23 = .ok (.goto 4, 3) := by decide +kernel
theorem dX2_turn_26 : decode cX2_turn 26 = .ok (.iconst 0, 1) := by decide +kernel
theorem dX2_turn_27 : decode cX2_turn 27 = .ok (.bastore, 1) := by decide +kernel
theorem dX2_turn_28 : decode cX2_turn 28 = .ok (.return_, 1) := by decide +kernel
theorem dX2_hintRefusal_0 : decode cX2_hintRefusal 0 = .ok (.aload_n 0, 1) := by decide +kernel
theorem dX2_hintRefusal_1 : decode cX2_hintRefusal 1 = .ok (.iload_n 1, 1) := by decide +kernel
theorem dX2_hintRefusal_2 : decode cX2_hintRefusal 2 = .ok (.invokevirtual 67, 3) := by decide +kernel
theorem dX2_hintRefusal_5 : decode cX2_hintRefusal 5 = .ok (.ifCond .eq 13, 3) := by decide +kernel
theorem dX2_hintRefusal_8 : decode cX2_hintRefusal 8 = .ok (.iload_n 2, 1) := by decide +kernel
theorem dX2_hintRefusal_9 : decode cX2_hintRefusal 9 = .ok (.iconst 1, 1) := by decide +kernel
theorem dX2_hintRefusal_10 : decode cX2_hintRefusal 10 = .ok (.if_icmp .lt 8, 3) := by decide +kernel
theorem dX2_hintRefusal_13 : decode cX2_hintRefusal 13 = .ok (.iload_n 2, 1) := by decide +kernel
theorem dX2_hintRefusal_14 : decode cX2_hintRefusal 14 = .ok (.iconst 5, 1) := by decide +kernel
theorem dX2_hintRefusal_15 : decode cX2_hintRefusal 15 = .ok (.if_icmp .le 5, 3) := by decide +kernel
theorem dX2_hintRefusal_18 : decode cX2_hintRefusal 18 = .ok (.iconst (-1), 1) := by decide +kernel
theorem dX2_hintRefusal_19 : decode cX2_hintRefusal 19 = .ok (.ireturn, 1) := by decide +kernel
theorem dX2_hintRefusal_20 : decode cX2_hintRefusal 20 = .ok (.aload_n 0, 1) := by decide +kernel
theorem dX2_hintRefusal_21 : decode cX2_hintRefusal 21 = .ok (.iload_n 1, 1) := by decide +kernel
theorem dX2_hintRefusal_22 : decode cX2_hintRefusal 22 = .ok (.invokevirtual 84, 3) := by decide +kernel
theorem dX2_hintRefusal_25 : decode cX2_hintRefusal 25 = .ok (.ifCond .lt 6, 3) := by decide +kernel
theorem dX2_hintRefusal_28 : decode cX2_hintRefusal 28 = .ok (.bipush (-2), 2) := by decide +kernel
theorem dX2_hintRefusal_30 : decode cX2_hintRefusal 30 = .ok (.ireturn, 1) := by decide +kernel
theorem dX2_hintRefusal_31 : decode cX2_hintRefusal 31 = .ok (.aload_n 0, 1) := by decide +kernel
theorem dX2_hintRefusal_32 : decode cX2_hintRefusal 32 = .ok (.getfield 38, 3) := by decide +kernel
theorem dX2_hintRefusal_35 : decode cX2_hintRefusal 35 = .ok (.iconst 4, 1) := by decide +kernel
theorem dX2_hintRefusal_36 : decode cX2_hintRefusal 36 = .ok (.if_icmp .ge 7, 3) := by decide +kernel
theorem dX2_hintRefusal_39 : decode cX2_hintRefusal 39 = .ok (.iconst 0, 1) := by decide +kernel
theorem dX2_hintRefusal_40 : decode cX2_hintRefusal 40 = .ok (.goto 5, 3) := by decide +kernel
theorem dX2_hintRefusal_43 : decode cX2_hintRefusal 43 = .ok (.bipush (-3), 2) := by decide +kernel
theorem dX2_hintRefusal_45 : decode cX2_hintRefusal 45 = .ok (.ireturn, 1) := by decide +kernel
theorem dX2_addHint_0 : decode cX2_addHint 0 = .ok (.aload_n 0, 1) := by decide +kernel
theorem dX2_addHint_1 : decode cX2_addHint 1 = .ok (.getfield 38, 3) := by decide +kernel
theorem dX2_addHint_4 : decode cX2_addHint 4 = .ok (.iconst 4, 1) := by decide +kernel
theorem dX2_addHint_5 : decode cX2_addHint 5 = .ok (.if_icmp .lt 6, 3) := by decide +kernel
theorem dX2_addHint_8 : decode cX2_addHint 8 = .ok (.bipush (-3), 2) := by decide +kernel
theorem dX2_addHint_10 : decode cX2_addHint 10 = .ok (.ireturn, 1) := by decide +kernel
theorem dX2_addHint_11 : decode cX2_addHint 11 = .ok (.aload_n 0, 1) := by decide +kernel
theorem dX2_addHint_12 : decode cX2_addHint 12 = .ok (.getfield 38, 3) := by decide +kernel
theorem dX2_addHint_15 : decode cX2_addHint 15 = .ok (.istore_n 3, 1) := by decide +kernel
theorem dX2_addHint_16 : decode cX2_addHint 16 = .ok (.iload_n 3, 1) := by decide +kernel
theorem dX2_addHint_17 : decode cX2_addHint 17 = .ok (.ifCond .le 49, 3) := by decide +kernel
theorem dX2_addHint_20 : decode cX2_addHint 20 = .ok (.aload_n 0, 1) := by decide +kernel
theorem dX2_addHint_21 : decode cX2_addHint 21 = .ok (.getfield 25, 3) := by decide +kernel
theorem dX2_addHint_24 : decode cX2_addHint 24 = .ok (.iload_n 3, 1) := by decide +kernel
theorem dX2_addHint_25 : decode cX2_addHint 25 = .ok (.iconst 1, 1) := by decide +kernel
theorem dX2_addHint_26 : decode cX2_addHint 26 = .ok (.isub, 1) := by decide +kernel
theorem dX2_addHint_27 : decode cX2_addHint 27 = .ok (.iaload, 1) := by decide +kernel
theorem dX2_addHint_28 : decode cX2_addHint 28 = .ok (.iload_n 1, 1) := by decide +kernel
theorem dX2_addHint_29 : decode cX2_addHint 29 = .ok (.if_icmp .le 37, 3) := by decide +kernel
theorem dX2_addHint_32 : decode cX2_addHint 32 = .ok (.aload_n 0, 1) := by decide +kernel
theorem dX2_addHint_33 : decode cX2_addHint 33 = .ok (.getfield 25, 3) := by decide +kernel
theorem dX2_addHint_36 : decode cX2_addHint 36 = .ok (.iload_n 3, 1) := by decide +kernel
theorem dX2_addHint_37 : decode cX2_addHint 37 = .ok (.aload_n 0, 1) := by decide +kernel
theorem dX2_addHint_38 : decode cX2_addHint 38 = .ok (.getfield 25, 3) := by decide +kernel
theorem dX2_addHint_41 : decode cX2_addHint 41 = .ok (.iload_n 3, 1) := by decide +kernel
theorem dX2_addHint_42 : decode cX2_addHint 42 = .ok (.iconst 1, 1) := by decide +kernel
theorem dX2_addHint_43 : decode cX2_addHint 43 = .ok (.isub, 1) := by decide +kernel
theorem dX2_addHint_44 : decode cX2_addHint 44 = .ok (.iaload, 1) := by decide +kernel
theorem dX2_addHint_45 : decode cX2_addHint 45 = .ok (.iastore, 1) := by decide +kernel
theorem dX2_addHint_46 : decode cX2_addHint 46 = .ok (.aload_n 0, 1) := by decide +kernel
theorem dX2_addHint_47 : decode cX2_addHint 47 = .ok (.getfield 28, 3) := by decide +kernel
theorem dX2_addHint_50 : decode cX2_addHint 50 = .ok (.iload_n 3, 1) := by decide +kernel
theorem dX2_addHint_51 : decode cX2_addHint 51 = .ok (.aload_n 0, 1) := by decide +kernel
theorem dX2_addHint_52 : decode cX2_addHint 52 = .ok (.getfield 28, 3) := by decide +kernel
theorem dX2_addHint_55 : decode cX2_addHint 55 = .ok (.iload_n 3, 1) := by decide +kernel
theorem dX2_addHint_56 : decode cX2_addHint 56 = .ok (.iconst 1, 1) := by decide +kernel
theorem dX2_addHint_57 : decode cX2_addHint 57 = .ok (.isub, 1) := by decide +kernel
theorem dX2_addHint_58 : decode cX2_addHint 58 = .ok (.iaload, 1) := by decide +kernel
theorem dX2_addHint_59 : decode cX2_addHint 59 = .ok (.iastore, 1) := by decide +kernel
theorem dX2_addHint_60 : decode cX2_addHint 60 = .ok (.iinc 3 (-1), 3) := by decide +kernel
theorem dX2_addHint_63 : decode cX2_addHint 63 = .ok (.goto (-47), 3) := by decide +kernel
theorem dX2_addHint_66 : decode cX2_addHint 66 = .ok (.aload_n 0, 1) := by decide +kernel
theorem dX2_addHint_67 : decode cX2_addHint 67 = .ok (.getfield 25, 3) := by decide +kernel
theorem dX2_addHint_70 : decode cX2_addHint 70 = .ok (.iload_n 3, 1) := by decide +kernel
theorem dX2_addHint_71 : decode cX2_addHint 71 = .ok (.iload_n 1, 1) := by decide +kernel
theorem dX2_addHint_72 : decode cX2_addHint 72 = .ok (.iastore, 1) := by decide +kernel
theorem dX2_addHint_73 : decode cX2_addHint 73 = .ok (.aload_n 0, 1) := by decide +kernel
theorem dX2_addHint_74 : decode cX2_addHint 74 = .ok (.getfield 28, 3) := by decide +kernel
theorem dX2_addHint_77 : decode cX2_addHint 77 = .ok (.iload_n 3, 1) := by decide +kernel
theorem dX2_addHint_78 : decode cX2_addHint 78 = .ok (.iload_n 2, 1) := by decide +kernel
theorem dX2_addHint_79 : decode cX2_addHint 79 = .ok (.iastore, 1) := by decide +kernel
theorem dX2_addHint_80 : decode cX2_addHint 80 = .ok (.aload_n 0, 1) := by decide +kernel
theorem dX2_addHint_81 : decode cX2_addHint 81 = .ok (.dup, 1) := by decide +kernel
theorem dX2_addHint_82 : decode cX2_addHint 82 = .ok (.getfield 38, 3) := by decide +kernel
theorem dX2_addHint_85 : decode cX2_addHint 85 = .ok (.iconst 1, 1) := by decide +kernel
theorem dX2_addHint_86 : decode cX2_addHint 86 = .ok (.iadd, 1) := by decide +kernel
theorem dX2_addHint_87 : decode cX2_addHint 87 = .ok (.putfield 38, 3) := by decide +kernel
theorem dX2_addHint_90 : decode cX2_addHint 90 = .ok (.iload_n 3, 1) := by decide +kernel
theorem dX2_addHint_91 : decode cX2_addHint 91 = .ok (.ireturn, 1) := by decide +kernel
theorem dX2_dropHint_0 : decode cX2_dropHint 0 = .ok (.aload_n 0, 1) := by decide +kernel
theorem dX2_dropHint_1 : decode cX2_dropHint 1 = .ok (.iload_n 1, 1) := by decide +kernel
theorem dX2_dropHint_2 : decode cX2_dropHint 2 = .ok (.invokevirtual 94, 3) := by decide +kernel
theorem dX2_dropHint_5 : decode cX2_dropHint 5 = .ok (.ifCond .ne 4, 3) := by decide +kernel
theorem dX2_dropHint_8 : decode cX2_dropHint 8 = .ok (.return_, 1) := by decide +kernel
theorem dX2_dropHint_9 : decode cX2_dropHint 9 = .ok (.iload_n 1, 1) := by decide +kernel
theorem dX2_dropHint_10 : decode cX2_dropHint 10 = .ok (.iconst 1, 1) := by decide +kernel
theorem dX2_dropHint_11 : decode cX2_dropHint 11 = .ok (.iadd, 1) := by decide +kernel
theorem dX2_dropHint_12 : decode cX2_dropHint 12 = .ok (.istore_n 2, 1) := by decide +kernel
theorem dX2_dropHint_13 : decode cX2_dropHint 13 = .ok (.iload_n 2, 1) := by decide +kernel
theorem dX2_dropHint_14 : decode cX2_dropHint 14 = .ok (.aload_n 0, 1) := by decide +kernel
theorem dX2_dropHint_15 : decode cX2_dropHint 15 = .ok (.getfield 38, 3) := by decide +kernel
theorem dX2_dropHint_18 : decode cX2_dropHint 18 = .ok (.if_icmp .ge 37, 3) := by decide +kernel
theorem dX2_dropHint_21 : decode cX2_dropHint 21 = .ok (.aload_n 0, 1) := by decide +kernel
theorem dX2_dropHint_22 : decode cX2_dropHint 22 = .ok (.getfield 25, 3) := by decide +kernel
theorem dX2_dropHint_25 : decode cX2_dropHint 25 = .ok (.iload_n 2, 1) := by decide +kernel
theorem dX2_dropHint_26 : decode cX2_dropHint 26 = .ok (.iconst 1, 1) := by decide +kernel
theorem dX2_dropHint_27 : decode cX2_dropHint 27 = .ok (.isub, 1) := by decide +kernel
theorem dX2_dropHint_28 : decode cX2_dropHint 28 = .ok (.aload_n 0, 1) := by decide +kernel
theorem dX2_dropHint_29 : decode cX2_dropHint 29 = .ok (.getfield 25, 3) := by decide +kernel
theorem dX2_dropHint_32 : decode cX2_dropHint 32 = .ok (.iload_n 2, 1) := by decide +kernel
theorem dX2_dropHint_33 : decode cX2_dropHint 33 = .ok (.iaload, 1) := by decide +kernel
theorem dX2_dropHint_34 : decode cX2_dropHint 34 = .ok (.iastore, 1) := by decide +kernel
theorem dX2_dropHint_35 : decode cX2_dropHint 35 = .ok (.aload_n 0, 1) := by decide +kernel
theorem dX2_dropHint_36 : decode cX2_dropHint 36 = .ok (.getfield 28, 3) := by decide +kernel
theorem dX2_dropHint_39 : decode cX2_dropHint 39 = .ok (.iload_n 2, 1) := by decide +kernel
theorem dX2_dropHint_40 : decode cX2_dropHint 40 = .ok (.iconst 1, 1) := by decide +kernel
theorem dX2_dropHint_41 : decode cX2_dropHint 41 = .ok (.isub, 1) := by decide +kernel
theorem dX2_dropHint_42 : decode cX2_dropHint 42 = .ok (.aload_n 0, 1) := by decide +kernel
theorem dX2_dropHint_43 : decode cX2_dropHint 43 = .ok (.getfield 28, 3) := by decide +kernel
theorem dX2_dropHint_46 : decode cX2_dropHint 46 = .ok (.iload_n 2, 1) := by decide +kernel
theorem dX2_dropHint_47 : decode cX2_dropHint 47 = .ok (.iaload, 1) := by decide +kernel
theorem dX2_dropHint_48 : decode cX2_dropHint 48 = .ok (.iastore, 1) := by decide +kernel
theorem dX2_dropHint_49 : decode cX2_dropHint 49 = .ok (.iinc 2 1, 3) := by decide +kernel
theorem dX2_dropHint_52 : decode cX2_dropHint 52 = .ok (.goto (-39), 3) := by decide +kernel
theorem dX2_dropHint_55 : decode cX2_dropHint 55 = .ok (.aload_n 0, 1) := by decide +kernel
theorem dX2_dropHint_56 : decode cX2_dropHint 56 = .ok (.dup, 1) := by decide +kernel
theorem dX2_dropHint_57 : decode cX2_dropHint 57 = .ok (.getfield 38, 3) := by decide +kernel
theorem dX2_dropHint_60 : decode cX2_dropHint 60 = .ok (.iconst 1, 1) := by decide +kernel
theorem dX2_dropHint_61 : decode cX2_dropHint 61 = .ok (.isub, 1) := by decide +kernel
theorem dX2_dropHint_62 : decode cX2_dropHint 62 = .ok (.putfield 38, 3) := by decide +kernel
theorem dX2_dropHint_65 : decode cX2_dropHint 65 = .ok (.return_, 1) := by decide +kernel
theorem dX2_hintAt_0 : decode cX2_hintAt 0 = .ok (.iconst 0, 1) := by decide +kernel
theorem dX2_hintAt_1 : decode cX2_hintAt 1 = .ok (.istore_n 2, 1) := by decide +kernel
theorem dX2_hintAt_2 : decode cX2_hintAt 2 = .ok (.iload_n 2, 1) := by decide +kernel
theorem dX2_hintAt_3 : decode cX2_hintAt 3 = .ok (.aload_n 0, 1) := by decide +kernel
theorem dX2_hintAt_4 : decode cX2_hintAt 4 = .ok (.getfield 38, 3) := by decide +kernel
theorem dX2_hintAt_7 : decode cX2_hintAt 7 = .ok (.if_icmp .ge 21, 3) := by decide +kernel
theorem dX2_hintAt_10 : decode cX2_hintAt 10 = .ok (.aload_n 0, 1) := by decide +kernel
theorem dX2_hintAt_11 : decode cX2_hintAt 11 = .ok (.getfield 25, 3) := by decide +kernel
theorem dX2_hintAt_14 : decode cX2_hintAt 14 = .ok (.iload_n 2, 1) := by decide +kernel
theorem dX2_hintAt_15 : decode cX2_hintAt 15 = .ok (.iaload, 1) := by decide +kernel
theorem dX2_hintAt_16 : decode cX2_hintAt 16 = .ok (.iload_n 1, 1) := by decide +kernel
theorem dX2_hintAt_17 : decode cX2_hintAt 17 = .ok (.if_icmp .ne 5, 3) := by decide +kernel
theorem dX2_hintAt_20 : decode cX2_hintAt 20 = .ok (.iload_n 2, 1) := by decide +kernel
theorem dX2_hintAt_21 : decode cX2_hintAt 21 = .ok (.ireturn, 1) := by decide +kernel
theorem dX2_hintAt_22 : decode cX2_hintAt 22 = .ok (.iinc 2 1, 3) := by decide +kernel
theorem dX2_hintAt_25 : decode cX2_hintAt 25 = .ok (.goto (-23), 3) := by decide +kernel
theorem dX2_hintAt_28 : decode cX2_hintAt 28 = .ok (.iconst (-1), 1) := by decide +kernel
theorem dX2_hintAt_29 : decode cX2_hintAt 29 = .ok (.ireturn, 1) := by decide +kernel
theorem dX2_shutFoldOf_0 : decode cX2_shutFoldOf 0 = .ok (.iconst 0, 1) := by decide +kernel
theorem dX2_shutFoldOf_1 : decode cX2_shutFoldOf 1 = .ok (.istore_n 2, 1) := by decide +kernel
theorem dX2_shutFoldOf_2 : decode cX2_shutFoldOf 2 = .ok (.iload_n 2, 1) := by decide +kernel
theorem dX2_shutFoldOf_3 : decode cX2_shutFoldOf 3 = .ok (.aload_n 0, 1) := by decide +kernel
theorem dX2_shutFoldOf_4 : decode cX2_shutFoldOf 4 = .ok (.getfield 35, 3) := by decide +kernel
theorem dX2_shutFoldOf_7 : decode cX2_shutFoldOf 7 = .ok (.if_icmp .ge 40, 3) := by decide +kernel
theorem dX2_shutFoldOf_10 : decode cX2_shutFoldOf 10 = .ok (.aload_n 0, 1) := by decide +kernel
theorem dX2_shutFoldOf_11 : decode cX2_shutFoldOf 11 = .ok (.getfield 21, 3) := by decide +kernel
theorem dX2_shutFoldOf_14 : decode cX2_shutFoldOf 14 = .ok (.iload_n 2, 1) := by decide +kernel
theorem dX2_shutFoldOf_15 : decode cX2_shutFoldOf 15 = .ok (.baload, 1) := by decide +kernel
theorem dX2_shutFoldOf_16 : decode cX2_shutFoldOf 16 = .ok (.ifCond .eq 25, 3) := by decide +kernel
theorem dX2_shutFoldOf_19 : decode cX2_shutFoldOf 19 = .ok (.aload_n 0, 1) := by decide +kernel
theorem dX2_shutFoldOf_20 : decode cX2_shutFoldOf 20 = .ok (.getfield 15, 3) := by decide +kernel
theorem dX2_shutFoldOf_23 : decode cX2_shutFoldOf 23 = .ok (.iload_n 2, 1) := by decide +kernel
theorem dX2_shutFoldOf_24 : decode cX2_shutFoldOf 24 = .ok (.iaload, 1) := by decide +kernel
theorem dX2_shutFoldOf_25 : decode cX2_shutFoldOf 25 = .ok (.iload_n 1, 1) := by decide +kernel
theorem dX2_shutFoldOf_26 : decode cX2_shutFoldOf 26 = .ok (.if_icmp .gt 15, 3) := by decide +kernel
theorem dX2_shutFoldOf_29 : decode cX2_shutFoldOf 29 = .ok (.iload_n 1, 1) := by decide +kernel
theorem dX2_shutFoldOf_30 : decode cX2_shutFoldOf 30 = .ok (.aload_n 0, 1) := by decide +kernel
theorem dX2_shutFoldOf_31 : decode cX2_shutFoldOf 31 = .ok (.getfield 18, 3) := by decide +kernel
theorem dX2_shutFoldOf_34 : decode cX2_shutFoldOf 34 = .ok (.iload_n 2, 1) := by decide +kernel
theorem dX2_shutFoldOf_35 : decode cX2_shutFoldOf 35 = .ok (.iaload, 1) := by decide +kernel
theorem dX2_shutFoldOf_36 : decode cX2_shutFoldOf 36 = .ok (.if_icmp .ge 5, 3) := by decide +kernel
theorem dX2_shutFoldOf_39 : decode cX2_shutFoldOf 39 = .ok (.iload_n 2, 1) := by decide +kernel
theorem dX2_shutFoldOf_40 : decode cX2_shutFoldOf 40 = .ok (.ireturn, 1) := by decide +kernel
theorem dX2_shutFoldOf_41 : decode cX2_shutFoldOf 41 = .ok (.iinc 2 1, 3) := by decide +kernel
theorem dX2_shutFoldOf_44 : decode cX2_shutFoldOf 44 = .ok (.goto (-42), 3) := by decide +kernel
theorem dX2_shutFoldOf_47 : decode cX2_shutFoldOf 47 = .ok (.iconst (-1), 1) := by decide +kernel
theorem dX2_shutFoldOf_48 : decode cX2_shutFoldOf 48 = .ok (.ireturn, 1) := by decide +kernel
theorem dX2_holderOf_0 : decode cX2_holderOf 0 = .ok (.aload_n 0, 1) := by decide +kernel
theorem dX2_holderOf_1 : decode cX2_holderOf 1 = .ok (.iload_n 1, 1) := by decide +kernel
theorem dX2_holderOf_2 : decode cX2_holderOf 2 = .ok (.invokevirtual 97, 3) := by decide +kernel
theorem dX2_holderOf_5 : decode cX2_holderOf 5 = .ok (.istore_n 2, 1) := by decide +kernel
theorem dX2_holderOf_6 : decode cX2_holderOf 6 = .ok (.iload_n 2, 1) := by decide +kernel
theorem dX2_holderOf_7 : decode cX2_holderOf 7 = .ok (.ifCond .ge 7, 3) := by decide +kernel
theorem dX2_holderOf_10 : decode cX2_holderOf 10 = .ok (.iload_n 1, 1) := by decide +kernel
theorem dX2_holderOf_11 : decode cX2_holderOf 11 = .ok (.goto 9, 3) := by decide +kernel
theorem dX2_holderOf_14 : decode cX2_holderOf 14 = .ok (.aload_n 0, 1) := by decide +kernel
theorem dX2_holderOf_15 : decode cX2_holderOf 15 = .ok (.getfield 15, 3) := by decide +kernel
theorem dX2_holderOf_18 : decode cX2_holderOf 18 = .ok (.iload_n 2, 1) := by decide +kernel
theorem dX2_holderOf_19 : decode cX2_holderOf 19 = .ok (.iaload, 1) := by decide +kernel
theorem dX2_holderOf_20 : decode cX2_holderOf 20 = .ok (.ireturn, 1) := by decide +kernel
theorem dX2_isShown_0 : decode cX2_isShown 0 = .ok (.aload_n 0, 1) := by decide +kernel
theorem dX2_isShown_1 : decode cX2_isShown 1 = .ok (.iload_n 1, 1) := by decide +kernel
theorem dX2_isShown_2 : decode cX2_isShown 2 = .ok (.invokevirtual 100, 3) := by decide +kernel
theorem dX2_isShown_5 : decode cX2_isShown 5 = .ok (.iload_n 1, 1) := by decide +kernel
theorem dX2_isShown_6 : decode cX2_isShown 6 = .ok (.if_icmp .ne 7, 3) := by decide +kernel
theorem dX2_isShown_9 : decode cX2_isShown 9 = .ok (.iconst 1, 1) := by decide +kernel
theorem dX2_isShown_10 : decode cX2_isShown 10 = .ok (.goto 4, 3) := by decide +kernel
theorem dX2_isShown_13 : decode cX2_isShown 13 = .ok (.iconst 0, 1) := by decide +kernel
theorem dX2_isShown_14 : decode cX2_isShown 14 = .ok (.ireturn, 1) := by decide +kernel
theorem dX2_nextShown_0 : decode cX2_nextShown 0 = .ok (.iload_n 1, 1) := by decide +kernel
theorem dX2_nextShown_1 : decode cX2_nextShown 1 = .ok (.iconst 1, 1) := by decide +kernel
theorem dX2_nextShown_2 : decode cX2_nextShown 2 = .ok (.iadd, 1) := by decide +kernel
theorem dX2_nextShown_3 : decode cX2_nextShown 3 = .ok (.istore_n 2, 1) := by decide +kernel
theorem dX2_nextShown_4 : decode cX2_nextShown 4 = .ok (.iload_n 2, 1) := by decide +kernel
theorem dX2_nextShown_5 : decode cX2_nextShown 5 = .ok (.aload_n 0, 1) := by decide +kernel
theorem dX2_nextShown_6 : decode cX2_nextShown 6 = .ok (.getfield 31, 3) := by decide +kernel
theorem dX2_nextShown_9 : decode cX2_nextShown 9 = .ok (.if_icmp .gt 19, 3) := by decide +kernel
theorem dX2_nextShown_12 : decode cX2_nextShown 12 = .ok (.aload_n 0, 1) := by decide +kernel
theorem dX2_nextShown_13 : decode cX2_nextShown 13 = .ok (.iload_n 2, 1) := by decide +kernel
theorem dX2_nextShown_14 : decode cX2_nextShown 14 = .ok (.invokevirtual 103, 3) := by decide +kernel
theorem dX2_nextShown_17 : decode cX2_nextShown 17 = .ok (.ifCond .eq 5, 3) := by decide +kernel
theorem dX2_nextShown_20 : decode cX2_nextShown 20 = .ok (.iload_n 2, 1) := by decide +kernel
theorem dX2_nextShown_21 : decode cX2_nextShown 21 = .ok (.ireturn, 1) := by decide +kernel
theorem dX2_nextShown_22 : decode cX2_nextShown 22 = .ok (.iinc 2 1, 3) := by decide +kernel
theorem dX2_nextShown_25 : decode cX2_nextShown 25 = .ok (.goto (-21), 3) := by decide +kernel
theorem dX2_nextShown_28 : decode cX2_nextShown 28 = .ok (.bipush (-4), 2) := by decide +kernel
theorem dX2_nextShown_30 : decode cX2_nextShown 30 = .ok (.ireturn, 1) := by decide +kernel
theorem dX2_previousShown_0 : decode cX2_previousShown 0 = .ok (.iload_n 1, 1) := by decide +kernel
theorem dX2_previousShown_1 : decode cX2_previousShown 1 = .ok (.iconst 1, 1) := by decide +kernel
theorem dX2_previousShown_2 : decode cX2_previousShown 2 = .ok (.isub, 1) := by decide +kernel
theorem dX2_previousShown_3 : decode cX2_previousShown 3 = .ok (.istore_n 2, 1) := by decide +kernel
theorem dX2_previousShown_4 : decode cX2_previousShown 4 = .ok (.iload_n 2, 1) := by decide +kernel
theorem dX2_previousShown_5 : decode cX2_previousShown 5 = .ok (.ifCond .lt 19, 3) := by decide +kernel
theorem dX2_previousShown_8 : decode cX2_previousShown 8 = .ok (.aload_n 0, 1) := by decide +kernel
theorem dX2_previousShown_9 : decode cX2_previousShown 9 = .ok (.iload_n 2, 1) := by decide +kernel
theorem dX2_previousShown_10 : decode cX2_previousShown 10 = .ok (.invokevirtual 103, 3) := by decide +kernel
theorem dX2_previousShown_13 : decode cX2_previousShown 13 = .ok (.ifCond .eq 5, 3) := by decide +kernel
theorem dX2_previousShown_16 : decode cX2_previousShown 16 = .ok (.iload_n 2, 1) := by decide +kernel
theorem dX2_previousShown_17 : decode cX2_previousShown 17 = .ok (.ireturn, 1) := by decide +kernel
theorem dX2_previousShown_18 : decode cX2_previousShown 18 = .ok (.iinc 2 (-1), 3) := by decide +kernel
theorem dX2_previousShown_21 : decode cX2_previousShown 21 = .ok (.goto (-17), 3) := by decide +kernel
theorem dX2_previousShown_24 : decode cX2_previousShown 24 = .ok (.bipush (-4), 2) := by decide +kernel
theorem dX2_previousShown_26 : decode cX2_previousShown 26 = .ok (.ireturn, 1) := by decide +kernel
theorem dX2_reduced_0 : decode cX2_reduced 0 = .ok (.iload_n 1, 1) := by decide +kernel
theorem dX2_reduced_1 : decode cX2_reduced 1 = .ok (.ifCond .le 9, 3) := by decide +kernel
theorem dX2_reduced_4 : decode cX2_reduced 4 = .ok (.iload_n 0, 1) := by decide +kernel
theorem dX2_reduced_5 : decode cX2_reduced 5 = .ok (.iload_n 1, 1) := by decide +kernel
theorem dX2_reduced_6 : decode cX2_reduced 6 = .ok (.irem, 1) := by decide +kernel
theorem dX2_reduced_7 : decode cX2_reduced 7 = .ok (.goto 4, 3) := by decide +kernel
theorem dX2_reduced_10 : decode cX2_reduced 10 = .ok (.iconst (-1), 1) := by decide +kernel
theorem dX2_reduced_11 : decode cX2_reduced 11 = .ok (.ireturn, 1) := by decide +kernel
theorem dX2_live_0 : decode cX2_live 0 = .ok (.iload_n 1, 1) := by decide +kernel
theorem dX2_live_1 : decode cX2_live 1 = .ok (.iconst 4, 1) := by decide +kernel
theorem dX2_live_2 : decode cX2_live 2 = .ok (.irem, 1) := by decide +kernel
theorem dX2_live_3 : decode cX2_live 3 = .ok (.istore_n 2, 1) := by decide +kernel
theorem dX2_live_4 : decode cX2_live 4 = .ok (.iload_n 2, 1) := by decide +kernel
theorem dX2_live_5 : decode cX2_live 5 = .ok (.iconst 2, 1) := by decide +kernel
theorem dX2_live_6 : decode cX2_live 6 = .ok (.if_icmp .ne 22, 3) := by decide +kernel
theorem dX2_live_9 : decode cX2_live 9 = .ok (.aload_n 0, 1) := by decide +kernel
theorem dX2_live_10 : decode cX2_live 10 = .ok (.iload_n 1, 1) := by decide +kernel
theorem dX2_live_11 : decode cX2_live 11 = .ok (.sipush 256, 3) := by decide +kernel
theorem dX2_live_14 : decode cX2_live 14 = .ok (.idiv, 1) := by decide +kernel
theorem dX2_live_15 : decode cX2_live 15 = .ok (.aload_n 0, 1) := by decide +kernel
theorem dX2_live_16 : decode cX2_live 16 = .ok (.getfield 31, 3) := by decide +kernel
theorem dX2_live_19 : decode cX2_live 19 = .ok (.invokestatic 106, 3) := by decide +kernel
theorem dX2_live_22 : decode cX2_live 22 = .ok (.invokevirtual 110, 3) := by decide +kernel
theorem dX2_live_25 : decode cX2_live 25 = .ok (.goto 51, 3) := by decide +kernel
theorem dX2_live_28 : decode cX2_live 28 = .ok (.iload_n 2, 1) := by decide +kernel
theorem dX2_live_29 : decode cX2_live 29 = .ok (.iconst 3, 1) := by decide +kernel
theorem dX2_live_30 : decode cX2_live 30 = .ok (.if_icmp .ne 21, 3) := by decide +kernel
theorem dX2_live_33 : decode cX2_live 33 = .ok (.aload_n 0, 1) := by decide +kernel
theorem dX2_live_34 : decode cX2_live 34 = .ok (.iload_n 1, 1) := by decide +kernel
theorem dX2_live_35 : decode cX2_live 35 = .ok (.bipush 8, 2) := by decide +kernel
theorem dX2_live_37 : decode cX2_live 37 = .ok (.idiv, 1) := by decide +kernel
theorem dX2_live_38 : decode cX2_live 38 = .ok (.aload_n 0, 1) := by decide +kernel
theorem dX2_live_39 : decode cX2_live 39 = .ok (.getfield 35, 3) := by decide +kernel
theorem dX2_live_42 : decode cX2_live 42 = .ok (.invokestatic 106, 3) := by decide +kernel
theorem dX2_live_45 : decode cX2_live 45 = .ok (.invokevirtual 113, 3) := by decide +kernel
theorem dX2_live_48 : decode cX2_live 48 = .ok (.goto 28, 3) := by decide +kernel
theorem dX2_live_51 : decode cX2_live 51 = .ok (.aload_n 0, 1) := by decide +kernel
theorem dX2_live_52 : decode cX2_live 52 = .ok (.iload_n 1, 1) := by decide +kernel
theorem dX2_live_53 : decode cX2_live 53 = .ok (.sipush 256, 3) := by decide +kernel
theorem dX2_live_56 : decode cX2_live 56 = .ok (.idiv, 1) := by decide +kernel
theorem dX2_live_57 : decode cX2_live 57 = .ok (.aload_n 0, 1) := by decide +kernel
theorem dX2_live_58 : decode cX2_live 58 = .ok (.getfield 31, 3) := by decide +kernel
theorem dX2_live_61 : decode cX2_live 61 = .ok (.iconst 1, 1) := by decide +kernel
theorem dX2_live_62 : decode cX2_live 62 = .ok (.iadd, 1) := by decide +kernel
theorem dX2_live_63 : decode cX2_live 63 = .ok (.invokestatic 106, 3) := by decide +kernel
theorem dX2_live_66 : decode cX2_live 66 = .ok (.iload_n 1, 1) := by decide +kernel
theorem dX2_live_67 : decode cX2_live 67 = .ok (.bipush 8, 2) := by decide +kernel
theorem dX2_live_69 : decode cX2_live 69 = .ok (.idiv, 1) := by decide +kernel
theorem dX2_live_70 : decode cX2_live 70 = .ok (.bipush 28, 2) := by decide +kernel
theorem dX2_live_72 : decode cX2_live 72 = .ok (.irem, 1) := by decide +kernel
theorem dX2_live_73 : decode cX2_live 73 = .ok (.invokevirtual 116, 3) := by decide +kernel
theorem dX2_live_76 : decode cX2_live 76 = .ok (.return_, 1) := by decide +kernel
