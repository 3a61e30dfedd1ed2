theorem dX0_init_0 : decode cX0_init 0 = .ok (.aload_n 0, 1) := by decide +kernel
theorem dX0_init_1 : decode cX0_init 1 = .ok (.invokespecial 1, 3) := by decide +kernel
theorem dX0_init_4 : decode cX0_init 4 = .ok (.aload_n 0, 1) := by decide +kernel
theorem dX0_init_5 : decode cX0_init 5 = .ok (.iconst 0, 1) := by decide +kernel
theorem dX0_init_6 : decode cX0_init 6 = .ok (.iload_n 1, 1) := by decide +kernel
theorem dX0_init_7 : decode cX0_init 7 = .ok (.invokestatic 7, 3) := by decide +kernel
theorem dX0_init_10 : decode cX0_init 10 = .ok (.anewarray 13, 3) := by decide +kernel
theorem dX0_init_13 : decode cX0_init 13 = .ok (.putfield 15, 3) := by decide +kernel
theorem dX0_init_16 : decode cX0_init 16 = .ok (.iconst 0, 1) := by decide +kernel
theorem dX0_init_17 : decode cX0_init 17 = .ok (.istore_n 2, 1) := by decide +kernel
theorem dX0_init_18 : decode cX0_init 18 = .ok (.iload_n 2, 1) := by decide +kernel
theorem dX0_init_19 : decode cX0_init 19 = .ok (.aload_n 0, 1) := by decide +kernel
theorem dX0_init_20 : decode cX0_init 20 = .ok (.getfield 15, 3) := by decide +kernel
theorem dX0_init_23 : decode cX0_init 23 = .ok (.arraylength, 1) := by decide +kernel
theorem dX0_init_24 : decode cX0_init 24 = .ok (.if_icmp .ge 22, 3) := by decide +kernel
theorem dX0_init_27 : decode cX0_init 27 = .ok (.aload_n 0, 1) := by decide +kernel
theorem dX0_init_28 : decode cX0_init 28 = .ok (.getfield 15, 3) := by decide +kernel
theorem dX0_init_31 : decode cX0_init 31 = .ok (.iload_n 2, 1) := by decide +kernel
theorem dX0_init_32 : decode cX0_init 32 = .ok (.new 13, 3) := by decide +kernel
theorem dX0_init_35 : decode cX0_init 35 = .ok (.dup, 1) := by decide +kernel
theorem dX0_init_36 : decode cX0_init 36 = .ok (.invokespecial 21, 3) := by decide +kernel
theorem dX0_init_39 : decode cX0_init 39 = .ok (.aastore, 1) := by decide +kernel
theorem dX0_init_40 : decode cX0_init 40 = .ok (.iinc 2 1, 3) := by decide +kernel
theorem dX0_init_43 : decode cX0_init 43 = .ok (.goto (-25), 3) := by decide +kernel
theorem dX0_init_46 : decode cX0_init 46 = .ok (.return_, 1) := by decide +kernel
theorem dX0_isFull_0 : decode cX0_isFull 0 = .ok (.aload_n 0, 1) := by decide +kernel
theorem dX0_isFull_1 : decode cX0_isFull 1 = .ok (.getfield 22, 3) := by decide +kernel
theorem dX0_isFull_4 : decode cX0_isFull 4 = .ok (.aload_n 0, 1) := by decide +kernel
theorem dX0_isFull_5 : decode cX0_isFull 5 = .ok (.getfield 15, 3) := by decide +kernel
theorem dX0_isFull_8 : decode cX0_isFull 8 = .ok (.arraylength, 1) := by decide +kernel
theorem dX0_isFull_9 : decode cX0_isFull 9 = .ok (.if_icmp .lt 7, 3) := by decide +kernel
theorem dX0_isFull_12 : decode cX0_isFull 12 = .ok (.iconst 1, 1) := by decide +kernel
theorem dX0_isFull_13 : decode cX0_isFull 13 = .ok (.goto 4, 3) := by decide +kernel
theorem dX0_isFull_16 : decode cX0_isFull 16 = .ok (.iconst 0, 1) := by decide +kernel
theorem dX0_isFull_17 : decode cX0_isFull 17 = .ok (.ireturn, 1) := by decide +kernel
theorem dX0_push_0 : decode cX0_push 0 = .ok (.aload_n 0, 1) := by decide +kernel
theorem dX0_push_1 : decode cX0_push 1 = .ok (.invokevirtual 26, 3) := by decide +kernel
theorem dX0_push_4 : decode cX0_push 4 = .ok (.ifCond .eq 7, 3) := by decide +kernel
theorem dX0_push_7 : decode cX0_push 7 = .ok (.aload_n 0, 1) := by decide +kernel
theorem dX0_push_8 : decode cX0_push 8 = .ok (.invokevirtual 30, 3) := by decide +kernel
theorem dX0_push_11 : decode cX0_push 11 = .ok (.aload_n 0, 1) := by decide +kernel
theorem dX0_push_12 : decode cX0_push 12 = .ok (.getfield 22, 3) := by decide +kernel
theorem dX0_push_15 : decode cX0_push 15 = .ok (.ifCond .lt 38, 3) := by decide +kernel
theorem dX0_push_18 : decode cX0_push 18 = .ok (.aload_n 0, 1) := by decide +kernel
theorem dX0_push_19 : decode cX0_push 19 = .ok (.getfield 22, 3) := by decide +kernel
theorem dX0_push_22 : decode cX0_push 22 = .ok (.aload_n 0, 1) := by decide +kernel
theorem dX0_push_23 : decode cX0_push 23 = .ok (.getfield 15, 3) := by decide +kernel
theorem dX0_push_26 : decode cX0_push 26 = .ok (.arraylength, 1) := by decide +kernel
theorem dX0_push_27 : decode cX0_push 27 = .ok (.if_icmp .ge 26, 3) := by decide +kernel
theorem dX0_push_30 : decode cX0_push 30 = .ok (.aload_n 0, 1) := by decide +kernel
theorem dX0_push_31 : decode cX0_push 31 = .ok (.getfield 15, 3) := by decide +kernel
theorem dX0_push_34 : decode cX0_push 34 = .ok (.aload_n 0, 1) := by decide +kernel
theorem dX0_push_35 : decode cX0_push 35 = .ok (.getfield 22, 3) := by decide +kernel
theorem dX0_push_38 : decode cX0_push 38 = .ok (.aaload, 1) := by decide +kernel
theorem dX0_push_39 : decode cX0_push 39 = .ok (.aload_n 1, 1) := by decide +kernel
theorem dX0_push_40 : decode cX0_push 40 = .ok (.invokevirtual 33, 3) := by decide +kernel
theorem dX0_push_43 : decode cX0_push 43 = .ok (.aload_n 0, 1) := by decide +kernel
theorem dX0_push_44 : decode cX0_push 44 = .ok (.dup, 1) := by decide +kernel
theorem dX0_push_45 : decode cX0_push 45 = .ok (.getfield 22, 3) := by decide +kernel
theorem dX0_push_48 : decode cX0_push 48 = .ok (.iconst 1, 1) := by decide +kernel
theorem dX0_push_49 : decode cX0_push 49 = .ok (.iadd, 1) := by decide +kernel
theorem dX0_push_50 : decode cX0_push 50 = .ok (.putfield 22, 3) := by decide +kernel
theorem dX0_push_53 : decode cX0_push 53 = .ok (.return_, 1) := by decide +kernel
theorem dX0_dropLowest_0 : decode cX0_dropLowest 0 = .ok (.aload_n 0, 1) := by decide +kernel
theorem dX0_dropLowest_1 : decode cX0_dropLowest 1 = .ok (.getfield 22, 3) := by decide +kernel
theorem dX0_dropLowest_4 : decode cX0_dropLowest 4 = .ok (.iconst 1, 1) := by decide +kernel
theorem dX0_dropLowest_5 : decode cX0_dropLowest 5 = .ok (.if_icmp .lt 15, 3) := by decide +kernel
theorem dX0_dropLowest_8 : decode cX0_dropLowest 8 = .ok (.aload_n 0, 1) := by decide +kernel
theorem dX0_dropLowest_9 : decode cX0_dropLowest 9 = .ok (.getfield 22, 3) := by decide +kernel
theorem dX0_dropLowest_12 : decode cX0_dropLowest 12 = .ok (.aload_n 0, 1) := by decide +kernel
theorem dX0_dropLowest_13 : decode cX0_dropLowest 13 = .ok (.getfield 15, 3) := by decide +kernel
theorem dX0_dropLowest_16 : decode cX0_dropLowest 16 = .ok (.arraylength, 1) := by decide +kernel
theorem dX0_dropLowest_17 : decode cX0_dropLowest 17 = .ok (.if_icmp .le 4, 3) := by decide +kernel
theorem dX0_dropLowest_20 : decode cX0_dropLowest 20 = .ok (.return_, 1) := by decide +kernel
theorem dX0_dropLowest_21 : decode cX0_dropLowest 21 = .ok (.aload_n 0, 1) := by decide +kernel
theorem dX0_dropLowest_22 : decode cX0_dropLowest 22 = .ok (.getfield 15, 3) := by decide +kernel
theorem dX0_dropLowest_25 : decode cX0_dropLowest 25 = .ok (.iconst 0, 1) := by decide +kernel
theorem dX0_dropLowest_26 : decode cX0_dropLowest 26 = .ok (.aaload, 1) := by decide +kernel
theorem dX0_dropLowest_27 : decode cX0_dropLowest 27 = .ok (.astore_n 1, 1) := by decide +kernel
theorem dX0_dropLowest_28 : decode cX0_dropLowest 28 = .ok (.iconst 1, 1) := by decide +kernel
theorem dX0_dropLowest_29 : decode cX0_dropLowest 29 = .ok (.istore_n 2, 1) := by decide +kernel
theorem dX0_dropLowest_30 : decode cX0_dropLowest 30 = .ok (.iload_n 2, 1) := by decide +kernel
theorem dX0_dropLowest_31 : decode cX0_dropLowest 31 = .ok (.aload_n 0, 1) := by decide +kernel
theorem dX0_dropLowest_32 : decode cX0_dropLowest 32 = .ok (.getfield 22, 3) := by decide +kernel
theorem dX0_dropLowest_35 : decode cX0_dropLowest 35 = .ok (.if_icmp .ge 23, 3) := by decide +kernel
theorem dX0_dropLowest_38 : decode cX0_dropLowest 38 = .ok (.aload_n 0, 1) := by decide +kernel
theorem dX0_dropLowest_39 : decode cX0_dropLowest 39 = .ok (.getfield 15, 3) := by decide +kernel
theorem dX0_dropLowest_42 : decode cX0_dropLowest 42 = .ok (.iload_n 2, 1) := by decide +kernel
theorem dX0_dropLowest_43 : decode cX0_dropLowest 43 = .ok (.iconst 1, 1) := by decide +kernel
theorem dX0_dropLowest_44 : decode cX0_dropLowest 44 = .ok (.isub, 1) := by decide +kernel
theorem dX0_dropLowest_45 : decode cX0_dropLowest 45 = .ok (.aload_n 0, 1) := by decide +kernel
theorem dX0_dropLowest_46 : decode cX0_dropLowest 46 = .ok (.getfield 15, 3) := by decide +kernel
theorem dX0_dropLowest_49 : decode cX0_dropLowest 49 = .ok (.iload_n 2, 1) := by decide +kernel
theorem dX0_dropLowest_50 : decode cX0_dropLowest 50 = .ok (.aaload, 1) := by decide +kernel
theorem dX0_dropLowest_51 : decode cX0_dropLowest 51 = .ok (.aastore, 1) := by decide +kernel
theorem dX0_dropLowest_52 : decode cX0_dropLowest 52 = .ok (.iinc 2 1, 3) := by decide +kernel
theorem dX0_dropLowest_55 : decode cX0_dropLowest 55 = .ok (.goto (-25), 3) := by decide +kernel
theorem dX0_dropLowest_58 : decode cX0_dropLowest 58 = .ok (.aload_n 0, 1) := by decide +kernel
theorem dX0_dropLowest_59 : decode cX0_dropLowest 59 = .ok (.getfield 15, 3) := by decide +kernel
theorem dX0_dropLowest_62 : decode cX0_dropLowest 62 = .ok (.aload_n 0, 1) := by decide +kernel
theorem dX0_dropLowest_63 : decode cX0_dropLowest 63 = .ok (.getfield 22, 3) := by decide +kernel
theorem dX0_dropLowest_66 : decode cX0_dropLowest 66 = .ok (.iconst 1, 1) := by decide +kernel
theorem dX0_dropLowest_67 : decode cX0_dropLowest 67 = .ok (.isub, 1) := by decide +kernel
theorem dX0_dropLowest_68 : decode cX0_dropLowest 68 = .ok (.aload_n 1, 1) := by decide +kernel
theorem dX0_dropLowest_69 : decode cX0_dropLowest 69 = .ok (.aastore, 1) := by decide +kernel
theorem dX0_dropLowest_70 : decode cX0_dropLowest 70 = .ok (.aload_n 0, 1) := by decide +kernel
theorem dX0_dropLowest_71 : decode cX0_dropLowest 71 = .ok (.dup, 1) := by decide +kernel
theorem dX0_dropLowest_72 : decode cX0_dropLowest 72 = .ok (.getfield 22, 3) := by decide +kernel
theorem dX0_dropLowest_75 : decode cX0_dropLowest 75 = .ok (.iconst 1, 1) := by decide +kernel
theorem dX0_dropLowest_76 : decode cX0_dropLowest 76 = .ok (.isub, 1) := by decide +kernel
theorem dX0_dropLowest_77 : decode cX0_dropLowest 77 = .ok (.putfield 22, 3) := by decide +kernel
theorem dX0_dropLowest_80 : decode cX0_dropLowest 80 = .ok (.return_, 1) := by decide +kernel
theorem dX0_popInto_0 : decode cX0_popInto 0 = .ok (.aload_n 0, 1) := by decide +kernel
theorem dX0_popInto_1 : decode cX0_popInto 1 = .ok (.getfield 22, 3) := by decide +kernel
theorem dX0_popInto_4 : decode cX0_popInto 4 = .ok (.iconst 1, 1) := by decide +kernel
theorem dX0_popInto_5 : decode cX0_popInto 5 = .ok (.if_icmp .lt 15, 3) := by decide +kernel
theorem dX0_popInto_8 : decode cX0_popInto 8 = .ok (.aload_n 0, 1) := by decide +kernel
theorem dX0_popInto_9 : decode cX0_popInto 9 = .ok (.getfield 22, 3) := by decide +kernel
theorem dX0_popInto_12 : decode cX0_popInto 12 = .ok (.aload_n 0, 1) := by decide +kernel
theorem dX0_popInto_13 : decode cX0_popInto 13 = .ok (.getfield 15, 3) := by decide +kernel
theorem dX0_popInto_16 : decode cX0_popInto 16 = .ok (.arraylength, 1) := by decide +kernel
theorem dX0_popInto_17 : decode cX0_popInto 17 = .ok (.if_icmp .le 5, 3) := by decide +kernel
theorem dX0_popInto_20 : decode cX0_popInto 20 = .ok (.iconst 0, 1) := by decide +kernel
theorem dX0_popInto_21 : decode cX0_popInto 21 = .ok (.ireturn, 1) := by decide +kernel
theorem dX0_popInto_22 : decode cX0_popInto 22 = .ok (.aload_n 0, 1) := by decide +kernel
theorem dX0_popInto_23 : decode cX0_popInto 23 = .ok (.dup, 1) := by decide +kernel
theorem dX0_popInto_24 : decode cX0_popInto 24 = .ok (.getfield 22, 3) := by decide +kernel
theorem dX0_popInto_27 : decode cX0_popInto 27 = .ok (.iconst 1, 1) := by decide +kernel
theorem dX0_popInto_28 : decode cX0_popInto 28 = .ok (.isub, 1) := by decide +kernel
theorem dX0_popInto_29 : decode cX0_popInto 29 = .ok (.putfield 22, 3) := by decide +kernel
theorem dX0_popInto_32 : decode cX0_popInto 32 = .ok (.aload_n 1, 1) := by decide +kernel
theorem dX0_popInto_33 : decode cX0_popInto 33 = .ok (.aload_n 0, 1) := by decide +kernel
theorem dX0_popInto_34 : decode cX0_popInto 34 = .ok (.getfield 15, 3) := by decide +kernel
theorem dX0_popInto_37 : decode cX0_popInto 37 = .ok (.aload_n 0, 1) := by decide +kernel
theorem dX0_popInto_38 : decode cX0_popInto 38 = .ok (.getfield 22, 3) := by decide +kernel
theorem dX0_popInto_41 : decode cX0_popInto 41 = .ok (.aaload, 1) := by decide +kernel
theorem dX0_popInto_42 : decode cX0_popInto 42 = .ok (.invokevirtual 33, 3) := by decide +kernel
theorem dX0_popInto_45 : decode cX0_popInto 45 = .ok (.iconst 1, 1) := by decide +kernel
theorem dX0_popInto_46 : decode cX0_popInto 46 = .ok (.ireturn, 1) := by decide +kernel
theorem dX1_init_0 : decode cX1_init 0 = .ok (.aload_n 0, 1) := by decide +kernel
theorem dX1_init_1 : decode cX1_init 1 = .ok (.invokespecial 3, 3) := by decide +kernel
theorem dX1_init_4 : decode cX1_init 4 = .ok (.aload_n 0, 1) := by decide +kernel
theorem dX1_init_5 : decode cX1_init 5 = .ok (.bipush 44, 2) := by decide +kernel
theorem dX1_init_7 : decode cX1_init 7 = .ok (.newarray .int, 2) := by decide +kernel
theorem dX1_init_9 : decode cX1_init 9 = .ok (.putfield 9, 3) := by decide +kernel
theorem dX1_init_12 : decode cX1_init 12 = .ok (.aload_n 0, 1) := by decide +kernel
theorem dX1_init_13 : decode cX1_init 13 = .ok (.bipush 44, 2) := by decide +kernel
theorem dX1_init_15 : decode cX1_init 15 = .ok (.newarray .int, 2) := by decide +kernel
theorem dX1_init_17 : decode cX1_init 17 = .ok (.putfield 15, 3) := by decide +kernel
theorem dX1_init_20 : decode cX1_init 20 = .ok (.aload_n 0, 1) := by decide +kernel
theorem dX1_init_21 : decode cX1_init 21 = .ok (.bipush 44, 2) := by decide +kernel
theorem dX1_init_23 : decode cX1_init 23 = .ok (.newarray .int, 2) := by decide +kernel
theorem dX1_init_25 : decode cX1_init 25 = .ok (.putfield 18, 3) := by decide +kernel
theorem dX1_init_28 : decode cX1_init 28 = .ok (.aload_n 0, 1) := by decide +kernel
theorem dX1_init_29 : decode cX1_init 29 = .ok (.bipush 44, 2) := by decide +kernel
theorem dX1_init_31 : decode cX1_init 31 = .ok (.newarray .int, 2) := by decide +kernel
theorem dX1_init_33 : decode cX1_init 33 = .ok (.putfield 21, 3) := by decide +kernel
theorem dX1_init_36 : decode cX1_init 36 = .ok (.aload_n 0, 1) := by decide +kernel
theorem dX1_init_37 : decode cX1_init 37 = .ok (.bipush 44, 2) := by decide +kernel
theorem dX1_init_39 : decode cX1_init 39 = .ok (.newarray .int, 2) := by decide +kernel
theorem dX1_init_41 : decode cX1_init 41 = .ok (.putfield 24, 3) := by decide +kernel
theorem dX1_init_44 : decode cX1_init 44 = .ok (.aload_n 0, 1) := by decide +kernel
theorem dX1_init_45 : decode cX1_init 45 = .ok (.bipush 45, 2) := by decide +kernel
theorem dX1_init_47 : decode cX1_init 47 = .ok (.newarray .int, 2) := by decide +kernel
theorem dX1_init_49 : decode cX1_init 49 = .ok (.putfield 27, 3) := by decide +kernel
theorem dX1_init_52 : decode cX1_init 52 = .ok (.aload_n 0, 1) := by decide +kernel
theorem dX1_init_53 : decode cX1_init 53 = .ok (.bipush 45, 2) := by decide +kernel
theorem dX1_init_55 : decode cX1_init 55 = .ok (.newarray .boolean, 2) := by decide +kernel
theorem dX1_init_57 : decode cX1_init 57 = .ok (.putfield 30, 3) := by decide +kernel
theorem dX1_init_60 : decode cX1_init 60 = .ok (.return_, 1) := by decide +kernel
theorem dX1_draw_0 : decode cX1_draw 0 = .ok (.aload_n 0, 1) := by decide +kernel
theorem dX1_draw_1 : decode cX1_draw 1 = .ok (.aload_n 1, 1) := by decide +kernel
theorem dX1_draw_2 : decode cX1_draw 2 = .ok (.invokevirtual 34, 3) := by decide +kernel
theorem dX1_draw_5 : decode cX1_draw 5 = .ok (.aload_n 0, 1) := by decide +kernel
theorem dX1_draw_6 : decode cX1_draw 6 = .ok (.aload_n 1, 1) := by decide +kernel
theorem dX1_draw_7 : decode cX1_draw 7 = .ok (.invokevirtual 38, 3) := by decide +kernel
theorem dX1_draw_10 : decode cX1_draw 10 = .ok (.aload_n 0, 1) := by decide +kernel
theorem dX1_draw_11 : decode cX1_draw 11 = .ok (.getfield 41, 3) := by decide +kernel
theorem dX1_draw_14 : decode cX1_draw 14 = .ok (.ireturn, 1) := by decide +kernel
theorem dX1_gather_0 : decode cX1_gather 0 = .ok (.aload_n 0, 1) := by decide +kernel
theorem dX1_gather_1 : decode cX1_gather 1 = .ok (.iconst 0, 1) := by decide +kernel
theorem dX1_gather_2 : decode cX1_gather 2 = .ok (.putfield 45, 3) := by decide +kernel
theorem dX1_gather_5 : decode cX1_gather 5 = .ok (.iconst 0, 1) := by decide +kernel
theorem dX1_gather_6 : decode cX1_gather 6 = .ok (.istore_n 2, 1) := by decide +kernel
theorem dX1_gather_7 : decode cX1_gather 7 = .ok (.iload_n 2, 1) := by decide +kernel
theorem dX1_gather_8 : decode cX1_gather 8 = .ok (.aload_n 1, 1) := by decide +kernel
theorem dX1_gather_9 : decode cX1_gather 9 = .ok (.getfield 48, 3) := by decide +kernel
theorem dX1_gather_12 : decode cX1_gather 12 = .ok (.if_icmp .gt 75, 3) := by decide +kernel
theorem dX1_gather_15 : decode cX1_gather 15 = .ok (.aload_n 1, 1) := by decide +kernel
theorem dX1_gather_16 : decode cX1_gather 16 = .ok (.iload_n 2, 1) := by decide +kernel
theorem dX1_gather_17 : decode cX1_gather 17 = .ok (.invokevirtual 53, 3) := by decide +kernel
theorem dX1_gather_20 : decode cX1_gather 20 = .ok (.ifCond .ne 6, 3) := by decide +kernel
theorem dX1_gather_23 : decode cX1_gather 23 = .ok (.goto 58, 3) := by decide +kernel
theorem dX1_gather_26 : decode cX1_gather 26 = .ok (.aload_n 1, 1) := by decide +kernel
theorem dX1_gather_27 : decode cX1_gather 27 = .ok (.iload_n 2, 1) := by decide +kernel
theorem dX1_gather_28 : decode cX1_gather 28 = .ok (.invokevirtual 57, 3) := by decide +kernel
theorem dX1_gather_31 : decode cX1_gather 31 = .ok (.istore_n 3, 1) := by decide +kernel
theorem dX1_gather_32 : decode cX1_gather 32 = .ok (.iload_n 3, 1) := by decide +kernel
theorem dX1_gather_33 : decode cX1_gather 33 = .ok (.ifCond .lt 16, 3) := by decide +kernel
theorem dX1_gather_36 : decode cX1_gather 36 = .ok (.aload_n 0, 1) := by decide +kernel
theorem dX1_gather_37 : decode cX1_gather 37 = .ok (.bipush 29, 2) := by decide +kernel
theorem dX1_gather_39 : decode cX1_gather 39 = .ok (.iload_n 2, 1) := by decide +kernel
theorem dX1_gather_40 : decode cX1_gather 40 = .ok (.aload_n 1, 1) := by decide +kernel
theorem dX1_gather_41 : decode cX1_gather 41 = .ok (.getfield 61, 3) := by decide +kernel
theorem dX1_gather_44 : decode cX1_gather 44 = .ok (.iload_n 3, 1) := by decide +kernel
theorem dX1_gather_45 : decode cX1_gather 45 = .ok (.iaload, 1) := by decide +kernel
theorem dX1_gather_46 : decode cX1_gather 46 = .ok (.invokevirtual 64, 3) := by decide +kernel
theorem dX1_gather_49 : decode cX1_gather 49 = .ok (.iload_n 2, 1) := by decide +kernel
theorem dX1_gather_50 : decode cX1_gather 50 = .ok (.aload_n 1, 1) := by decide +kernel
theorem dX1_gather_51 : decode cX1_gather 51 = .ok (.getfield 48, 3) := by decide +kernel
theorem dX1_gather_54 : decode cX1_gather 54 = .ok (.if_icmp .ge 27, 3) := by decide +kernel
theorem dX1_gather_57 : decode cX1_gather 57 = .ok (.aload_n 0, 1) := by decide +kernel
theorem dX1_gather_58 : decode cX1_gather 58 = .ok (.aload_n 1, 1) := by decide +kernel
theorem dX1_gather_59 : decode cX1_gather 59 = .ok (.iload_n 2, 1) := by decide +kernel
theorem dX1_gather_60 : decode cX1_gather 60 = .ok (.invokevirtual 68, 3) := by decide +kernel
theorem dX1_gather_63 : decode cX1_gather 63 = .ok (.ifCond .ge 11, 3) := by decide +kernel
theorem dX1_gather_66 : decode cX1_gather 66 = .ok (.aload_n 1, 1) := by decide +kernel
theorem dX1_gather_67 : decode cX1_gather 67 = .ok (.iload_n 2, 1) := by decide +kernel
theorem dX1_gather_68 : decode cX1_gather 68 = .ok (.invokevirtual 71, 3) := by decide +kernel
theorem dX1_gather_71 : decode cX1_gather 71 = .ok (.goto 5, 3) := by decide +kernel
theorem dX1_gather_74 : decode cX1_gather 74 = .ok (.bipush 28, 2) := by decide +kernel
theorem dX1_gather_76 : decode cX1_gather 76 = .ok (.iload_n 2, 1) := by decide +kernel
theorem dX1_gather_77 : decode cX1_gather 77 = .ok (.iconst 1, 1) := by decide +kernel
theorem dX1_gather_78 : decode cX1_gather 78 = .ok (.invokevirtual 64, 3) := by decide +kernel
theorem dX1_gather_81 : decode cX1_gather 81 = .ok (.iinc 2 1, 3) := by decide +kernel
theorem dX1_gather_84 : decode cX1_gather 84 = .ok (.goto (-77), 3) := by decide +kernel
theorem dX1_gather_87 : decode cX1_gather 87 = .ok (.return_, 1) := by decide +kernel
theorem dX1_addItem_0 : decode cX1_addItem 0 = .ok (.aload_n 0, 1) := by decide +kernel
theorem dX1_addItem_1 : decode cX1_addItem 1 = .ok (.getfield 45, 3) := by decide +kernel
theorem dX1_addItem_4 : decode cX1_addItem 4 = .ok (.ifCond .lt 12, 3) := by decide +kernel
theorem dX1_addItem_7 : decode cX1_addItem 7 = .ok (.aload_n 0, 1) := by decide +kernel
theorem dX1_addItem_8 : decode cX1_addItem 8 = .ok (.getfield 45, 3) := by decide +kernel
theorem dX1_addItem_11 : decode cX1_addItem 11 = .ok (.bipush 44, 2) := by decide +kernel
theorem dX1_addItem_13 : decode cX1_addItem 13 = .ok (.if_icmp .lt 4, 3) := by decide +kernel
theorem dX1_addItem_16 : decode cX1_addItem 16 = .ok (.return_, 1) := by decide +kernel
theorem dX1_addItem_17 : decode cX1_addItem 17 = .ok (.aload_n 0, 1) := by decide +kernel
theorem dX1_addItem_18 : decode cX1_addItem 18 = .ok (.getfield 9, 3) := by decide +kernel
theorem dX1_addItem_21 : decode cX1_addItem 21 = .ok (.aload_n 0, 1) := by decide +kernel
theorem dX1_addItem_22 : decode cX1_addItem 22 = .ok (.getfield 45, 3) := by decide +kernel
theorem dX1_addItem_25 : decode cX1_addItem 25 = .ok (.iload_n 1, 1) := by decide +kernel
theorem dX1_addItem_26 : decode cX1_addItem 26 = .ok (.iastore, 1) := by decide +kernel
theorem dX1_addItem_27 : decode cX1_addItem 27 = .ok (.aload_n 0, 1) := by decide +kernel
theorem dX1_addItem_28 : decode cX1_addItem 28 = .ok (.getfield 15, 3) := by decide +kernel
theorem dX1_addItem_31 : decode cX1_addItem 31 = .ok (.aload_n 0, 1) := by decide +kernel
theorem dX1_addItem_32 : decode cX1_addItem 32 = .ok (.getfield 45, 3) := by decide +kernel
theorem dX1_addItem_35 : decode cX1_addItem 35 = .ok (.iload_n 2, 1) := by decide +kernel
theorem dX1_addItem_36 : decode cX1_addItem 36 = .ok (.iastore, 1) := by decide +kernel
theorem dX1_addItem_37 : decode cX1_addItem 37 = .ok (.aload_n 0, 1) := by decide +kernel
theorem dX1_addItem_38 : decode cX1_addItem 38 = .ok (.getfield 24, 3) := by decide +kernel
theorem dX1_addItem_41 : decode cX1_addItem 41 = .ok (.aload_n 0, 1) := by decide +kernel
theorem dX1_addItem_42 : decode cX1_addItem 42 = .ok (.getfield 45, 3) := by decide +kernel
theorem dX1_addItem_45 : decode cX1_addItem 45 = .ok (.iload_n 3, 1) := by decide +kernel
theorem dX1_addItem_46 : decode cX1_addItem 46 = .ok (.iastore, 1) := by decide +kernel
theorem dX1_addItem_47 : decode cX1_addItem 47 = .ok (.aload_n 0, 1) := by decide +kernel
theorem dX1_addItem_48 : decode cX1_addItem 48 = .ok (.dup, 1) := by decide +kernel
theorem dX1_addItem_49 : decode cX1_addItem 49 = .ok (.getfield 45, 3) := by decide +kernel
theorem dX1_addItem_52 : decode cX1_addItem 52 = .ok (.iconst 1, 1) := by decide +kernel
theorem dX1_addItem_53 : decode cX1_addItem 53 = .ok (.iadd, 1) := by decide +kernel
theorem dX1_addItem_54 : decode cX1_addItem 54 = .ok (.putfield 45, 3) := by decide +kernel
theorem dX1_addItem_57 : decode cX1_addItem 57 = .ok (.return_, 1) := by decide +kernel
theorem dX1_flow_0 : decode cX1_flow 0 = .ok (.aload_n 0, 1) := by decide +kernel
theorem dX1_flow_1 : decode cX1_flow 1 = .ok (.iconst 0, 1) := by decide +kernel
theorem dX1_flow_2 : decode cX1_flow 2 = .ok (.putfield 41, 3) := by decide +kernel
theorem dX1_flow_5 : decode cX1_flow 5 = .ok (.aload_n 0, 1) := by decide +kernel
theorem dX1_flow_6 : decode cX1_flow 6 = .ok (.iconst 1, 1) := by decide +kernel
theorem dX1_flow_7 : decode cX1_flow 7 = .ok (.invokevirtual 74, 3) := by decide +kernel
theorem dX1_flow_10 : decode cX1_flow 10 = .ok (.iconst 0, 1) := by decide +kernel
theorem dX1_flow_11 : decode cX1_flow 11 = .ok (.istore_n 2, 1) := by decide +kernel
theorem dX1_flow_12 : decode cX1_flow 12 = .ok (.iconst 0, 1) := by decide +kernel
theorem dX1_flow_13 : decode cX1_flow 13 = .ok (.istore_n 3, 1) := by decide +kernel
theorem dX1_flow_14 : decode cX1_flow 14 = .ok (.iload_n 3, 1) := by decide +kernel
theorem dX1_flow_15 : decode cX1_flow 15 = .ok (.aload_n 0, 1) := by decide +kernel
theorem dX1_flow_16 : decode cX1_flow 16 = .ok (.getfield 45, 3) := by decide +kernel
theorem dX1_flow_19 : decode cX1_flow 19 = .ok (.if_icmp .ge 114, 3) := by decide +kernel
theorem dX1_flow_22 : decode cX1_flow 22 = .ok (.iload_n 2, 1) := by decide +kernel
theorem dX1_flow_23 : decode cX1_flow 23 = .ok (.ifCond .eq 25, 3) := by decide +kernel
theorem dX1_flow_26 : decode cX1_flow 26 = .ok (.aload_n 0, 1) := by decide +kernel
theorem dX1_flow_27 : decode cX1_flow 27 = .ok (.aload_n 1, 1) := by decide +kernel
theorem dX1_flow_28 : decode cX1_flow 28 = .ok (.iload_n 3, 1) := by decide +kernel
theorem dX1_flow_29 : decode cX1_flow 29 = .ok (.invokevirtual 78, 3) := by decide +kernel
theorem dX1_flow_32 : decode cX1_flow 32 = .ok (.ifCond .eq 16, 3) := by decide +kernel
theorem dX1_flow_35 : decode cX1_flow 35 = .ok (.aload_n 0, 1) := by decide +kernel
theorem dX1_flow_36 : decode cX1_flow 36 = .ok (.iconst 0, 1) := by decide +kernel
theorem dX1_flow_37 : decode cX1_flow 37 = .ok (.invokevirtual 74, 3) := by decide +kernel
theorem dX1_flow_40 : decode cX1_flow 40 = .ok (.aload_n 0, 1) := by decide +kernel
theorem dX1_flow_41 : decode cX1_flow 41 = .ok (.aload_n 1, 1) := by decide +kernel
theorem dX1_flow_42 : decode cX1_flow 42 = .ok (.getfield 82, 3) := by decide +kernel
theorem dX1_flow_45 : decode cX1_flow 45 = .ok (.putfield 85, 3) := by decide +kernel
theorem dX1_flow_48 : decode cX1_flow 48 = .ok (.aload_n 0, 1) := by decide +kernel
theorem dX1_flow_49 : decode cX1_flow 49 = .ok (.getfield 24, 3) := by decide +kernel
theorem dX1_flow_52 : decode cX1_flow 52 = .ok (.iload_n 3, 1) := by decide +kernel
theorem dX1_flow_53 : decode cX1_flow 53 = .ok (.aload_n 0, 1) := by decide +kernel
theorem dX1_flow_54 : decode cX1_flow 54 = .ok (.aload_n 1, 1) := by decide +kernel
theorem dX1_flow_55 : decode cX1_flow 55 = .ok (.iload_n 3, 1) := by decide +kernel
theorem dX1_flow_56 : decode cX1_flow 56 = .ok (.invokevirtual 88, 3) := by decide +kernel
theorem dX1_flow_59 : decode cX1_flow 59 = .ok (.iastore, 1) := by decide +kernel
theorem dX1_flow_60 : decode cX1_flow 60 = .ok (.aload_n 0, 1) := by decide +kernel
theorem dX1_flow_61 : decode cX1_flow 61 = .ok (.getfield 18, 3) := by decide +kernel
theorem dX1_flow_64 : decode cX1_flow 64 = .ok (.iload_n 3, 1) := by decide +kernel
theorem dX1_flow_65 : decode cX1_flow 65 = .ok (.aload_n 0, 1) := by decide +kernel
theorem dX1_flow_66 : decode cX1_flow 66 = .ok (.getfield 41, 3) := by decide +kernel
theorem dX1_flow_69 : decode cX1_flow 69 = .ok (.iconst 1, 1) := by decide +kernel
theorem dX1_flow_70 : decode cX1_flow 70 = .ok (.isub, 1) := by decide +kernel
theorem dX1_flow_71 : decode cX1_flow 71 = .ok (.iastore, 1) := by decide +kernel
theorem dX1_flow_72 : decode cX1_flow 72 = .ok (.aload_n 0, 1) := by decide +kernel
theorem dX1_flow_73 : decode cX1_flow 73 = .ok (.getfield 21, 3) := by decide +kernel
theorem dX1_flow_76 : decode cX1_flow 76 = .ok (.iload_n 3, 1) := by decide +kernel
theorem dX1_flow_77 : decode cX1_flow 77 = .ok (.aload_n 0, 1) := by decide +kernel
theorem dX1_flow_78 : decode cX1_flow 78 = .ok (.getfield 85, 3) := by decide +kernel
theorem dX1_flow_81 : decode cX1_flow 81 = .ok (.iastore, 1) := by decide +kernel
theorem dX1_flow_82 : decode cX1_flow 82 = .ok (.aload_n 0, 1) := by decide +kernel
theorem dX1_flow_83 : decode cX1_flow 83 = .ok (.dup, 1) := by decide +kernel
theorem dX1_flow_84 : decode cX1_flow 84 = .ok (.getfield 85, 3) := by decide +kernel
theorem dX1_flow_87 : decode cX1_flow 87 = .ok (.aload_n 0, 1) := by decide +kernel
theorem dX1_flow_88 : decode cX1_flow 88 = .ok (.getfield 24, 3) := by decide +kernel
theorem dX1_flow_91 : decode cX1_flow 91 = .ok (.iload_n 3, 1) := by decide +kernel
theorem dX1_flow_92 : decode cX1_flow 92 = .ok (.iaload, 1) := by decide +kernel
theorem dX1_flow_93 : decode cX1_flow 93 = .ok (.iadd, 1) := by decide +kernel
theorem dX1_flow_94 : decode cX1_flow 94 = .ok (.putfield 85, 3) := by decide +kernel
theorem dX1_flow_97 : decode cX1_flow 97 = .ok (.aload_n 0, 1) := by decide +kernel
theorem dX1_flow_98 : decode cX1_flow 98 = .ok (.invokevirtual 92, 3) := by decide +kernel
theorem dX1_flow_101 : decode cX1_flow 101 = .ok (.aload_n 0, 1) := by decide +kernel
theorem dX1_flow_102 : decode cX1_flow 102 = .ok (.getfield 9, 3) := by decide +kernel
theorem dX1_flow_105 : decode cX1_flow 105 = .ok (.iload_n 3, 1) := by decide +kernel
theorem dX1_flow_106 : decode cX1_flow 106 = .ok (.iaload, 1) := by decide +kernel
theorem dX1_flow_107 : decode cX1_flow 107 = .ok (.bipush 27, 2) := by decide +kernel
theorem dX1_flow_109 : decode cX1_flow 109 = .ok (.if_icmp .eq 7, 3) := by decide +kernel
theorem dX1_flow_112 : decode cX1_flow 112 = .ok (.iconst 1, 1) := by decide +kernel
theorem dX1_flow_113 : decode cX1_flow 113 = .ok (.goto 4, 3) := by decide +kernel
theorem dX1_flow_116 : decode cX1_flow 116 = .ok (.iconst 0, 1) := by decide +kernel
theorem dX1_flow_117 : decode cX1_flow 117 = .ok (.istore_n 2, 1) := by decide +kernel
theorem dX1_flow_118 : decode cX1_flow 118 = .ok (.iload_n 2, 1) := by decide +kernel
theorem dX1_flow_119 : decode cX1_flow 119 = .ok (.ifCond .ne 8, 3) := by decide +kernel
theorem dX1_flow_122 : decode cX1_flow 122 = .ok (.aload_n 0, 1) := by decide +kernel
theorem dX1_flow_123 : decode cX1_flow 123 = .ok (.iconst 1, 1) := by decide +kernel
theorem dX1_flow_124 : decode cX1_flow 124 = .ok (.invokevirtual 74, 3) := by decide +kernel
theorem dX1_flow_127 : decode cX1_flow 127 = .ok (.iinc 3 1, 3) := by decide +kernel
theorem dX1_flow_130 : decode cX1_flow 130 = .ok (.goto (-116), 3) := by decide +kernel
theorem dX1_flow_133 : decode cX1_flow 133 = .ok (.return_, 1) := by decide +kernel
theorem dX1_openRow_0 : decode cX1_openRow 0 = .ok (.aload_n 0, 1) := by decide +kernel
theorem dX1_openRow_1 : decode cX1_openRow 1 = .ok (.getfield 41, 3) := by decide +kernel
theorem dX1_openRow_4 : decode cX1_openRow 4 = .ok (.ifCond .lt 12, 3) := by decide +kernel
theorem dX1_openRow_7 : decode cX1_openRow 7 = .ok (.aload_n 0, 1) := by decide +kernel
theorem dX1_openRow_8 : decode cX1_openRow 8 = .ok (.getfield 41, 3) := by decide +kernel
theorem dX1_openRow_11 : decode cX1_openRow 11 = .ok (.bipush 45, 2) := by decide +kernel
theorem dX1_openRow_13 : decode cX1_openRow 13 = .ok (.if_icmp .lt 4, 3) := by decide +kernel
theorem dX1_openRow_16 : decode cX1_openRow 16 = .ok (.return_, 1) := by decide +kernel
theorem dX1_openRow_17 : decode cX1_openRow 17 = .ok (.aload_n 0, 1) := by decide +kernel
theorem dX1_openRow_18 : decode cX1_openRow 18 = .ok (.getfield 30, 3) := by decide +kernel
theorem dX1_openRow_21 : decode cX1_openRow 21 = .ok (.aload_n 0, 1) := by decide +kernel
theorem dX1_openRow_22 : decode cX1_openRow 22 = .ok (.getfield 41, 3) := by decide +kernel
theorem dX1_openRow_25 : decode cX1_openRow 25 = .ok (.iload_n 1, 1) := by decide +kernel
theorem dX1_openRow_26 : decode cX1_openRow 26 = .ok (.bastore, 1) := by decide +kernel
theorem dX1_openRow_27 : decode cX1_openRow 27 = .ok (.aload_n 0, 1) := by decide +kernel
theorem dX1_openRow_28 : decode cX1_openRow 28 = .ok (.getfield 27, 3) := by decide +kernel
theorem dX1_openRow_31 : decode cX1_openRow 31 = .ok (.aload_n 0, 1) := by decide +kernel
theorem dX1_openRow_32 : decode cX1_openRow 32 = .ok (.getfield 41, 3) := by decide +kernel
theorem dX1_openRow_35 : decode cX1_openRow 35 = .ok (.iconst 0, 1) := by decide +kernel
theorem dX1_openRow_36 : decode cX1_openRow 36 = .ok (.iastore, 1) := by decide +kernel
theorem dX1_openRow_37 : decode cX1_openRow 37 = .ok (.aload_n 0, 1) := by decide +kernel
theorem dX1_openRow_38 : decode cX1_openRow 38 = .ok (.dup, 1) := by decide +kernel
theorem dX1_openRow_39 : decode cX1_openRow 39 = .ok (.getfield 41, 3) := by decide +kernel
theorem dX1_openRow_42 : decode cX1_openRow 42 = .ok (.iconst 1, 1) := by decide +kernel
theorem dX1_openRow_43 : decode cX1_openRow 43 = .ok (.iadd, 1) := by decide +kernel
theorem dX1_openRow_44 : decode cX1_openRow 44 = .ok (.putfield 41, 3) := by decide +kernel
theorem dX1_openRow_47 : decode cX1_openRow 47 = .ok (.aload_n 0, 1) := by decide +kernel
theorem dX1_openRow_48 : decode cX1_openRow 48 = .ok (.iconst 0, 1) := by decide +kernel
theorem dX1_openRow_49 : decode cX1_openRow 49 = .ok (.putfield 85, 3) := by decide +kernel
theorem dX1_openRow_52 : decode cX1_openRow 52 = .ok (.return_, 1) := by decide +kernel
theorem dX1_closeRow_0 : decode cX1_closeRow 0 = .ok (.aload_n 0, 1) := by decide +kernel
theorem dX1_closeRow_1 : decode cX1_closeRow 1 = .ok (.getfield 41, 3) := by decide +kernel
theorem dX1_closeRow_4 : decode cX1_closeRow 4 = .ok (.iconst 1, 1) := by decide +kernel
theorem dX1_closeRow_5 : decode cX1_closeRow 5 = .ok (.if_icmp .lt 27, 3) := by decide +kernel
theorem dX1_closeRow_8 : decode cX1_closeRow 8 = .ok (.aload_n 0, 1) := by decide +kernel
theorem dX1_closeRow_9 : decode cX1_closeRow 9 = .ok (.getfield 41, 3) := by decide +kernel
theorem dX1_closeRow_12 : decode cX1_closeRow 12 = .ok (.bipush 45, 2) := by decide +kernel
theorem dX1_closeRow_14 : decode cX1_closeRow 14 = .ok (.if_icmp .gt 18, 3) := by decide +kernel
theorem dX1_closeRow_17 : decode cX1_closeRow 17 = .ok (.aload_n 0, 1) := by decide +kernel
theorem dX1_closeRow_18 : decode cX1_closeRow 18 = .ok (.getfield 27, 3) := by decide +kernel
theorem dX1_closeRow_21 : decode cX1_closeRow 21 = .ok (.aload_n 0, 1) := by decide +kernel
theorem dX1_closeRow_22 : decode cX1_closeRow 22 = .ok (.getfield 41, 3) := by decide +kernel
theorem dX1_closeRow_25 : decode cX1_closeRow 25 = .ok (.iconst 1, 1) := by decide +kernel
theorem dX1_closeRow_26 : decode cX1_closeRow 26 = .ok (.isub, 1) := by decide +kernel
theorem dX1_closeRow_27 : decode cX1_closeRow 27 = .ok (.aload_n 0, 1) := by decide +kernel
theorem dX1_closeRow_28 : decode cX1_closeRow 28 = .ok (.getfield 85, 3) := by decide +kernel
theorem dX1_closeRow_31 : decode cX1_closeRow 31 = .ok (.iastore, 1) := by decide +kernel
theorem dX1_closeRow_32 : decode cX1_closeRow 32 = .ok (.return_, 1) := by decide +kernel
theorem dX1_goesOn_0 : decode cX1_goesOn 0 = .ok (.aload_n 1, 1) := by decide +kernel
theorem dX1_goesOn_1 : decode cX1_goesOn 1 = .ok (.getfield 95, 3) := by decide +kernel
theorem dX1_goesOn_4 : decode cX1_goesOn 4 = .ok (.iconst 1, 1) := by decide +kernel
theorem dX1_goesOn_5 : decode cX1_goesOn 5 = .ok (.if_icmp .eq 11, 3) := by decide +kernel
theorem dX1_goesOn_8 : decode cX1_goesOn 8 = .ok (.aload_n 1, 1) := by decide +kernel
theorem dX1_goesOn_9 : decode cX1_goesOn 9 = .ok (.getfield 95, 3) := by decide +kernel
theorem dX1_goesOn_12 : decode cX1_goesOn 12 = .ok (.iconst 2, 1) := by decide +kernel
theorem dX1_goesOn_13 : decode cX1_goesOn 13 = .ok (.if_icmp .ne 14, 3) := by decide +kernel
theorem dX1_goesOn_16 : decode cX1_goesOn 16 = .ok (.aload_n 0, 1) := by decide +kernel
theorem dX1_goesOn_17 : decode cX1_goesOn 17 = .ok (.getfield 9, 3) := by decide +kernel
theorem dX1_goesOn_20 : decode cX1_goesOn 20 = .ok (.iload_n 2, 1) := by decide +kernel
theorem dX1_goesOn_21 : decode cX1_goesOn 21 = .ok (.iaload, 1) := by decide +kernel
theorem dX1_goesOn_22 : decode cX1_goesOn 22 = .ok (.bipush 27, 2) := by decide +kernel
theorem dX1_goesOn_24 : decode cX1_goesOn 24 = .ok (.if_icmp .ne 5, 3) := by decide +kernel
theorem dX1_goesOn_27 : decode cX1_goesOn 27 = .ok (.iconst 0, 1) := by decide +kernel
theorem dX1_goesOn_28 : decode cX1_goesOn 28 = .ok (.ireturn, 1) := by decide +kernel
theorem dX1_goesOn_29 : decode cX1_goesOn 29 = .ok (.aload_n 0, 1) := by decide +kernel
theorem dX1_goesOn_30 : decode cX1_goesOn 30 = .ok (.getfield 85, 3) := by decide +kernel
theorem dX1_goesOn_33 : decode cX1_goesOn 33 = .ok (.aload_n 0, 1) := by decide +kernel
theorem dX1_goesOn_34 : decode cX1_goesOn 34 = .ok (.aload_n 1, 1) := by decide +kernel
theorem dX1_goesOn_35 : decode cX1_goesOn 35 = .ok (.iload_n 2, 1) := by decide +kernel
theorem dX1_goesOn_36 : decode cX1_goesOn 36 = .ok (.invokevirtual 88, 3) := by decide +kernel
theorem dX1_goesOn_39 : decode cX1_goesOn 39 = .ok (.iadd, 1) := by decide +kernel
theorem dX1_goesOn_40 : decode cX1_goesOn 40 = .ok (.aload_n 1, 1) := by decide +kernel
theorem dX1_goesOn_41 : decode cX1_goesOn 41 = .ok (.getfield 98, 3) := by decide +kernel
theorem dX1_goesOn_44 : decode cX1_goesOn 44 = .ok (.if_icmp .le 5, 3) := by decide +kernel
theorem dX1_goesOn_47 : decode cX1_goesOn 47 = .ok (.iconst 1, 1) := by decide +kernel
theorem dX1_goesOn_48 : decode cX1_goesOn 48 = .ok (.ireturn, 1) := by decide +kernel
theorem dX1_goesOn_49 : decode cX1_goesOn 49 = .ok (.aload_n 1, 1) := by decide +kernel
theorem dX1_goesOn_50 : decode cX1_goesOn 50 = .ok (.getfield 95, 3) := by decide +kernel
theorem dX1_goesOn_53 : decode cX1_goesOn 53 = .ok (.iconst 2, 1) := by decide +kernel
theorem dX1_goesOn_54 : decode cX1_goesOn 54 = .ok (.if_icmp .ne 11, 3) := by decide +kernel
theorem dX1_goesOn_57 : decode cX1_goesOn 57 = .ok (.aload_n 0, 1) := by decide +kernel
theorem dX1_goesOn_58 : decode cX1_goesOn 58 = .ok (.iload_n 2, 1) := by decide +kernel
theorem dX1_goesOn_59 : decode cX1_goesOn 59 = .ok (.invokevirtual 101, 3) := by decide +kernel
theorem dX1_goesOn_62 : decode cX1_goesOn 62 = .ok (.ifCond .ne 5, 3) := by decide +kernel
theorem dX1_goesOn_65 : decode cX1_goesOn 65 = .ok (.iconst 0, 1) := by decide +kernel
theorem dX1_goesOn_66 : decode cX1_goesOn 66 = .ok (.ireturn, 1) := by decide +kernel
theorem dX1_goesOn_67 : decode cX1_goesOn 67 = .ok (.aload_n 0, 1) := by decide +kernel
theorem dX1_goesOn_68 : decode cX1_goesOn 68 = .ok (.iload_n 2, 1) := by decide +kernel
theorem dX1_goesOn_69 : decode cX1_goesOn 69 = .ok (.invokevirtual 104, 3) := by decide +kernel
theorem dX1_goesOn_72 : decode cX1_goesOn 72 = .ok (.istore_n 3, 1) := by decide +kernel
theorem dX1_goesOn_73 : decode cX1_goesOn 73 = .ok (.aload_n 0, 1) := by decide +kernel
theorem dX1_goesOn_74 : decode cX1_goesOn 74 = .ok (.getfield 85, 3) := by decide +kernel
theorem dX1_goesOn_77 : decode cX1_goesOn 77 = .ok (.iload_n 3, 1) := by decide +kernel
theorem dX1_goesOn_78 : decode cX1_goesOn 78 = .ok (.iadd, 1) := by decide +kernel
theorem dX1_goesOn_79 : decode cX1_goesOn 79 = .ok (.aload_n 1, 1) := by decide +kernel
theorem dX1_goesOn_80 : decode cX1_goesOn 80 = .ok (.getfield 98, 3) := by decide +kernel
theorem dX1_goesOn_83 : decode cX1_goesOn 83 = .ok (.if_icmp .le 20, 3) := by decide +kernel
theorem dX1_goesOn_86 : decode cX1_goesOn 86 = .ok (.iload_n 3, 1) := by decide +kernel
theorem dX1_goesOn_87 : decode cX1_goesOn 87 = .ok (.aload_n 1, 1) := by decide +kernel
theorem dX1_goesOn_88 : decode cX1_goesOn 88 = .ok (.getfield 98, 3) := by decide +kernel
theorem dX1_goesOn_91 : decode cX1_goesOn 91 = .ok (.aload_n 1, 1) := by decide +kernel
theorem dX1_goesOn_92 : decode cX1_goesOn 92 = .ok (.getfield 82, 3) := by decide +kernel
theorem dX1_goesOn_95 : decode cX1_goesOn 95 = .ok (.isub, 1) := by decide +kernel
theorem dX1_goesOn_96 : decode cX1_goesOn 96 = .ok (.if_icmp .gt 7, 3) := by decide +kernel
theorem dX1_goesOn_99 : decode cX1_goesOn 99 = .ok (.iconst 1, 1) := by decide +kernel
theorem dX1_goesOn_100 : decode cX1_goesOn 100 = .ok (.goto 4, 3) := by decide +kernel
theorem dX1_goesOn_103 : decode cX1_goesOn 103 = .ok (.iconst 0, 1) := by decide +kernel
theorem dX1_goesOn_104 : decode cX1_goesOn 104 = .ok (.ireturn, 1) := by decide +kernel
theorem dX1_widthOf_0 : decode cX1_widthOf 0 = .ok (.aload_n 0, 1) := by decide +kernel
theorem dX1_widthOf_1 : decode cX1_widthOf 1 = .ok (.getfield 9, 3) := by decide +kernel
theorem dX1_widthOf_4 : decode cX1_widthOf 4 = .ok (.iload_n 2, 1) := by decide +kernel
theorem dX1_widthOf_5 : decode cX1_widthOf 5 = .ok (.iaload, 1) := by decide +kernel
theorem dX1_widthOf_6 : decode cX1_widthOf 6 = .ok (.bipush 27, 2) := by decide +kernel
theorem dX1_widthOf_8 : decode cX1_widthOf 8 = .ok (.if_icmp .ne 5, 3) := by decide +kernel
theorem dX1_widthOf_11 : decode cX1_widthOf 11 = .ok (.iconst 0, 1) := by decide +kernel
theorem dX1_widthOf_12 : decode cX1_widthOf 12 = .ok (.ireturn, 1) := by decide +kernel
theorem dX1_widthOf_13 : decode cX1_widthOf 13 = .ok (.aload_n 0, 1) := by decide +kernel
theorem dX1_widthOf_14 : decode cX1_widthOf 14 = .ok (.getfield 9, 3) := by decide +kernel
theorem dX1_widthOf_17 : decode cX1_widthOf 17 = .ok (.iload_n 2, 1) := by decide +kernel
theorem dX1_widthOf_18 : decode cX1_widthOf 18 = .ok (.iaload, 1) := by decide +kernel
theorem dX1_widthOf_19 : decode cX1_widthOf 19 = .ok (.bipush 26, 2) := by decide +kernel
theorem dX1_widthOf_21 : decode cX1_widthOf 21 = .ok (.if_icmp .eq 10, 3) := by decide +kernel
theorem dX1_widthOf_24 : decode cX1_widthOf 24 = .ok (.aload_n 0, 1) := by decide +kernel
theorem dX1_widthOf_25 : decode cX1_widthOf 25 = .ok (.getfield 24, 3) := by decide +kernel
theorem dX1_widthOf_28 : decode cX1_widthOf 28 = .ok (.iload_n 2, 1) := by decide +kernel
theorem dX1_widthOf_29 : decode cX1_widthOf 29 = .ok (.iaload, 1) := by decide +kernel
theorem dX1_widthOf_30 : decode cX1_widthOf 30 = .ok (.ireturn, 1) := by decide +kernel
theorem dX1_widthOf_31 : decode cX1_widthOf 31 = .ok (.aload_n 1, 1) := by decide +kernel
theorem dX1_widthOf_32 : decode cX1_widthOf 32 = .ok (.getfield 107, 3) := by decide +kernel
theorem dX1_widthOf_35 : decode cX1_widthOf 35 = .ok (.iconst 1, 1) := by decide +kernel
theorem dX1_widthOf_36 : decode cX1_widthOf 36 = .ok (.if_icmp .ge 7, 3) := by decide +kernel
theorem dX1_widthOf_39 : decode cX1_widthOf 39 = .ok (.iconst 1, 1) := by decide +kernel
theorem dX1_widthOf_40 : decode cX1_widthOf 40 = .ok (.goto 17, 3) := by decide +kernel
theorem dX1_widthOf_43 : decode cX1_widthOf 43 = .ok (.aload_n 1, 1) := by decide +kernel
theorem dX1_widthOf_44 : decode cX1_widthOf 44 = .ok (.getfield 107, 3) := by decide +kernel
theorem dX1_widthOf_47 : decode cX1_widthOf 47 = .ok (.aload_n 0, 1) := by decide +kernel
theorem dX1_widthOf_48 : decode cX1_widthOf 48 = .ok (.getfield 85, 3) := by decide +kernel
theorem dX1_widthOf_51 : decode cX1_widthOf 51 = .ok (.aload_n 1, 1) := by decide +kernel
theorem dX1_widthOf_52 : decode cX1_widthOf 52 = .ok (.getfield 107, 3) := by decide +kernel
theorem dX1_widthOf_55 : decode cX1_widthOf 55 = .ok (.irem, 1) := by decide +kernel
theorem dX1_widthOf_56 : decode cX1_widthOf 56 = .ok (.isub, 1) := by decide +kernel
theorem dX1_widthOf_57 : decode cX1_widthOf 57 = .ok (.ireturn, 1) := by decide +kernel
theorem dX1_isOfWord_0 : decode cX1_isOfWord 0 = .ok (.aload_n 0, 1) := by decide +kernel
theorem dX1_isOfWord_1 : decode cX1_isOfWord 1 = .ok (.getfield 9, 3) := by decide +kernel
theorem dX1_isOfWord_4 : decode cX1_isOfWord 4 = .ok (.iload_n 1, 1) := by decide +kernel
theorem dX1_isOfWord_5 : decode cX1_isOfWord 5 = .ok (.iaload, 1) := by decide +kernel
theorem dX1_isOfWord_6 : decode cX1_isOfWord 6 = .ok (.bipush 26, 2) := by decide +kernel
theorem dX1_isOfWord_8 : decode cX1_isOfWord 8 = .ok (.if_icmp .eq 18, 3) := by decide +kernel
theorem dX1_isOfWord_11 : decode cX1_isOfWord 11 = .ok (.aload_n 0, 1) := by decide +kernel
theorem dX1_isOfWord_12 : decode cX1_isOfWord 12 = .ok (.getfield 9, 3) := by decide +kernel
theorem dX1_isOfWord_15 : decode cX1_isOfWord 15 = .ok (.iload_n 1, 1) := by decide +kernel
theorem dX1_isOfWord_16 : decode cX1_isOfWord 16 = .ok (.iaload, 1) := by decide +kernel
theorem dX1_isOfWord_17 : decode cX1_isOfWord 17 = .ok (.bipush 27, 2) := by decide +kernel
theorem dX1_isOfWord_19 : decode cX1_isOfWord 19 = .ok (.if_icmp .eq 7, 3) := by decide +kernel
theorem dX1_isOfWord_22 : decode cX1_isOfWord 22 = .ok (.iconst 1, 1) := by decide +kernel
theorem dX1_isOfWord_23 : decode cX1_isOfWord 23 = .ok (.goto 4, 3) := by decide +kernel
theorem dX1_isOfWord_26 : decode cX1_isOfWord 26 = .ok (.iconst 0, 1) := by decide +kernel
theorem dX1_isOfWord_27 : decode cX1_isOfWord 27 = .ok (.ireturn, 1) := by decide +kernel
theorem dX1_startsWord_0 : decode cX1_startsWord 0 = .ok (.aload_n 0, 1) := by decide +kernel
theorem dX1_startsWord_1 : decode cX1_startsWord 1 = .ok (.iload_n 1, 1) := by decide +kernel
theorem dX1_startsWord_2 : decode cX1_startsWord 2 = .ok (.invokevirtual 110, 3) := by decide +kernel
theorem dX1_startsWord_5 : decode cX1_startsWord 5 = .ok (.ifCond .eq 21, 3) := by decide +kernel
theorem dX1_startsWord_8 : decode cX1_startsWord 8 = .ok (.iload_n 1, 1) := by decide +kernel
theorem dX1_startsWord_9 : decode cX1_startsWord 9 = .ok (.ifCond .eq 13, 3) := by decide +kernel
theorem dX1_startsWord_12 : decode cX1_startsWord 12 = .ok (.aload_n 0, 1) := by decide +kernel
theorem dX1_startsWord_13 : decode cX1_startsWord 13 = .ok (.iload_n 1, 1) := by decide +kernel
theorem dX1_startsWord_14 : decode cX1_startsWord 14 = .ok (.iconst 1, 1) := by decide +kernel
theorem dX1_startsWord_15 : decode cX1_startsWord 15 = .ok (.isub, 1) := by decide +kernel
theorem dX1_startsWord_16 : decode cX1_startsWord 16 = .ok (.invokevirtual 110, 3) := by decide +kernel
theorem dX1_startsWord_19 : decode cX1_startsWord 19 = .ok (.ifCond .ne 7, 3) := by decide +kernel
theorem dX1_startsWord_22 : decode cX1_startsWord 22 = .ok (.iconst 1, 1) := by decide +kernel
theorem dX1_startsWord_23 : decode cX1_startsWord 23 = .ok (.goto 4, 3) := by decide +kernel
theorem dX1_startsWord_26 : decode cX1_startsWord 26 = .ok (.iconst 0, 1) := by decide +kernel
theorem dX1_startsWord_27 : decode cX1_startsWord 27 = .ok (.ireturn, 1) := by decide +kernel
theorem dX1_wordWidth_0 : decode cX1_wordWidth 0 = .ok (.iconst 0, 1) := by decide +kernel
theorem dX1_wordWidth_1 : decode cX1_wordWidth 1 = .ok (.istore_n 2, 1) := by decide +kernel
theorem dX1_wordWidth_2 : decode cX1_wordWidth 2 = .ok (.iload_n 1, 1) := by decide +kernel
theorem dX1_wordWidth_3 : decode cX1_wordWidth 3 = .ok (.istore_n 3, 1) := by decide +kernel
theorem dX1_wordWidth_4 : decode cX1_wordWidth 4 = .ok (.iload_n 3, 1) := by decide +kernel
theorem dX1_wordWidth_5 : decode cX1_wordWidth 5 = .ok (.aload_n 0, 1) := by decide +kernel
theorem dX1_wordWidth_6 : decode cX1_wordWidth 6 = .ok (.getfield 45, 3) := by decide +kernel
theorem dX1_wordWidth_9 : decode cX1_wordWidth 9 = .ok (.if_icmp .ge 26, 3) := by decide +kernel
theorem dX1_wordWidth_12 : decode cX1_wordWidth 12 = .ok (.aload_n 0, 1) := by decide +kernel
theorem dX1_wordWidth_13 : decode cX1_wordWidth 13 = .ok (.iload_n 3, 1) := by decide +kernel
theorem dX1_wordWidth_14 : decode cX1_wordWidth 14 = .ok (.invokevirtual 110, 3) := by decide +kernel
theorem dX1_wordWidth_17 : decode cX1_wordWidth 17 = .ok (.ifCond .eq 18, 3) := by decide +kernel
theorem dX1_wordWidth_20 : decode cX1_wordWidth 20 = .ok (.iload_n 2, 1) := by decide +kernel
theorem dX1_wordWidth_21 : decode cX1_wordWidth 21 = .ok (.aload_n 0, 1) := by decide +kernel
theorem dX1_wordWidth_22 : decode cX1_wordWidth 22 = .ok (.getfield 24, 3) := by decide +kernel
theorem dX1_wordWidth_25 : decode cX1_wordWidth 25 = .ok (.iload_n 3, 1) := by decide +kernel
theorem dX1_wordWidth_26 : decode cX1_wordWidth 26 = .ok (.iaload, 1) := by decide +kernel
theorem dX1_wordWidth_27 : decode cX1_wordWidth 27 = .ok (.iadd, 1) := by decide +kernel
theorem dX1_wordWidth_28 : decode cX1_wordWidth 28 = .ok (.istore_n 2, 1) := by decide +kernel
theorem dX1_wordWidth_29 : decode cX1_wordWidth 29 = .ok (.iinc 3 1, 3) := by decide +kernel
theorem dX1_wordWidth_32 : decode cX1_wordWidth 32 = .ok (.goto (-28), 3) := by decide +kernel
theorem dX1_wordWidth_35 : decode cX1_wordWidth 35 = .ok (.iload_n 2, 1) := by decide +kernel
theorem dX1_wordWidth_36 : decode cX1_wordWidth 36 = .ok (.ireturn, 1) := by decide +kernel
theorem dX1_hasRow_0 : decode cX1_hasRow 0 = .ok (.iload_n 1, 1) := by decide +kernel
theorem dX1_hasRow_1 : decode cX1_hasRow 1 = .ok (.ifCond .lt 15, 3) := by decide +kernel
theorem dX1_hasRow_4 : decode cX1_hasRow 4 = .ok (.iload_n 1, 1) := by decide +kernel
theorem dX1_hasRow_5 : decode cX1_hasRow 5 = .ok (.aload_n 0, 1) := by decide +kernel
theorem dX1_hasRow_6 : decode cX1_hasRow 6 = .ok (.getfield 41, 3) := by decide +kernel
theorem dX1_hasRow_9 : decode cX1_hasRow 9 = .ok (.if_icmp .ge 7, 3) := by decide +kernel
theorem dX1_hasRow_12 : decode cX1_hasRow 12 = .ok (.iconst 1, 1) := by decide +kernel
theorem dX1_hasRow_13 : decode cX1_hasRow 13 = .ok (.goto 4, 3) := by decide +kernel
theorem dX1_hasRow_16 : decode cX1_hasRow 16 = .ok (.iconst 0, 1) := by decide +kernel
theorem dX1_hasRow_17 : decode cX1_hasRow 17 = .ok (.ireturn, 1) := by decide +kernel
theorem dX1_longestRow_0 : decode cX1_longestRow 0 = .ok (.iconst 0, 1) := by decide +kernel
theorem dX1_longestRow_1 : decode cX1_longestRow 1 = .ok (.istore_n 1, 1) := by decide +kernel
theorem dX1_longestRow_2 : decode cX1_longestRow 2 = .ok (.iconst 0, 1) := by decide +kernel
theorem dX1_longestRow_3 : decode cX1_longestRow 3 = .ok (.istore_n 2, 1) := by decide +kernel
theorem dX1_longestRow_4 : decode cX1_longestRow 4 = .ok (.iload_n 2, 1) := by decide +kernel
theorem dX1_longestRow_5 : decode cX1_longestRow 5 = .ok (.aload_n 0, 1) := by decide +kernel
theorem dX1_longestRow_6 : decode cX1_longestRow 6 = .ok (.getfield 41, 3) := by decide +kernel
theorem dX1_longestRow_9 : decode cX1_longestRow 9 = .ok (.if_icmp .ge 20, 3) := by decide +kernel
theorem dX1_longestRow_12 : decode cX1_longestRow 12 = .ok (.iload_n 1, 1) := by decide +kernel
theorem dX1_longestRow_13 : decode cX1_longestRow 13 = .ok (.aload_n 0, 1) := by decide +kernel
theorem dX1_longestRow_14 : decode cX1_longestRow 14 = .ok (.getfield 27, 3) := by decide +kernel
theorem dX1_longestRow_17 : decode cX1_longestRow 17 = .ok (.iload_n 2, 1) := by decide +kernel
theorem dX1_longestRow_18 : decode cX1_longestRow 18 = .ok (.iaload, 1) := by decide +kernel
theorem dX1_longestRow_19 : decode cX1_longestRow 19 = .ok (.invokestatic 113, 3) := by decide +kernel
theorem dX1_longestRow_22 : decode cX1_longestRow 22 = .ok (.istore_n 1, 1) := by decide +kernel
theorem dX1_longestRow_23 : decode cX1_longestRow 23 = .ok (.iinc 2 1, 3) := by decide +kernel
theorem dX1_longestRow_26 : decode cX1_longestRow 26 = .ok (.goto (-22), 3) := by decide +kernel
theorem dX1_longestRow_29 : decode cX1_longestRow 29 = .ok (.iload_n 1, 1) := by decide +kernel
theorem dX1_longestRow_30 : decode cX1_longestRow 30 = .ok (.ireturn, 1) := by decide +kernel
theorem dX1_itemOf_0 : decode cX1_itemOf 0 = .ok (.iconst 0, 1) := by decide +kernel
theorem dX1_itemOf_1 : decode cX1_itemOf 1 = .ok (.istore_n 2, 1) := by decide +kernel
theorem dX1_itemOf_2 : decode cX1_itemOf 2 = .ok (.iload_n 2, 1) := by decide +kernel
theorem dX1_itemOf_3 : decode cX1_itemOf 3 = .ok (.aload_n 0, 1) := by decide +kernel
theorem dX1_itemOf_4 : decode cX1_itemOf 4 = .ok (.getfield 45, 3) := by decide +kernel
theorem dX1_itemOf_7 : decode cX1_itemOf 7 = .ok (.if_icmp .ge 32, 3) := by decide +kernel
theorem dX1_itemOf_10 : decode cX1_itemOf 10 = .ok (.aload_n 0, 1) := by decide +kernel
theorem dX1_itemOf_11 : decode cX1_itemOf 11 = .ok (.getfield 15, 3) := by decide +kernel
theorem dX1_itemOf_14 : decode cX1_itemOf 14 = .ok (.iload_n 2, 1) := by decide +kernel
theorem dX1_itemOf_15 : decode cX1_itemOf 15 = .ok (.iaload, 1) := by decide +kernel
theorem dX1_itemOf_16 : decode cX1_itemOf 16 = .ok (.iload_n 1, 1) := by decide +kernel
theorem dX1_itemOf_17 : decode cX1_itemOf 17 = .ok (.if_icmp .ne 16, 3) := by decide +kernel
theorem dX1_itemOf_20 : decode cX1_itemOf 20 = .ok (.aload_n 0, 1) := by decide +kernel
theorem dX1_itemOf_21 : decode cX1_itemOf 21 = .ok (.getfield 9, 3) := by decide +kernel
theorem dX1_itemOf_24 : decode cX1_itemOf 24 = .ok (.iload_n 2, 1) := by decide +kernel
theorem dX1_itemOf_25 : decode cX1_itemOf 25 = .ok (.iaload, 1) := by decide +kernel
theorem dX1_itemOf_26 : decode cX1_itemOf 26 = .ok (.bipush 29, 2) := by decide +kernel
theorem dX1_itemOf_28 : decode cX1_itemOf 28 = .ok (.if_icmp .eq 5, 3) := by decide +kernel
theorem dX1_itemOf_31 : decode cX1_itemOf 31 = .ok (.iload_n 2, 1) := by decide +kernel
theorem dX1_itemOf_32 : decode cX1_itemOf 32 = .ok (.ireturn, 1) := by decide +kernel
theorem dX1_itemOf_33 : decode cX1_itemOf 33 = .ok (.iinc 2 1, 3) := by decide +kernel
theorem dX1_itemOf_36 : decode cX1_itemOf 36 = .ok (.goto (-34), 3) := by decide +kernel
theorem dX1_itemOf_39 : decode cX1_itemOf 39 = .ok (.iconst (-1), 1) := by decide +kernel
theorem dX1_itemOf_40 : decode cX1_itemOf 40 = .ok (.ireturn, 1) := by decide +kernel
theorem dX1_placeAt_0 : decode cX1_placeAt 0 = .ok (.iload_n 3, 1) := by decide +kernel
theorem dX1_placeAt_1 : decode cX1_placeAt 1 = .ok (.istore 4, 2) := by decide +kernel
theorem dX1_placeAt_3 : decode cX1_placeAt 3 = .ok (.iconst 0, 1) := by decide +kernel
theorem dX1_placeAt_4 : decode cX1_placeAt 4 = .ok (.istore 5, 2) := by decide +kernel
theorem dX1_placeAt_6 : decode cX1_placeAt 6 = .ok (.iload 5, 2) := by decide +kernel
theorem dX1_placeAt_8 : decode cX1_placeAt 8 = .ok (.aload_n 0, 1) := by decide +kernel
theorem dX1_placeAt_9 : decode cX1_placeAt 9 = .ok (.getfield 45, 3) := by decide +kernel
theorem dX1_placeAt_12 : decode cX1_placeAt 12 = .ok (.if_icmp .ge 66, 3) := by decide +kernel
theorem dX1_placeAt_15 : decode cX1_placeAt 15 = .ok (.aload_n 0, 1) := by decide +kernel
theorem dX1_placeAt_16 : decode cX1_placeAt 16 = .ok (.getfield 18, 3) := by decide +kernel
theorem dX1_placeAt_19 : decode cX1_placeAt 19 = .ok (.iload 5, 2) := by decide +kernel
theorem dX1_placeAt_21 : decode cX1_placeAt 21 = .ok (.iaload, 1) := by decide +kernel
theorem dX1_placeAt_22 : decode cX1_placeAt 22 = .ok (.iload_n 1, 1) := by decide +kernel
theorem dX1_placeAt_23 : decode cX1_placeAt 23 = .ok (.if_icmp .eq 6, 3) := by decide +kernel
theorem dX1_placeAt_26 : decode cX1_placeAt 26 = .ok (.goto 46, 3) := by decide +kernel
theorem dX1_placeAt_29 : decode cX1_placeAt 29 = .ok (.aload_n 0, 1) := by decide +kernel
theorem dX1_placeAt_30 : decode cX1_placeAt 30 = .ok (.getfield 15, 3) := by decide +kernel
theorem dX1_placeAt_33 : decode cX1_placeAt 33 = .ok (.iload 5, 2) := by decide +kernel
theorem dX1_placeAt_35 : decode cX1_placeAt 35 = .ok (.iaload, 1) := by decide +kernel
theorem dX1_placeAt_36 : decode cX1_placeAt 36 = .ok (.istore 4, 2) := by decide +kernel
theorem dX1_placeAt_38 : decode cX1_placeAt 38 = .ok (.iload_n 2, 1) := by decide +kernel
theorem dX1_placeAt_39 : decode cX1_placeAt 39 = .ok (.aload_n 0, 1) := by decide +kernel
theorem dX1_placeAt_40 : decode cX1_placeAt 40 = .ok (.getfield 21, 3) := by decide +kernel
theorem dX1_placeAt_43 : decode cX1_placeAt 43 = .ok (.iload 5, 2) := by decide +kernel
theorem dX1_placeAt_45 : decode cX1_placeAt 45 = .ok (.iaload, 1) := by decide +kernel
theorem dX1_placeAt_46 : decode cX1_placeAt 46 = .ok (.aload_n 0, 1) := by decide +kernel
theorem dX1_placeAt_47 : decode cX1_placeAt 47 = .ok (.getfield 24, 3) := by decide +kernel
theorem dX1_placeAt_50 : decode cX1_placeAt 50 = .ok (.iload 5, 2) := by decide +kernel
theorem dX1_placeAt_52 : decode cX1_placeAt 52 = .ok (.iaload, 1) := by decide +kernel
theorem dX1_placeAt_53 : decode cX1_placeAt 53 = .ok (.iadd, 1) := by decide +kernel
theorem dX1_placeAt_54 : decode cX1_placeAt 54 = .ok (.if_icmp .lt 15, 3) := by decide +kernel
theorem dX1_placeAt_57 : decode cX1_placeAt 57 = .ok (.aload_n 0, 1) := by decide +kernel
theorem dX1_placeAt_58 : decode cX1_placeAt 58 = .ok (.getfield 9, 3) := by decide +kernel
theorem dX1_placeAt_61 : decode cX1_placeAt 61 = .ok (.iload 5, 2) := by decide +kernel
theorem dX1_placeAt_63 : decode cX1_placeAt 63 = .ok (.iaload, 1) := by decide +kernel
theorem dX1_placeAt_64 : decode cX1_placeAt 64 = .ok (.bipush 27, 2) := by decide +kernel
theorem dX1_placeAt_66 : decode cX1_placeAt 66 = .ok (.if_icmp .ne 6, 3) := by decide +kernel
theorem dX1_placeAt_69 : decode cX1_placeAt 69 = .ok (.iload 4, 2) := by decide +kernel
theorem dX1_placeAt_71 : decode cX1_placeAt 71 = .ok (.ireturn, 1) := by decide +kernel
theorem dX1_placeAt_72 : decode cX1_placeAt 72 = .ok (.iinc 5 1, 3) := by decide +kernel
theorem dX1_placeAt_75 : decode cX1_placeAt 75 = .ok (.goto (-69), 3) := by decide +kernel
theorem dX1_placeAt_78 : decode cX1_placeAt 78 = .ok (.iload_n 1, 1) := by decide +kernel
theorem dX1_placeAt_79 : decode cX1_placeAt 79 = .ok (.aload_n 0, 1) := by decide +kernel
theorem dX1_placeAt_80 : decode cX1_placeAt 80 = .ok (.getfield 41, 3) := by decide +kernel
theorem dX1_placeAt_83 : decode cX1_placeAt 83 = .ok (.iconst 1, 1) := by decide +kernel
theorem dX1_placeAt_84 : decode cX1_placeAt 84 = .ok (.isub, 1) := by decide +kernel
theorem dX1_placeAt_85 : decode cX1_placeAt 85 = .ok (.if_icmp .ne 7, 3) := by decide +kernel
theorem dX1_placeAt_88 : decode cX1_placeAt 88 = .ok (.iload_n 3, 1) := by decide +kernel
theorem dX1_placeAt_89 : decode cX1_placeAt 89 = .ok (.goto 5, 3) := by decide +kernel
theorem dX1_placeAt_92 : decode cX1_placeAt 92 = .ok (.iload 4, 2) := by decide +kernel
theorem dX1_placeAt_94 : decode cX1_placeAt 94 = .ok (.ireturn, 1) := by decide +kernel
theorem dX1_codeAt_0 : decode cX1_codeAt 0 = .ok (.iconst 0, 1) := by decide +kernel
theorem dX1_codeAt_1 : decode cX1_codeAt 1 = .ok (.istore_n 3, 1) := by decide +kernel
theorem dX1_codeAt_2 : decode cX1_codeAt 2 = .ok (.iload_n 3, 1) := by decide +kernel
theorem dX1_codeAt_3 : decode cX1_codeAt 3 = .ok (.aload_n 0, 1) := by decide +kernel
theorem dX1_codeAt_4 : decode cX1_codeAt 4 = .ok (.getfield 45, 3) := by decide +kernel
theorem dX1_codeAt_7 : decode cX1_codeAt 7 = .ok (.if_icmp .ge 53, 3) := by decide +kernel
theorem dX1_codeAt_10 : decode cX1_codeAt 10 = .ok (.aload_n 0, 1) := by decide +kernel
theorem dX1_codeAt_11 : decode cX1_codeAt 11 = .ok (.getfield 18, 3) := by decide +kernel
theorem dX1_codeAt_14 : decode cX1_codeAt 14 = .ok (.iload_n 3, 1) := by decide +kernel
theorem dX1_codeAt_15 : decode cX1_codeAt 15 = .ok (.iaload, 1) := by decide +kernel
theorem dX1_codeAt_16 : decode cX1_codeAt 16 = .ok (.iload_n 1, 1) := by decide +kernel
theorem dX1_codeAt_17 : decode cX1_codeAt 17 = .ok (.if_icmp .ne 37, 3) := by decide +kernel
theorem dX1_codeAt_20 : decode cX1_codeAt 20 = .ok (.aload_n 0, 1) := by decide +kernel
theorem dX1_codeAt_21 : decode cX1_codeAt 21 = .ok (.getfield 21, 3) := by decide +kernel
theorem dX1_codeAt_24 : decode cX1_codeAt 24 = .ok (.iload_n 3, 1) := by decide +kernel
theorem dX1_codeAt_25 : decode cX1_codeAt 25 = .ok (.iaload, 1) := by decide +kernel
theorem dX1_codeAt_26 : decode cX1_codeAt 26 = .ok (.iload_n 2, 1) := by decide +kernel
theorem dX1_codeAt_27 : decode cX1_codeAt 27 = .ok (.if_icmp .gt 27, 3) := by decide +kernel
theorem dX1_codeAt_30 : decode cX1_codeAt 30 = .ok (.iload_n 2, 1) := by decide +kernel
theorem dX1_codeAt_31 : decode cX1_codeAt 31 = .ok (.aload_n 0, 1) := by decide +kernel
theorem dX1_codeAt_32 : decode cX1_codeAt 32 = .ok (.getfield 21, 3) := by decide +kernel
theorem dX1_codeAt_35 : decode cX1_codeAt 35 = .ok (.iload_n 3, 1) := by decide +kernel
theorem dX1_codeAt_36 : decode cX1_codeAt 36 = .ok (.iaload, 1) := by decide +kernel
theorem dX1_codeAt_37 : decode cX1_codeAt 37 = .ok (.aload_n 0, 1) := by decide +kernel
theorem dX1_codeAt_38 : decode cX1_codeAt 38 = .ok (.getfield 24, 3) := by decide +kernel
theorem dX1_codeAt_41 : decode cX1_codeAt 41 = .ok (.iload_n 3, 1) := by decide +kernel
theorem dX1_codeAt_42 : decode cX1_codeAt 42 = .ok (.iaload, 1) := by decide +kernel
theorem dX1_codeAt_43 : decode cX1_codeAt 43 = .ok (.iadd, 1) := by decide +kernel
theorem dX1_codeAt_44 : decode cX1_codeAt 44 = .ok (.if_icmp .ge 10, 3) := by decide +kernel
theorem dX1_codeAt_47 : decode cX1_codeAt 47 = .ok (.aload_n 0, 1) := by decide +kernel
theorem dX1_codeAt_48 : decode cX1_codeAt 48 = .ok (.getfield 9, 3) := by decide +kernel
theorem dX1_codeAt_51 : decode cX1_codeAt 51 = .ok (.iload_n 3, 1) := by decide +kernel
theorem dX1_codeAt_52 : decode cX1_codeAt 52 = .ok (.iaload, 1) := by decide +kernel
theorem dX1_codeAt_53 : decode cX1_codeAt 53 = .ok (.ireturn, 1) := by decide +kernel
theorem dX1_codeAt_54 : decode cX1_codeAt 54 = .ok (.iinc 3 1, 3) := by decide +kernel
theorem dX1_codeAt_57 : decode cX1_codeAt 57 = .ok (.goto (-55), 3) := by decide +kernel
theorem dX1_codeAt_60 : decode cX1_codeAt 60 = .ok (.bipush (-4), 2) := by decide +kernel
theorem dX1_codeAt_62 : decode cX1_codeAt 62 = .ok (.ireturn, 1) := by decide +kernel
theorem dX1_isRowAsIn_0 : decode cX1_isRowAsIn 0 = .ok (.aload_n 0, 1) := by decide +kernel
theorem dX1_isRowAsIn_1 : decode cX1_isRowAsIn 1 = .ok (.iload_n 2, 1) := by decide +kernel
theorem dX1_isRowAsIn_2 : decode cX1_isRowAsIn 2 = .ok (.invokevirtual 119, 3) := by decide +kernel
theorem dX1_isRowAsIn_5 : decode cX1_isRowAsIn 5 = .ok (.ifCond .eq 11, 3) := by decide +kernel
theorem dX1_isRowAsIn_8 : decode cX1_isRowAsIn 8 = .ok (.aload_n 1, 1) := by decide +kernel
theorem dX1_isRowAsIn_9 : decode cX1_isRowAsIn 9 = .ok (.iload_n 2, 1) := by decide +kernel
theorem dX1_isRowAsIn_10 : decode cX1_isRowAsIn 10 = .ok (.invokevirtual 119, 3) := by decide +kernel
theorem dX1_isRowAsIn_13 : decode cX1_isRowAsIn 13 = .ok (.ifCond .ne 5, 3) := by decide +kernel
theorem dX1_isRowAsIn_16 : decode cX1_isRowAsIn 16 = .ok (.iconst 0, 1) := by decide +kernel
theorem dX1_isRowAsIn_17 : decode cX1_isRowAsIn 17 = .ok (.ireturn, 1) := by decide +kernel
theorem dX1_isRowAsIn_18 : decode cX1_isRowAsIn 18 = .ok (.aload_n 0, 1) := by decide +kernel
theorem dX1_isRowAsIn_19 : decode cX1_isRowAsIn 19 = .ok (.iload_n 2, 1) := by decide +kernel
theorem dX1_isRowAsIn_20 : decode cX1_isRowAsIn 20 = .ok (.iconst 0, 1) := by decide +kernel
theorem dX1_isRowAsIn_21 : decode cX1_isRowAsIn 21 = .ok (.invokevirtual 122, 3) := by decide +kernel
theorem dX1_isRowAsIn_24 : decode cX1_isRowAsIn 24 = .ok (.istore_n 3, 1) := by decide +kernel
theorem dX1_isRowAsIn_25 : decode cX1_isRowAsIn 25 = .ok (.aload_n 1, 1) := by decide +kernel
theorem dX1_isRowAsIn_26 : decode cX1_isRowAsIn 26 = .ok (.iload_n 2, 1) := by decide +kernel
theorem dX1_isRowAsIn_27 : decode cX1_isRowAsIn 27 = .ok (.iconst 0, 1) := by decide +kernel
theorem dX1_isRowAsIn_28 : decode cX1_isRowAsIn 28 = .ok (.invokevirtual 122, 3) := by decide +kernel
theorem dX1_isRowAsIn_31 : decode cX1_isRowAsIn 31 = .ok (.istore 4, 2) := by decide +kernel
theorem dX1_isRowAsIn_33 : decode cX1_isRowAsIn 33 = .ok (.iconst 0, 1) := by decide +kernel
theorem dX1_isRowAsIn_34 : decode cX1_isRowAsIn 34 = .ok (.istore 5, 2) := by decide +kernel
theorem dX1_isRowAsIn_36 : decode cX1_isRowAsIn 36 = .ok (.iload 5, 2) := by decide +kernel
theorem dX1_isRowAsIn_38 : decode cX1_isRowAsIn 38 = .ok (.bipush 44, 2) := by decide +kernel
theorem dX1_isRowAsIn_40 : decode cX1_isRowAsIn 40 = .ok (.if_icmp .ge 51, 3) := by decide +kernel
theorem dX1_isRowAsIn_43 : decode cX1_isRowAsIn 43 = .ok (.iload_n 3, 1) := by decide +kernel
theorem dX1_isRowAsIn_44 : decode cX1_isRowAsIn 44 = .ok (.ifCond .lt 47, 3) := by decide +kernel
theorem dX1_isRowAsIn_47 : decode cX1_isRowAsIn 47 = .ok (.iload 4, 2) := by decide +kernel
theorem dX1_isRowAsIn_49 : decode cX1_isRowAsIn 49 = .ok (.ifCond .lt 42, 3) := by decide +kernel
theorem dX1_isRowAsIn_52 : decode cX1_isRowAsIn 52 = .ok (.aload_n 0, 1) := by decide +kernel
theorem dX1_isRowAsIn_53 : decode cX1_isRowAsIn 53 = .ok (.aload_n 1, 1) := by decide +kernel
theorem dX1_isRowAsIn_54 : decode cX1_isRowAsIn 54 = .ok (.iload_n 3, 1) := by decide +kernel
theorem dX1_isRowAsIn_55 : decode cX1_isRowAsIn 55 = .ok (.iload 4, 2) := by decide +kernel
theorem dX1_isRowAsIn_57 : decode cX1_isRowAsIn 57 = .ok (.invokevirtual 125, 3) := by decide +kernel
theorem dX1_isRowAsIn_60 : decode cX1_isRowAsIn 60 = .ok (.ifCond .ne 5, 3) := by decide +kernel
theorem dX1_isRowAsIn_63 : decode cX1_isRowAsIn 63 = .ok (.iconst 0, 1) := by decide +kernel
theorem dX1_isRowAsIn_64 : decode cX1_isRowAsIn 64 = .ok (.ireturn, 1) := by decide +kernel
theorem dX1_isRowAsIn_65 : decode cX1_isRowAsIn 65 = .ok (.aload_n 0, 1) := by decide +kernel
theorem dX1_isRowAsIn_66 : decode cX1_isRowAsIn 66 = .ok (.iload_n 2, 1) := by decide +kernel
theorem dX1_isRowAsIn_67 : decode cX1_isRowAsIn 67 = .ok (.iload_n 3, 1) := by decide +kernel
theorem dX1_isRowAsIn_68 : decode cX1_isRowAsIn 68 = .ok (.iconst 1, 1) := by decide +kernel
theorem dX1_isRowAsIn_69 : decode cX1_isRowAsIn 69 = .ok (.iadd, 1) := by decide +kernel
theorem dX1_isRowAsIn_70 : decode cX1_isRowAsIn 70 = .ok (.invokevirtual 122, 3) := by decide +kernel
theorem dX1_isRowAsIn_73 : decode cX1_isRowAsIn 73 = .ok (.istore_n 3, 1) := by decide +kernel
theorem dX1_isRowAsIn_74 : decode cX1_isRowAsIn 74 = .ok (.aload_n 1, 1) := by decide +kernel
theorem dX1_isRowAsIn_75 : decode cX1_isRowAsIn 75 = .ok (.iload_n 2, 1) := by decide +kernel
theorem dX1_isRowAsIn_76 : decode cX1_isRowAsIn 76 = .ok (.iload 4, 2) := by decide +kernel
theorem dX1_isRowAsIn_78 : decode cX1_isRowAsIn 78 = .ok (.iconst 1, 1) := by decide +kernel
theorem dX1_isRowAsIn_79 : decode cX1_isRowAsIn 79 = .ok (.iadd, 1) := by decide +kernel
theorem dX1_isRowAsIn_80 : decode cX1_isRowAsIn 80 = .ok (.invokevirtual 122, 3) := by decide +kernel
theorem dX1_isRowAsIn_83 : decode cX1_isRowAsIn 83 = .ok (.istore 4, 2) := by decide +kernel
theorem dX1_isRowAsIn_85 : decode cX1_isRowAsIn 85 = .ok (.iinc 5 1, 3) := by decide +kernel
theorem dX1_isRowAsIn_88 : decode cX1_isRowAsIn 88 = .ok (.goto (-52), 3) := by decide +kernel
theorem dX1_isRowAsIn_91 : decode cX1_isRowAsIn 91 = .ok (.iload_n 3, 1) := by decide +kernel
theorem dX1_isRowAsIn_92 : decode cX1_isRowAsIn 92 = .ok (.ifCond .ge 12, 3) := by decide +kernel
theorem dX1_isRowAsIn_95 : decode cX1_isRowAsIn 95 = .ok (.iload 4, 2) := by decide +kernel
theorem dX1_isRowAsIn_97 : decode cX1_isRowAsIn 97 = .ok (.ifCond .ge 7, 3) := by decide +kernel
theorem dX1_isRowAsIn_100 : decode cX1_isRowAsIn 100 = .ok (.iconst 1, 1) := by decide +kernel
theorem dX1_isRowAsIn_101 : decode cX1_isRowAsIn 101 = .ok (.goto 4, 3) := by decide +kernel
theorem dX1_isRowAsIn_104 : decode cX1_isRowAsIn 104 = .ok (.iconst 0, 1) := by decide +kernel
theorem dX1_isRowAsIn_105 : decode cX1_isRowAsIn 105 = .ok (.ireturn, 1) := by decide +kernel
theorem dX1_seek_0 : decode cX1_seek 0 = .ok (.iload_n 2, 1) := by decide +kernel
theorem dX1_seek_1 : decode cX1_seek 1 = .ok (.istore_n 3, 1) := by decide +kernel
theorem dX1_seek_2 : decode cX1_seek 2 = .ok (.iload_n 3, 1) := by decide +kernel
theorem dX1_seek_3 : decode cX1_seek 3 = .ok (.aload_n 0, 1) := by decide +kernel
theorem dX1_seek_4 : decode cX1_seek 4 = .ok (.getfield 45, 3) := by decide +kernel
theorem dX1_seek_7 : decode cX1_seek 7 = .ok (.if_icmp .ge 32, 3) := by decide +kernel
theorem dX1_seek_10 : decode cX1_seek 10 = .ok (.aload_n 0, 1) := by decide +kernel
theorem dX1_seek_11 : decode cX1_seek 11 = .ok (.getfield 18, 3) := by decide +kernel
theorem dX1_seek_14 : decode cX1_seek 14 = .ok (.iload_n 3, 1) := by decide +kernel
theorem dX1_seek_15 : decode cX1_seek 15 = .ok (.iaload, 1) := by decide +kernel
theorem dX1_seek_16 : decode cX1_seek 16 = .ok (.iload_n 1, 1) := by decide +kernel
theorem dX1_seek_17 : decode cX1_seek 17 = .ok (.if_icmp .ne 16, 3) := by decide +kernel
theorem dX1_seek_20 : decode cX1_seek 20 = .ok (.aload_n 0, 1) := by decide +kernel
theorem dX1_seek_21 : decode cX1_seek 21 = .ok (.getfield 9, 3) := by decide +kernel
theorem dX1_seek_24 : decode cX1_seek 24 = .ok (.iload_n 3, 1) := by decide +kernel
theorem dX1_seek_25 : decode cX1_seek 25 = .ok (.iaload, 1) := by decide +kernel
theorem dX1_seek_26 : decode cX1_seek 26 = .ok (.bipush 27, 2) := by decide +kernel
theorem dX1_seek_28 : decode cX1_seek 28 = .ok (.if_icmp .eq 5, 3) := by decide +kernel
theorem dX1_seek_31 : decode cX1_seek 31 = .ok (.iload_n 3, 1) := by decide +kernel
theorem dX1_seek_32 : decode cX1_seek 32 = .ok (.ireturn, 1) := by decide +kernel
theorem dX1_seek_33 : decode cX1_seek 33 = .ok (.iinc 3 1, 3) := by decide +kernel
theorem dX1_seek_36 : decode cX1_seek 36 = .ok (.goto (-34), 3) := by decide +kernel
theorem dX1_seek_39 : decode cX1_seek 39 = .ok (.iconst (-1), 1) := by decide +kernel
theorem dX1_seek_40 : decode cX1_seek 40 = .ok (.ireturn, 1) := by decide +kernel
theorem dX1_isItemAsIn_0 : decode cX1_isItemAsIn 0 = .ok (.aload_n 0, 1) := by decide +kernel
theorem dX1_isItemAsIn_1 : decode cX1_isItemAsIn 1 = .ok (.getfield 9, 3) := by decide +kernel
theorem dX1_isItemAsIn_4 : decode cX1_isItemAsIn 4 = .ok (.iload_n 2, 1) := by decide +kernel
theorem dX1_isItemAsIn_5 : decode cX1_isItemAsIn 5 = .ok (.iaload, 1) := by decide +kernel
theorem dX1_isItemAsIn_6 : decode cX1_isItemAsIn 6 = .ok (.aload_n 1, 1) := by decide +kernel
theorem dX1_isItemAsIn_7 : decode cX1_isItemAsIn 7 = .ok (.getfield 9, 3) := by decide +kernel
theorem dX1_isItemAsIn_10 : decode cX1_isItemAsIn 10 = .ok (.iload_n 3, 1) := by decide +kernel
theorem dX1_isItemAsIn_11 : decode cX1_isItemAsIn 11 = .ok (.iaload, 1) := by decide +kernel
theorem dX1_isItemAsIn_12 : decode cX1_isItemAsIn 12 = .ok (.if_icmp .ne 37, 3) := by decide +kernel
theorem dX1_isItemAsIn_15 : decode cX1_isItemAsIn 15 = .ok (.aload_n 0, 1) := by decide +kernel
theorem dX1_isItemAsIn_16 : decode cX1_isItemAsIn 16 = .ok (.getfield 21, 3) := by decide +kernel
theorem dX1_isItemAsIn_19 : decode cX1_isItemAsIn 19 = .ok (.iload_n 2, 1) := by decide +kernel
theorem dX1_isItemAsIn_20 : decode cX1_isItemAsIn 20 = .ok (.iaload, 1) := by decide +kernel
theorem dX1_isItemAsIn_21 : decode cX1_isItemAsIn 21 = .ok (.aload_n 1, 1) := by decide +kernel
theorem dX1_isItemAsIn_22 : decode cX1_isItemAsIn 22 = .ok (.getfield 21, 3) := by decide +kernel
theorem dX1_isItemAsIn_25 : decode cX1_isItemAsIn 25 = .ok (.iload_n 3, 1) := by decide +kernel
theorem dX1_isItemAsIn_26 : decode cX1_isItemAsIn 26 = .ok (.iaload, 1) := by decide +kernel
theorem dX1_isItemAsIn_27 : decode cX1_isItemAsIn 27 = .ok (.if_icmp .ne 22, 3) := by decide +kernel
theorem dX1_isItemAsIn_30 : decode cX1_isItemAsIn 30 = .ok (.aload_n 0, 1) := by decide +kernel
theorem dX1_isItemAsIn_31 : decode cX1_isItemAsIn 31 = .ok (.getfield 24, 3) := by decide +kernel
theorem dX1_isItemAsIn_34 : decode cX1_isItemAsIn 34 = .ok (.iload_n 2, 1) := by decide +kernel
theorem dX1_isItemAsIn_35 : decode cX1_isItemAsIn 35 = .ok (.iaload, 1) := by decide +kernel
theorem dX1_isItemAsIn_36 : decode cX1_isItemAsIn 36 = .ok (.aload_n 1, 1) := by decide +kernel
theorem dX1_isItemAsIn_37 : decode cX1_isItemAsIn 37 = .ok (.getfield 24, 3) := by decide +kernel
theorem dX1_isItemAsIn_40 : decode cX1_isItemAsIn 40 = .ok (.iload_n 3, 1) := by decide +kernel
theorem dX1_isItemAsIn_41 : decode cX1_isItemAsIn 41 = .ok (.iaload, 1) := by decide +kernel
theorem dX1_isItemAsIn_42 : decode cX1_isItemAsIn 42 = .ok (.if_icmp .ne 7, 3) := by decide +kernel
theorem dX1_isItemAsIn_45 : decode cX1_isItemAsIn 45 = .ok (.iconst 1, 1) := by decide +kernel
theorem dX1_isItemAsIn_46 : decode cX1_isItemAsIn 46 = .ok (.goto 4, 3) := by decide +kernel
theorem dX1_isItemAsIn_49 : decode cX1_isItemAsIn 49 = .ok (.iconst 0, 1) := by decide +kernel
theorem dX1_isItemAsIn_50 : decode cX1_isItemAsIn 50 = .ok (.ireturn, 1) := by decide +kernel
