theorem dX0_init_0 : decode cX0_init 0 = .ok (.aload_n 0, 1) := by decide +kernel
theorem dX0_init_1 : decode cX0_init 1 = .ok (.invokespecial 1, 3) := by decide +kernel
theorem dX0_init_4 : decode cX0_init 4 = .ok (.aload_n 0, 1) := by decide +kernel
theorem dX0_init_5 : decode cX0_init 5 = .ok (.bipush 16, 2) := by decide +kernel
theorem dX0_init_7 : decode cX0_init 7 = .ok (.newarray .int, 2) := by decide +kernel
theorem dX0_init_9 : decode cX0_init 9 = .ok (.putfield 9, 3) := by decide +kernel
theorem dX0_init_12 : decode cX0_init 12 = .ok (.aload_n 0, 1) := by decide +kernel
theorem dX0_init_13 : decode cX0_init 13 = .ok (.bipush 16, 2) := by decide +kernel
theorem dX0_init_15 : decode cX0_init 15 = .ok (.newarray .int, 2) := by decide +kernel
theorem dX0_init_17 : decode cX0_init 17 = .ok (.putfield 13, 3) := by decide +kernel
theorem dX0_init_20 : decode cX0_init 20 = .ok (.aload_n 0, 1) := by decide +kernel
theorem dX0_init_21 : decode cX0_init 21 = .ok (.bipush 16, 2) := by decide +kernel
theorem dX0_init_23 : decode cX0_init 23 = .ok (.newarray .int, 2) := by decide +kernel
theorem dX0_init_25 : decode cX0_init 25 = .ok (.putfield 16, 3) := by decide +kernel
theorem dX0_init_28 : decode cX0_init 28 = .ok (.aload_n 0, 1) := by decide +kernel
theorem dX0_init_29 : decode cX0_init 29 = .ok (.bipush 16, 2) := by decide +kernel
theorem dX0_init_31 : decode cX0_init 31 = .ok (.newarray .int, 2) := by decide +kernel
theorem dX0_init_33 : decode cX0_init 33 = .ok (.putfield 19, 3) := by decide +kernel
theorem dX0_init_36 : decode cX0_init 36 = .ok (.aload_n 0, 1) := by decide +kernel
theorem dX0_init_37 : decode cX0_init 37 = .ok (.bipush 16, 2) := by decide +kernel
theorem dX0_init_39 : decode cX0_init 39 = .ok (.newarray .int, 2) := by decide +kernel
theorem dX0_init_41 : decode cX0_init 41 = .ok (.putfield 22, 3) := by decide +kernel
theorem dX0_init_44 : decode cX0_init 44 = .ok (.aload_n 0, 1) := by decide +kernel
theorem dX0_init_45 : decode cX0_init 45 = .ok (.bipush 16, 2) := by decide +kernel
theorem dX0_init_47 : decode cX0_init 47 = .ok (.newarray .int, 2) := by decide +kernel
theorem dX0_init_49 : decode cX0_init 49 = .ok (.putfield 25, 3) := by decide +kernel
theorem dX0_init_52 : decode cX0_init 52 = .ok (.aload_n 0, 1) := by decide +kernel
theorem dX0_init_53 : decode cX0_init 53 = .ok (.bipush 16, 2) := by decide +kernel
theorem dX0_init_55 : decode cX0_init 55 = .ok (.newarray .int, 2) := by decide +kernel
theorem dX0_init_57 : decode cX0_init 57 = .ok (.putfield 28, 3) := by decide +kernel
theorem dX0_init_60 : decode cX0_init 60 = .ok (.return_, 1) := by decide +kernel
theorem dX0_forget_0 : decode cX0_forget 0 = .ok (.aload_n 0, 1) := by decide +kernel
theorem dX0_forget_1 : decode cX0_forget 1 = .ok (.iconst 0, 1) := by decide +kernel
theorem dX0_forget_2 : decode cX0_forget 2 = .ok (.putfield 31, 3) := by decide +kernel
theorem dX0_forget_5 : decode cX0_forget 5 = .ok (.aload_n 0, 1) := by decide +kernel
theorem dX0_forget_6 : decode cX0_forget 6 = .ok (.iconst 0, 1) := by decide +kernel
theorem dX0_forget_7 : decode cX0_forget 7 = .ok (.putfield 35, 3) := by decide +kernel
theorem dX0_forget_10 : decode cX0_forget 10 = .ok (.return_, 1) := by decide +kernel
theorem dX0_isFull_0 : decode cX0_isFull 0 = .ok (.aload_n 0, 1) := by decide +kernel
theorem dX0_isFull_1 : decode cX0_isFull 1 = .ok (.getfield 31, 3) := by decide +kernel
theorem dX0_isFull_4 : decode cX0_isFull 4 = .ok (.bipush 16, 2) := by decide +kernel
theorem dX0_isFull_6 : decode cX0_isFull 6 = .ok (.if_icmp .lt 7, 3) := by decide +kernel
theorem dX0_isFull_9 : decode cX0_isFull 9 = .ok (.iconst 1, 1) := by decide +kernel
theorem dX0_isFull_10 : decode cX0_isFull 10 = .ok (.goto 4, 3) := by decide +kernel
theorem dX0_isFull_13 : decode cX0_isFull 13 = .ok (.iconst 0, 1) := by decide +kernel
theorem dX0_isFull_14 : decode cX0_isFull 14 = .ok (.ireturn, 1) := by decide +kernel
theorem dX0_wasArranged_0 : decode cX0_wasArranged 0 = .ok (.iload_n 1, 1) := by decide +kernel
theorem dX0_wasArranged_1 : decode cX0_wasArranged 1 = .ok (.ifCond .lt 15, 3) := by decide +kernel
theorem dX0_wasArranged_4 : decode cX0_wasArranged 4 = .ok (.iload_n 1, 1) := by decide +kernel
theorem dX0_wasArranged_5 : decode cX0_wasArranged 5 = .ok (.aload_n 0, 1) := by decide +kernel
theorem dX0_wasArranged_6 : decode cX0_wasArranged 6 = .ok (.getfield 35, 3) := by decide +kernel
theorem dX0_wasArranged_9 : decode cX0_wasArranged 9 = .ok (.if_icmp .ge 7, 3) := by decide +kernel
theorem dX0_wasArranged_12 : decode cX0_wasArranged 12 = .ok (.iconst 1, 1) := by decide +kernel
theorem dX0_wasArranged_13 : decode cX0_wasArranged 13 = .ok (.goto 4, 3) := by decide +kernel
theorem dX0_wasArranged_16 : decode cX0_wasArranged 16 = .ok (.iconst 0, 1) := by decide +kernel
theorem dX0_wasArranged_17 : decode cX0_wasArranged 17 = .ok (.ireturn, 1) := by decide +kernel
theorem dX0_note_0 : decode cX0_note 0 = .ok (.aload_n 0, 1) := by decide +kernel
theorem dX0_note_1 : decode cX0_note 1 = .ok (.getfield 9, 3) := by decide +kernel
theorem dX0_note_4 : decode cX0_note 4 = .ok (.aload_n 0, 1) := by decide +kernel
theorem dX0_note_5 : decode cX0_note 5 = .ok (.getfield 31, 3) := by decide +kernel
theorem dX0_note_8 : decode cX0_note 8 = .ok (.iload_n 1, 1) := by decide +kernel
theorem dX0_note_9 : decode cX0_note 9 = .ok (.iastore, 1) := by decide +kernel
theorem dX0_note_10 : decode cX0_note 10 = .ok (.aload_n 0, 1) := by decide +kernel
theorem dX0_note_11 : decode cX0_note 11 = .ok (.getfield 13, 3) := by decide +kernel
theorem dX0_note_14 : decode cX0_note 14 = .ok (.aload_n 0, 1) := by decide +kernel
theorem dX0_note_15 : decode cX0_note 15 = .ok (.getfield 31, 3) := by decide +kernel
theorem dX0_note_18 : decode cX0_note 18 = .ok (.iload_n 2, 1) := by decide +kernel
theorem dX0_note_19 : decode cX0_note 19 = .ok (.iastore, 1) := by decide +kernel
theorem dX0_note_20 : decode cX0_note 20 = .ok (.aload_n 0, 1) := by decide +kernel
theorem dX0_note_21 : decode cX0_note 21 = .ok (.getfield 16, 3) := by decide +kernel
theorem dX0_note_24 : decode cX0_note 24 = .ok (.aload_n 0, 1) := by decide +kernel
theorem dX0_note_25 : decode cX0_note 25 = .ok (.getfield 31, 3) := by decide +kernel
theorem dX0_note_28 : decode cX0_note 28 = .ok (.iload_n 3, 1) := by decide +kernel
theorem dX0_note_29 : decode cX0_note 29 = .ok (.iastore, 1) := by decide +kernel
theorem dX0_note_30 : decode cX0_note 30 = .ok (.aload_n 0, 1) := by decide +kernel
theorem dX0_note_31 : decode cX0_note 31 = .ok (.getfield 19, 3) := by decide +kernel
theorem dX0_note_34 : decode cX0_note 34 = .ok (.aload_n 0, 1) := by decide +kernel
theorem dX0_note_35 : decode cX0_note 35 = .ok (.getfield 31, 3) := by decide +kernel
theorem dX0_note_38 : decode cX0_note 38 = .ok (.iload 4, 2) := by decide +kernel
theorem dX0_note_40 : decode cX0_note 40 = .ok (.iastore, 1) := by decide +kernel
theorem dX0_note_41 : decode cX0_note 41 = .ok (.aload_n 0, 1) := by decide +kernel
theorem dX0_note_42 : decode cX0_note 42 = .ok (.getfield 22, 3) := by decide +kernel
theorem dX0_note_45 : decode cX0_note 45 = .ok (.aload_n 0, 1) := by decide +kernel
theorem dX0_note_46 : decode cX0_note 46 = .ok (.getfield 31, 3) := by decide +kernel
theorem dX0_note_49 : decode cX0_note 49 = .ok (.iload 5, 2) := by decide +kernel
theorem dX0_note_51 : decode cX0_note 51 = .ok (.iastore, 1) := by decide +kernel
theorem dX0_note_52 : decode cX0_note 52 = .ok (.aload_n 0, 1) := by decide +kernel
theorem dX0_note_53 : decode cX0_note 53 = .ok (.dup, 1) := by decide +kernel
theorem dX0_note_54 : decode cX0_note 54 = .ok (.getfield 31, 3) := by decide +kernel
theorem dX0_note_57 : decode cX0_note 57 = .ok (.iconst 1, 1) := by decide +kernel
theorem dX0_note_58 : decode cX0_note 58 = .ok (.iadd, 1) := by decide +kernel
theorem dX0_note_59 : decode cX0_note 59 = .ok (.putfield 31, 3) := by decide +kernel
theorem dX0_note_62 : decode cX0_note 62 = .ok (.aload_n 0, 1) := by decide +kernel
theorem dX0_note_63 : decode cX0_note 63 = .ok (.getfield 31, 3) := by decide +kernel
theorem dX0_note_66 : decode cX0_note 66 = .ok (.ireturn, 1) := by decide +kernel
theorem dX0_arrange_0 : decode cX0_arrange 0 = .ok (.iconst 0, 1) := by decide +kernel
theorem dX0_arrange_1 : decode cX0_arrange 1 = .ok (.istore_n 1, 1) := by decide +kernel
theorem dX0_arrange_2 : decode cX0_arrange 2 = .ok (.iload_n 1, 1) := by decide +kernel
theorem dX0_arrange_3 : decode cX0_arrange 3 = .ok (.aload_n 0, 1) := by decide +kernel
theorem dX0_arrange_4 : decode cX0_arrange 4 = .ok (.getfield 31, 3) := by decide +kernel
theorem dX0_arrange_7 : decode cX0_arrange 7 = .ok (.if_icmp .ge 58, 3) := by decide +kernel
theorem dX0_arrange_10 : decode cX0_arrange 10 = .ok (.iload_n 1, 1) := by decide +kernel
theorem dX0_arrange_11 : decode cX0_arrange 11 = .ok (.istore_n 2, 1) := by decide +kernel
theorem dX0_arrange_12 : decode cX0_arrange 12 = .ok (.iload_n 2, 1) := by decide +kernel
theorem dX0_arrange_13 : decode cX0_arrange 13 = .ok (.ifCond .le 39, 3) := by decide +kernel
theorem dX0_arrange_16 : decode cX0_arrange 16 = .ok (.aload_n 0, 1) := by decide +kernel
theorem dX0_arrange_17 : decode cX0_arrange 17 = .ok (.iload_n 1, 1) := by decide +kernel
theorem dX0_arrange_18 : decode cX0_arrange 18 = .ok (.aload_n 0, 1) := by decide +kernel
theorem dX0_arrange_19 : decode cX0_arrange 19 = .ok (.getfield 25, 3) := by decide +kernel
theorem dX0_arrange_22 : decode cX0_arrange 22 = .ok (.iload_n 2, 1) := by decide +kernel
theorem dX0_arrange_23 : decode cX0_arrange 23 = .ok (.iconst 1, 1) := by decide +kernel
theorem dX0_arrange_24 : decode cX0_arrange 24 = .ok (.isub, 1) := by decide +kernel
theorem dX0_arrange_25 : decode cX0_arrange 25 = .ok (.iaload, 1) := by decide +kernel
theorem dX0_arrange_26 : decode cX0_arrange 26 = .ok (.invokevirtual 38, 3) := by decide +kernel
theorem dX0_arrange_29 : decode cX0_arrange 29 = .ok (.ifCond .eq 23, 3) := by decide +kernel
theorem dX0_arrange_32 : decode cX0_arrange 32 = .ok (.aload_n 0, 1) := by decide +kernel
theorem dX0_arrange_33 : decode cX0_arrange 33 = .ok (.getfield 25, 3) := by decide +kernel
theorem dX0_arrange_36 : decode cX0_arrange 36 = .ok (.iload_n 2, 1) := by decide +kernel
theorem dX0_arrange_37 : decode cX0_arrange 37 = .ok (.aload_n 0, 1) := by decide +kernel
theorem dX0_arrange_38 : decode cX0_arrange 38 = .ok (.getfield 25, 3) := by decide +kernel
theorem dX0_arrange_41 : decode cX0_arrange 41 = .ok (.iload_n 2, 1) := by decide +kernel
theorem dX0_arrange_42 : decode cX0_arrange 42 = .ok (.iconst 1, 1) := by decide +kernel
theorem dX0_arrange_43 : decode cX0_arrange 43 = .ok (.isub, 1) := by decide +kernel
theorem dX0_arrange_44 : decode cX0_arrange 44 = .ok (.iaload, 1) := by decide +kernel
theorem dX0_arrange_45 : decode cX0_arrange 45 = .ok (.iastore, 1) := by decide +kernel
theorem dX0_arrange_46 : decode cX0_arrange 46 = .ok (.iinc 2 (-1), 3) := by decide +kernel
theorem dX0_arrange_49 : decode cX0_arrange 49 = .ok (.goto (-37), 3) := by decide +kernel
theorem dX0_arrange_52 : decode cX0_arrange 52 = .ok (.aload_n 0, 1) := by decide +kernel
theorem dX0_arrange_53 : decode cX0_arrange 53 = .ok (.getfield 25, 3) := by decide +kernel
theorem dX0_arrange_56 : decode cX0_arrange 56 = .ok (.iload_n 2, 1) := by decide +kernel
theorem dX0_arrange_57 : decode cX0_arrange 57 = .ok (.iload_n 1, 1) := by decide +kernel
theorem dX0_arrange_58 : decode cX0_arrange 58 = .ok (.iastore, 1) := by decide +kernel
theorem dX0_arrange_59 : decode cX0_arrange 59 = .ok (.iinc 1 1, 3) := by decide +kernel
theorem dX0_arrange_62 : decode cX0_arrange 62 = .ok (.goto (-60), 3) := by decide +kernel
theorem dX0_arrange_65 : decode cX0_arrange 65 = .ok (.aload_n 0, 1) := by decide +kernel
theorem dX0_arrange_66 : decode cX0_arrange 66 = .ok (.aload_n 0, 1) := by decide +kernel
theorem dX0_arrange_67 : decode cX0_arrange 67 = .ok (.getfield 31, 3) := by decide +kernel
theorem dX0_arrange_70 : decode cX0_arrange 70 = .ok (.putfield 35, 3) := by decide +kernel
theorem dX0_arrange_73 : decode cX0_arrange 73 = .ok (.aload_n 0, 1) := by decide +kernel
theorem dX0_arrange_74 : decode cX0_arrange 74 = .ok (.iconst 0, 1) := by decide +kernel
theorem dX0_arrange_75 : decode cX0_arrange 75 = .ok (.putfield 31, 3) := by decide +kernel
theorem dX0_arrange_78 : decode cX0_arrange 78 = .ok (.return_, 1) := by decide +kernel
theorem dX0_isBefore_0 : decode cX0_isBefore 0 = .ok (.aload_n 0, 1) := by decide +kernel
theorem dX0_isBefore_1 : decode cX0_isBefore 1 = .ok (.getfield 9, 3) := by decide +kernel
theorem dX0_isBefore_4 : decode cX0_isBefore 4 = .ok (.iload_n 1, 1) := by decide +kernel
theorem dX0_isBefore_5 : decode cX0_isBefore 5 = .ok (.iaload, 1) := by decide +kernel
theorem dX0_isBefore_6 : decode cX0_isBefore 6 = .ok (.aload_n 0, 1) := by decide +kernel
theorem dX0_isBefore_7 : decode cX0_isBefore 7 = .ok (.getfield 9, 3) := by decide +kernel
theorem dX0_isBefore_10 : decode cX0_isBefore 10 = .ok (.iload_n 2, 1) := by decide +kernel
theorem dX0_isBefore_11 : decode cX0_isBefore 11 = .ok (.iaload, 1) := by decide +kernel
theorem dX0_isBefore_12 : decode cX0_isBefore 12 = .ok (.if_icmp .eq 24, 3) := by decide +kernel
theorem dX0_isBefore_15 : decode cX0_isBefore 15 = .ok (.aload_n 0, 1) := by decide +kernel
theorem dX0_isBefore_16 : decode cX0_isBefore 16 = .ok (.getfield 9, 3) := by decide +kernel
theorem dX0_isBefore_19 : decode cX0_isBefore 19 = .ok (.iload_n 1, 1) := by decide +kernel
theorem dX0_isBefore_20 : decode cX0_isBefore 20 = .ok (.iaload, 1) := by decide +kernel
theorem dX0_isBefore_21 : decode cX0_isBefore 21 = .ok (.aload_n 0, 1) := by decide +kernel
theorem dX0_isBefore_22 : decode cX0_isBefore 22 = .ok (.getfield 9, 3) := by decide +kernel
theorem dX0_isBefore_25 : decode cX0_isBefore 25 = .ok (.iload_n 2, 1) := by decide +kernel
theorem dX0_isBefore_26 : decode cX0_isBefore 26 = .ok (.iaload, 1) := by decide +kernel
theorem dX0_isBefore_27 : decode cX0_isBefore 27 = .ok (.if_icmp .ge 7, 3) := by decide +kernel
theorem dX0_isBefore_30 : decode cX0_isBefore 30 = .ok (.iconst 1, 1) := by decide +kernel
theorem dX0_isBefore_31 : decode cX0_isBefore 31 = .ok (.goto 4, 3) := by decide +kernel
theorem dX0_isBefore_34 : decode cX0_isBefore 34 = .ok (.iconst 0, 1) := by decide +kernel
theorem dX0_isBefore_35 : decode cX0_isBefore 35 = .ok (.ireturn, 1) := by decide +kernel
theorem dX0_isBefore_36 : decode cX0_isBefore 36 = .ok (.aload_n 0, 1) := by decide +kernel
theorem dX0_isBefore_37 : decode cX0_isBefore 37 = .ok (.getfield 13, 3) := by decide +kernel
theorem dX0_isBefore_40 : decode cX0_isBefore 40 = .ok (.iload_n 1, 1) := by decide +kernel
theorem dX0_isBefore_41 : decode cX0_isBefore 41 = .ok (.iaload, 1) := by decide +kernel
theorem dX0_isBefore_42 : decode cX0_isBefore 42 = .ok (.aload_n 0, 1) := by decide +kernel
theorem dX0_isBefore_43 : decode cX0_isBefore 43 = .ok (.getfield 13, 3) := by decide +kernel
theorem dX0_isBefore_46 : decode cX0_isBefore 46 = .ok (.iload_n 2, 1) := by decide +kernel
theorem dX0_isBefore_47 : decode cX0_isBefore 47 = .ok (.iaload, 1) := by decide +kernel
theorem dX0_isBefore_48 : decode cX0_isBefore 48 = .ok (.if_icmp .ge 7, 3) := by decide +kernel
theorem dX0_isBefore_51 : decode cX0_isBefore 51 = .ok (.iconst 1, 1) := by decide +kernel
theorem dX0_isBefore_52 : decode cX0_isBefore 52 = .ok (.goto 4, 3) := by decide +kernel
theorem dX0_isBefore_55 : decode cX0_isBefore 55 = .ok (.iconst 0, 1) := by decide +kernel
theorem dX0_isBefore_56 : decode cX0_isBefore 56 = .ok (.ireturn, 1) := by decide +kernel
theorem dX1_init_0 : decode cX1_init 0 = .ok (.aload_n 0, 1) := by decide +kernel
theorem dX1_init_1 : decode cX1_init 1 = .ok (.invokespecial 1, 3) := by decide +kernel
theorem dX1_init_4 : decode cX1_init 4 = .ok (.aload_n 0, 1) := by decide +kernel
theorem dX1_init_5 : decode cX1_init 5 = .ok (.new 7, 3) := by decide +kernel
theorem dX1_init_8 : decode cX1_init 8 = .ok (.dup, 1) := by decide +kernel
theorem dX1_init_9 : decode cX1_init 9 = .ok (.invokespecial 9, 3) := by decide +kernel
theorem dX1_init_12 : decode cX1_init 12 = .ok (.putfield 10, 3) := by decide +kernel
theorem dX1_init_15 : decode cX1_init 15 = .ok (.aload_n 0, 1) := by decide +kernel
theorem dX1_init_16 : decode cX1_init 16 = .ok (.new 7, 3) := by decide +kernel
theorem dX1_init_19 : decode cX1_init 19 = .ok (.dup, 1) := by decide +kernel
theorem dX1_init_20 : decode cX1_init 20 = .ok (.invokespecial 9, 3) := by decide +kernel
theorem dX1_init_23 : decode cX1_init 23 = .ok (.putfield 16, 3) := by decide +kernel
theorem dX1_init_26 : decode cX1_init 26 = .ok (.aload_n 0, 1) := by decide +kernel
theorem dX1_init_27 : decode cX1_init 27 = .ok (.new 7, 3) := by decide +kernel
theorem dX1_init_30 : decode cX1_init 30 = .ok (.dup, 1) := by decide +kernel
theorem dX1_init_31 : decode cX1_init 31 = .ok (.invokespecial 9, 3) := by decide +kernel
theorem dX1_init_34 : decode cX1_init 34 = .ok (.putfield 19, 3) := by decide +kernel
theorem dX1_init_37 : decode cX1_init 37 = .ok (.aload_n 0, 1) := by decide +kernel
theorem dX1_init_38 : decode cX1_init 38 = .ok (.new 7, 3) := by decide +kernel
theorem dX1_init_41 : decode cX1_init 41 = .ok (.dup, 1) := by decide +kernel
theorem dX1_init_42 : decode cX1_init 42 = .ok (.invokespecial 9, 3) := by decide +kernel
theorem dX1_init_45 : decode cX1_init 45 = .ok (.putfield 22, 3) := by decide +kernel
theorem dX1_init_48 : decode cX1_init 48 = .ok (.aload_n 0, 1) := by decide +kernel
theorem dX1_init_49 : decode cX1_init 49 = .ok (.new 7, 3) := by decide +kernel
theorem dX1_init_52 : decode cX1_init 52 = .ok (.dup, 1) := by decide +kernel
theorem dX1_init_53 : decode cX1_init 53 = .ok (.invokespecial 9, 3) := by decide +kernel
theorem dX1_init_56 : decode cX1_init 56 = .ok (.putfield 25, 3) := by decide +kernel
theorem dX1_init_59 : decode cX1_init 59 = .ok (.aload_n 0, 1) := by decide +kernel
theorem dX1_init_60 : decode cX1_init 60 = .ok (.new 7, 3) := by decide +kernel
theorem dX1_init_63 : decode cX1_init 63 = .ok (.dup, 1) := by decide +kernel
theorem dX1_init_64 : decode cX1_init 64 = .ok (.invokespecial 9, 3) := by decide +kernel
theorem dX1_init_67 : decode cX1_init 67 = .ok (.putfield 28, 3) := by decide +kernel
theorem dX1_init_70 : decode cX1_init 70 = .ok (.aload_n 0, 1) := by decide +kernel
theorem dX1_init_71 : decode cX1_init 71 = .ok (.new 7, 3) := by decide +kernel
theorem dX1_init_74 : decode cX1_init 74 = .ok (.dup, 1) := by decide +kernel
theorem dX1_init_75 : decode cX1_init 75 = .ok (.invokespecial 9, 3) := by decide +kernel
theorem dX1_init_78 : decode cX1_init 78 = .ok (.putfield 31, 3) := by decide +kernel
theorem dX1_init_81 : decode cX1_init 81 = .ok (.aload_n 0, 1) := by decide +kernel
theorem dX1_init_82 : decode cX1_init 82 = .ok (.new 7, 3) := by decide +kernel
theorem dX1_init_85 : decode cX1_init 85 = .ok (.dup, 1) := by decide +kernel
theorem dX1_init_86 : decode cX1_init 86 = .ok (.invokespecial 9, 3) := by decide +kernel
theorem dX1_init_89 : decode cX1_init 89 = .ok (.putfield 34, 3) := by decide +kernel
theorem dX1_init_92 : decode cX1_init 92 = .ok (.aload_n 0, 1) := by decide +kernel
theorem dX1_init_93 : decode cX1_init 93 = .ok (.new 7, 3) := by decide +kernel
theorem dX1_init_96 : decode cX1_init 96 = .ok (.dup, 1) := by decide +kernel
theorem dX1_init_97 : decode cX1_init 97 = .ok (.invokespecial 9, 3) := by decide +kernel
theorem dX1_init_100 : decode cX1_init 100 = .ok (.putfield 37, 3) := by decide +kernel
theorem dX1_init_103 : decode cX1_init 103 = .ok (.return_, 1) := by decide +kernel
theorem dX1_commonDivisor_0 : decode cX1_commonDivisor 0 = .ok (.lload_n 0, 1) := by decide +kernel
theorem dX1_commonDivisor_1 : decode cX1_commonDivisor 1 = .ok (.lstore 4, 2) := by decide +kernel
theorem dX1_commonDivisor_3 : decode cX1_commonDivisor 3 = .ok (.lload_n 2, 1) := by decide +kernel
theorem dX1_commonDivisor_4 : decode cX1_commonDivisor 4 = .ok (.lstore 6, 2) := by decide +kernel
theorem dX1_commonDivisor_6 : decode cX1_commonDivisor 6 = .ok (.iconst 0, 1) := by decide +kernel
theorem dX1_commonDivisor_7 : decode cX1_commonDivisor 7 = .ok (.istore 8, 2) := by decide +kernel
theorem dX1_commonDivisor_9 : decode cX1_commonDivisor 9 = .ok (.iload 8, 2) := by decide +kernel
theorem dX1_commonDivisor_11 : decode cX1_commonDivisor 11 = .ok (.sipush 10000, 3) := by decide +kernel
theorem dX1_commonDivisor_14 : decode cX1_commonDivisor 14 = .ok (.if_icmp .ge 31, 3) := by decide +kernel
theorem dX1_commonDivisor_17 : decode cX1_commonDivisor 17 = .ok (.lload 6, 2) := by decide +kernel
theorem dX1_commonDivisor_19 : decode cX1_commonDivisor 19 = .ok (.lconst 0, 1) := by decide +kernel
theorem dX1_commonDivisor_20 : decode cX1_commonDivisor 20 = .ok (.lcmp, 1) := by decide +kernel
theorem dX1_commonDivisor_21 : decode cX1_commonDivisor 21 = .ok (.ifCond .eq 24, 3) := by decide +kernel
theorem dX1_commonDivisor_24 : decode cX1_commonDivisor 24 = .ok (.lload 4, 2) := by decide +kernel
theorem dX1_commonDivisor_26 : decode cX1_commonDivisor 26 = .ok (.lload 6, 2) := by decide +kernel
theorem dX1_commonDivisor_28 : decode cX1_commonDivisor 28 = .ok (.lrem, 1) := by decide +kernel
theorem dX1_commonDivisor_29 : decode cX1_commonDivisor 29 = .ok (.lstore 9, 2) := by decide +kernel
theorem dX1_commonDivisor_31 : decode cX1_commonDivisor 31 = .ok (.lload 6, 2) := by decide +kernel
theorem dX1_commonDivisor_33 : decode cX1_commonDivisor 33 = .ok (.lstore 4, 2) := by decide +kernel
theorem dX1_commonDivisor_35 : decode cX1_commonDivisor 35 = .ok (.lload 9, 2) := by decide +kernel
theorem dX1_commonDivisor_37 : decode cX1_commonDivisor 37 = .ok (.lstore 6, 2) := by decide +kernel
theorem dX1_commonDivisor_39 : decode cX1_commonDivisor 39 = .ok (.iinc 8 1, 3) := by decide +kernel
theorem dX1_commonDivisor_42 : decode cX1_commonDivisor 42 = .ok (.goto (-33), 3) := by decide +kernel
theorem dX1_commonDivisor_45 : decode cX1_commonDivisor 45 = .ok (.lload 4, 2) := by decide +kernel
theorem dX1_commonDivisor_47 : decode cX1_commonDivisor 47 = .ok (.lreturn, 1) := by decide +kernel
theorem dX1_multiply_0 : decode cX1_multiply 0 = .ok (.aload_n 0, 1) := by decide +kernel
theorem dX1_multiply_1 : decode cX1_multiply 1 = .ok (.getfield 22, 3) := by decide +kernel
theorem dX1_multiply_4 : decode cX1_multiply 4 = .ok (.aload_n 1, 1) := by decide +kernel
theorem dX1_multiply_5 : decode cX1_multiply 5 = .ok (.aload_n 2, 1) := by decide +kernel
theorem dX1_multiply_6 : decode cX1_multiply 6 = .ok (.invokevirtual 40, 3) := by decide +kernel
theorem dX1_multiply_9 : decode cX1_multiply 9 = .ok (.aload_n 1, 1) := by decide +kernel
theorem dX1_multiply_10 : decode cX1_multiply 10 = .ok (.aload_n 0, 1) := by decide +kernel
theorem dX1_multiply_11 : decode cX1_multiply 11 = .ok (.getfield 22, 3) := by decide +kernel
theorem dX1_multiply_14 : decode cX1_multiply 14 = .ok (.invokevirtual 44, 3) := by decide +kernel
theorem dX1_multiply_17 : decode cX1_multiply 17 = .ok (.return_, 1) := by decide +kernel
theorem dX1_scale_0 : decode cX1_scale 0 = .ok (.aload_n 0, 1) := by decide +kernel
theorem dX1_scale_1 : decode cX1_scale 1 = .ok (.getfield 25, 3) := by decide +kernel
theorem dX1_scale_4 : decode cX1_scale 4 = .ok (.lload_n 2, 1) := by decide +kernel
theorem dX1_scale_5 : decode cX1_scale 5 = .ok (.invokevirtual 48, 3) := by decide +kernel
theorem dX1_scale_8 : decode cX1_scale 8 = .ok (.aload_n 0, 1) := by decide +kernel
theorem dX1_scale_9 : decode cX1_scale 9 = .ok (.getfield 22, 3) := by decide +kernel
theorem dX1_scale_12 : decode cX1_scale 12 = .ok (.aload_n 1, 1) := by decide +kernel
theorem dX1_scale_13 : decode cX1_scale 13 = .ok (.aload_n 0, 1) := by decide +kernel
theorem dX1_scale_14 : decode cX1_scale 14 = .ok (.getfield 25, 3) := by decide +kernel
theorem dX1_scale_17 : decode cX1_scale 17 = .ok (.invokevirtual 40, 3) := by decide +kernel
theorem dX1_scale_20 : decode cX1_scale 20 = .ok (.aload_n 1, 1) := by decide +kernel
theorem dX1_scale_21 : decode cX1_scale 21 = .ok (.aload_n 0, 1) := by decide +kernel
theorem dX1_scale_22 : decode cX1_scale 22 = .ok (.getfield 22, 3) := by decide +kernel
theorem dX1_scale_25 : decode cX1_scale 25 = .ok (.invokevirtual 44, 3) := by decide +kernel
theorem dX1_scale_28 : decode cX1_scale 28 = .ok (.return_, 1) := by decide +kernel
theorem dX1_divide_0 : decode cX1_divide 0 = .ok (.aload_n 0, 1) := by decide +kernel
theorem dX1_divide_1 : decode cX1_divide 1 = .ok (.getfield 10, 3) := by decide +kernel
theorem dX1_divide_4 : decode cX1_divide 4 = .ok (.lconst 0, 1) := by decide +kernel
theorem dX1_divide_5 : decode cX1_divide 5 = .ok (.invokevirtual 48, 3) := by decide +kernel
theorem dX1_divide_8 : decode cX1_divide 8 = .ok (.aload_n 2, 1) := by decide +kernel
theorem dX1_divide_9 : decode cX1_divide 9 = .ok (.invokevirtual 52, 3) := by decide +kernel
theorem dX1_divide_12 : decode cX1_divide 12 = .ok (.ifCond .ne 11, 3) := by decide +kernel
theorem dX1_divide_15 : decode cX1_divide 15 = .ok (.aload_n 1, 1) := by decide +kernel
theorem dX1_divide_16 : decode cX1_divide 16 = .ok (.aload_n 2, 1) := by decide +kernel
theorem dX1_divide_17 : decode cX1_divide 17 = .ok (.invokevirtual 56, 3) := by decide +kernel
theorem dX1_divide_20 : decode cX1_divide 20 = .ok (.ifCond .ge 4, 3) := by decide +kernel
theorem dX1_divide_23 : decode cX1_divide 23 = .ok (.return_, 1) := by decide +kernel
theorem dX1_divide_24 : decode cX1_divide 24 = .ok (.aload_n 2, 1) := by decide +kernel
theorem dX1_divide_25 : decode cX1_divide 25 = .ok (.getfield 60, 3) := by decide +kernel
theorem dX1_divide_28 : decode cX1_divide 28 = .ok (.iconst 1, 1) := by decide +kernel
theorem dX1_divide_29 : decode cX1_divide 29 = .ok (.if_icmp .ne 30, 3) := by decide +kernel
theorem dX1_divide_32 : decode cX1_divide 32 = .ok (.aload_n 0, 1) := by decide +kernel
theorem dX1_divide_33 : decode cX1_divide 33 = .ok (.getfield 10, 3) := by decide +kernel
theorem dX1_divide_36 : decode cX1_divide 36 = .ok (.aload_n 1, 1) := by decide +kernel
theorem dX1_divide_37 : decode cX1_divide 37 = .ok (.invokevirtual 44, 3) := by decide +kernel
theorem dX1_divide_40 : decode cX1_divide 40 = .ok (.aload_n 1, 1) := by decide +kernel
theorem dX1_divide_41 : decode cX1_divide 41 = .ok (.aload_n 0, 1) := by decide +kernel
theorem dX1_divide_42 : decode cX1_divide 42 = .ok (.getfield 10, 3) := by decide +kernel
theorem dX1_divide_45 : decode cX1_divide 45 = .ok (.aload_n 2, 1) := by decide +kernel
theorem dX1_divide_46 : decode cX1_divide 46 = .ok (.getfield 64, 3) := by decide +kernel
theorem dX1_divide_49 : decode cX1_divide 49 = .ok (.iconst 0, 1) := by decide +kernel
theorem dX1_divide_50 : decode cX1_divide 50 = .ok (.iaload, 1) := by decide +kernel
theorem dX1_divide_51 : decode cX1_divide 51 = .ok (.invokevirtual 68, 3) := by decide +kernel
theorem dX1_divide_54 : decode cX1_divide 54 = .ok (.i2l, 1) := by decide +kernel
theorem dX1_divide_55 : decode cX1_divide 55 = .ok (.invokevirtual 48, 3) := by decide +kernel
theorem dX1_divide_58 : decode cX1_divide 58 = .ok (.return_, 1) := by decide +kernel
theorem dX1_divide_59 : decode cX1_divide 59 = .ok (.aload_n 2, 1) := by decide +kernel
theorem dX1_divide_60 : decode cX1_divide 60 = .ok (.invokevirtual 72, 3) := by decide +kernel
theorem dX1_divide_63 : decode cX1_divide 63 = .ok (.istore_n 3, 1) := by decide +kernel
theorem dX1_divide_64 : decode cX1_divide 64 = .ok (.aload_n 0, 1) := by decide +kernel
theorem dX1_divide_65 : decode cX1_divide 65 = .ok (.getfield 31, 3) := by decide +kernel
theorem dX1_divide_68 : decode cX1_divide 68 = .ok (.aload_n 2, 1) := by decide +kernel
theorem dX1_divide_69 : decode cX1_divide 69 = .ok (.invokevirtual 44, 3) := by decide +kernel
theorem dX1_divide_72 : decode cX1_divide 72 = .ok (.aload_n 0, 1) := by decide +kernel
theorem dX1_divide_73 : decode cX1_divide 73 = .ok (.getfield 31, 3) := by decide +kernel
theorem dX1_divide_76 : decode cX1_divide 76 = .ok (.iload_n 3, 1) := by decide +kernel
theorem dX1_divide_77 : decode cX1_divide 77 = .ok (.invokevirtual 76, 3) := by decide +kernel
theorem dX1_divide_80 : decode cX1_divide 80 = .ok (.aload_n 1, 1) := by decide +kernel
theorem dX1_divide_81 : decode cX1_divide 81 = .ok (.iload_n 3, 1) := by decide +kernel
theorem dX1_divide_82 : decode cX1_divide 82 = .ok (.invokevirtual 76, 3) := by decide +kernel
theorem dX1_divide_85 : decode cX1_divide 85 = .ok (.aload_n 1, 1) := by decide +kernel
theorem dX1_divide_86 : decode cX1_divide 86 = .ok (.getfield 60, 3) := by decide +kernel
theorem dX1_divide_89 : decode cX1_divide 89 = .ok (.aload_n 0, 1) := by decide +kernel
theorem dX1_divide_90 : decode cX1_divide 90 = .ok (.getfield 31, 3) := by decide +kernel
theorem dX1_divide_93 : decode cX1_divide 93 = .ok (.getfield 60, 3) := by decide +kernel
theorem dX1_divide_96 : decode cX1_divide 96 = .ok (.isub, 1) := by decide +kernel
theorem dX1_divide_97 : decode cX1_divide 97 = .ok (.istore 4, 2) := by decide +kernel
theorem dX1_divide_99 : decode cX1_divide 99 = .ok (.iload 4, 2) := by decide +kernel
theorem dX1_divide_101 : decode cX1_divide 101 = .ok (.istore 5, 2) := by decide +kernel
theorem dX1_divide_103 : decode cX1_divide 103 = .ok (.iload 5, 2) := by decide +kernel
theorem dX1_divide_105 : decode cX1_divide 105 = .ok (.ifCond .lt 61, 3) := by decide +kernel
theorem dX1_divide_108 : decode cX1_divide 108 = .ok (.aload_n 1, 1) := by decide +kernel
theorem dX1_divide_109 : decode cX1_divide 109 = .ok (.aload_n 0, 1) := by decide +kernel
theorem dX1_divide_110 : decode cX1_divide 110 = .ok (.getfield 31, 3) := by decide +kernel
theorem dX1_divide_113 : decode cX1_divide 113 = .ok (.iload 5, 2) := by decide +kernel
theorem dX1_divide_115 : decode cX1_divide 115 = .ok (.invokevirtual 80, 3) := by decide +kernel
theorem dX1_divide_118 : decode cX1_divide 118 = .ok (.istore 6, 2) := by decide +kernel
theorem dX1_divide_120 : decode cX1_divide 120 = .ok (.aload_n 1, 1) := by decide +kernel
theorem dX1_divide_121 : decode cX1_divide 121 = .ok (.iload 5, 2) := by decide +kernel
theorem dX1_divide_123 : decode cX1_divide 123 = .ok (.aload_n 0, 1) := by decide +kernel
theorem dX1_divide_124 : decode cX1_divide 124 = .ok (.getfield 31, 3) := by decide +kernel
theorem dX1_divide_127 : decode cX1_divide 127 = .ok (.iload 6, 2) := by decide +kernel
theorem dX1_divide_129 : decode cX1_divide 129 = .ok (.invokevirtual 84, 3) := by decide +kernel
theorem dX1_divide_132 : decode cX1_divide 132 = .ok (.ifCond .eq 16, 3) := by decide +kernel
theorem dX1_divide_135 : decode cX1_divide 135 = .ok (.aload_n 1, 1) := by decide +kernel
theorem dX1_divide_136 : decode cX1_divide 136 = .ok (.iload 5, 2) := by decide +kernel
theorem dX1_divide_138 : decode cX1_divide 138 = .ok (.aload_n 0, 1) := by decide +kernel
theorem dX1_divide_139 : decode cX1_divide 139 = .ok (.getfield 31, 3) := by decide +kernel
theorem dX1_divide_142 : decode cX1_divide 142 = .ok (.invokevirtual 88, 3) := by decide +kernel
theorem dX1_divide_145 : decode cX1_divide 145 = .ok (.iinc 6 (-1), 3) := by decide +kernel
theorem dX1_divide_148 : decode cX1_divide 148 = .ok (.aload_n 0, 1) := by decide +kernel
theorem dX1_divide_149 : decode cX1_divide 149 = .ok (.getfield 10, 3) := by decide +kernel
theorem dX1_divide_152 : decode cX1_divide 152 = .ok (.getfield 64, 3) := by decide +kernel
theorem dX1_divide_155 : decode cX1_divide 155 = .ok (.iload 5, 2) := by decide +kernel
theorem dX1_divide_157 : decode cX1_divide 157 = .ok (.iload 6, 2) := by decide +kernel
theorem dX1_divide_159 : decode cX1_divide 159 = .ok (.iastore, 1) := by decide +kernel
theorem dX1_divide_160 : decode cX1_divide 160 = .ok (.iinc 5 (-1), 3) := by decide +kernel
theorem dX1_divide_163 : decode cX1_divide 163 = .ok (.goto (-60), 3) := by decide +kernel
theorem dX1_divide_166 : decode cX1_divide 166 = .ok (.aload_n 0, 1) := by decide +kernel
theorem dX1_divide_167 : decode cX1_divide 167 = .ok (.getfield 10, 3) := by decide +kernel
theorem dX1_divide_170 : decode cX1_divide 170 = .ok (.iload 4, 2) := by decide +kernel
theorem dX1_divide_172 : decode cX1_divide 172 = .ok (.iconst 1, 1) := by decide +kernel
theorem dX1_divide_173 : decode cX1_divide 173 = .ok (.iadd, 1) := by decide +kernel
theorem dX1_divide_174 : decode cX1_divide 174 = .ok (.invokevirtual 92, 3) := by decide +kernel
theorem dX1_divide_177 : decode cX1_divide 177 = .ok (.aload_n 1, 1) := by decide +kernel
theorem dX1_divide_178 : decode cX1_divide 178 = .ok (.aload_n 1, 1) := by decide +kernel
theorem dX1_divide_179 : decode cX1_divide 179 = .ok (.getfield 60, 3) := by decide +kernel
theorem dX1_divide_182 : decode cX1_divide 182 = .ok (.invokevirtual 92, 3) := by decide +kernel
theorem dX1_divide_185 : decode cX1_divide 185 = .ok (.aload_n 1, 1) := by decide +kernel
theorem dX1_divide_186 : decode cX1_divide 186 = .ok (.iload_n 3, 1) := by decide +kernel
theorem dX1_divide_187 : decode cX1_divide 187 = .ok (.invokevirtual 95, 3) := by decide +kernel
theorem dX1_divide_190 : decode cX1_divide 190 = .ok (.return_, 1) := by decide +kernel
theorem dX1_cancel_0 : decode cX1_cancel 0 = .ok (.aload_n 0, 1) := by decide +kernel
theorem dX1_cancel_1 : decode cX1_cancel 1 = .ok (.getfield 34, 3) := by decide +kernel
theorem dX1_cancel_4 : decode cX1_cancel 4 = .ok (.astore_n 3, 1) := by decide +kernel
theorem dX1_cancel_5 : decode cX1_cancel 5 = .ok (.aload_n 0, 1) := by decide +kernel
theorem dX1_cancel_6 : decode cX1_cancel 6 = .ok (.getfield 37, 3) := by decide +kernel
theorem dX1_cancel_9 : decode cX1_cancel 9 = .ok (.astore 4, 2) := by decide +kernel
theorem dX1_cancel_11 : decode cX1_cancel 11 = .ok (.aload_n 3, 1) := by decide +kernel
theorem dX1_cancel_12 : decode cX1_cancel 12 = .ok (.aload_n 1, 1) := by decide +kernel
theorem dX1_cancel_13 : decode cX1_cancel 13 = .ok (.invokevirtual 44, 3) := by decide +kernel
theorem dX1_cancel_16 : decode cX1_cancel 16 = .ok (.aload 4, 2) := by decide +kernel
theorem dX1_cancel_18 : decode cX1_cancel 18 = .ok (.aload_n 2, 1) := by decide +kernel
theorem dX1_cancel_19 : decode cX1_cancel 19 = .ok (.invokevirtual 44, 3) := by decide +kernel
theorem dX1_cancel_22 : decode cX1_cancel 22 = .ok (.iconst 0, 1) := by decide +kernel
theorem dX1_cancel_23 : decode cX1_cancel 23 = .ok (.istore 5, 2) := by decide +kernel
theorem dX1_cancel_25 : decode cX1_cancel 25 = .ok (.iload 5, 2) := by decide +kernel
theorem dX1_cancel_27 : decode cX1_cancel 27 = .ok (.sipush 10000, 3) := by decide +kernel
theorem dX1_cancel_30 : decode cX1_cancel 30 = .ok (.if_icmp .ge 34, 3) := by decide +kernel
theorem dX1_cancel_33 : decode cX1_cancel 33 = .ok (.aload 4, 2) := by decide +kernel
theorem dX1_cancel_35 : decode cX1_cancel 35 = .ok (.invokevirtual 98, 3) := by decide +kernel
theorem dX1_cancel_38 : decode cX1_cancel 38 = .ok (.ifCond .ne 26, 3) := by decide +kernel
theorem dX1_cancel_41 : decode cX1_cancel 41 = .ok (.aload_n 0, 1) := by decide +kernel
theorem dX1_cancel_42 : decode cX1_cancel 42 = .ok (.aload_n 3, 1) := by decide +kernel
theorem dX1_cancel_43 : decode cX1_cancel 43 = .ok (.aload 4, 2) := by decide +kernel
theorem dX1_cancel_45 : decode cX1_cancel 45 = .ok (.invokevirtual 101, 3) := by decide +kernel
theorem dX1_cancel_48 : decode cX1_cancel 48 = .ok (.aload_n 3, 1) := by decide +kernel
theorem dX1_cancel_49 : decode cX1_cancel 49 = .ok (.astore 6, 2) := by decide +kernel
theorem dX1_cancel_51 : decode cX1_cancel 51 = .ok (.aload 4, 2) := by decide +kernel
theorem dX1_cancel_53 : decode cX1_cancel 53 = .ok (.astore_n 3, 1) := by decide +kernel
theorem dX1_cancel_54 : decode cX1_cancel 54 = .ok (.aload 6, 2) := by decide +kernel
theorem dX1_cancel_56 : decode cX1_cancel 56 = .ok (.astore 4, 2) := by decide +kernel
theorem dX1_cancel_58 : decode cX1_cancel 58 = .ok (.iinc 5 1, 3) := by decide +kernel
theorem dX1_cancel_61 : decode cX1_cancel 61 = .ok (.goto (-36), 3) := by decide +kernel
theorem dX1_cancel_64 : decode cX1_cancel 64 = .ok (.aload 4, 2) := by decide +kernel
theorem dX1_cancel_66 : decode cX1_cancel 66 = .ok (.invokevirtual 52, 3) := by decide +kernel
theorem dX1_cancel_69 : decode cX1_cancel 69 = .ok (.ifCond .ne 26, 3) := by decide +kernel
theorem dX1_cancel_72 : decode cX1_cancel 72 = .ok (.aload_n 0, 1) := by decide +kernel
theorem dX1_cancel_73 : decode cX1_cancel 73 = .ok (.aload_n 3, 1) := by decide +kernel
theorem dX1_cancel_74 : decode cX1_cancel 74 = .ok (.aload 4, 2) := by decide +kernel
theorem dX1_cancel_76 : decode cX1_cancel 76 = .ok (.invokevirtual 101, 3) := by decide +kernel
theorem dX1_cancel_79 : decode cX1_cancel 79 = .ok (.aload_n 3, 1) := by decide +kernel
theorem dX1_cancel_80 : decode cX1_cancel 80 = .ok (.aload 4, 2) := by decide +kernel
theorem dX1_cancel_82 : decode cX1_cancel 82 = .ok (.invokevirtual 104, 3) := by decide +kernel
theorem dX1_cancel_85 : decode cX1_cancel 85 = .ok (.aload_n 3, 1) := by decide +kernel
theorem dX1_cancel_86 : decode cX1_cancel 86 = .ok (.invokevirtual 104, 3) := by decide +kernel
theorem dX1_cancel_89 : decode cX1_cancel 89 = .ok (.invokestatic 108, 3) := by decide +kernel
theorem dX1_cancel_92 : decode cX1_cancel 92 = .ok (.invokevirtual 48, 3) := by decide +kernel
theorem dX1_cancel_95 : decode cX1_cancel 95 = .ok (.aload_n 3, 1) := by decide +kernel
theorem dX1_cancel_96 : decode cX1_cancel 96 = .ok (.invokevirtual 52, 3) := by decide +kernel
theorem dX1_cancel_99 : decode cX1_cancel 99 = .ok (.ifCond .ne 10, 3) := by decide +kernel
theorem dX1_cancel_102 : decode cX1_cancel 102 = .ok (.aload_n 3, 1) := by decide +kernel
theorem dX1_cancel_103 : decode cX1_cancel 103 = .ok (.invokevirtual 112, 3) := by decide +kernel
theorem dX1_cancel_106 : decode cX1_cancel 106 = .ok (.ifCond .eq 4, 3) := by decide +kernel
theorem dX1_cancel_109 : decode cX1_cancel 109 = .ok (.return_, 1) := by decide +kernel
theorem dX1_cancel_110 : decode cX1_cancel 110 = .ok (.aload_n 0, 1) := by decide +kernel
theorem dX1_cancel_111 : decode cX1_cancel 111 = .ok (.aload_n 1, 1) := by decide +kernel
theorem dX1_cancel_112 : decode cX1_cancel 112 = .ok (.aload_n 3, 1) := by decide +kernel
theorem dX1_cancel_113 : decode cX1_cancel 113 = .ok (.invokevirtual 101, 3) := by decide +kernel
theorem dX1_cancel_116 : decode cX1_cancel 116 = .ok (.aload_n 1, 1) := by decide +kernel
theorem dX1_cancel_117 : decode cX1_cancel 117 = .ok (.aload_n 0, 1) := by decide +kernel
theorem dX1_cancel_118 : decode cX1_cancel 118 = .ok (.getfield 10, 3) := by decide +kernel
theorem dX1_cancel_121 : decode cX1_cancel 121 = .ok (.invokevirtual 44, 3) := by decide +kernel
theorem dX1_cancel_124 : decode cX1_cancel 124 = .ok (.aload_n 0, 1) := by decide +kernel
theorem dX1_cancel_125 : decode cX1_cancel 125 = .ok (.aload_n 2, 1) := by decide +kernel
theorem dX1_cancel_126 : decode cX1_cancel 126 = .ok (.aload_n 3, 1) := by decide +kernel
theorem dX1_cancel_127 : decode cX1_cancel 127 = .ok (.invokevirtual 101, 3) := by decide +kernel
theorem dX1_cancel_130 : decode cX1_cancel 130 = .ok (.aload_n 2, 1) := by decide +kernel
theorem dX1_cancel_131 : decode cX1_cancel 131 = .ok (.aload_n 0, 1) := by decide +kernel
theorem dX1_cancel_132 : decode cX1_cancel 132 = .ok (.getfield 10, 3) := by decide +kernel
theorem dX1_cancel_135 : decode cX1_cancel 135 = .ok (.invokevirtual 44, 3) := by decide +kernel
theorem dX1_cancel_138 : decode cX1_cancel 138 = .ok (.return_, 1) := by decide +kernel
theorem dX1_addUp_0 : decode cX1_addUp 0 = .ok (.aload_n 2, 1) := by decide +kernel
theorem dX1_addUp_1 : decode cX1_addUp 1 = .ok (.lconst 0, 1) := by decide +kernel
theorem dX1_addUp_2 : decode cX1_addUp 2 = .ok (.lconst 1, 1) := by decide +kernel
theorem dX1_addUp_3 : decode cX1_addUp 3 = .ok (.invokevirtual 115, 3) := by decide +kernel
theorem dX1_addUp_6 : decode cX1_addUp 6 = .ok (.iconst 0, 1) := by decide +kernel
theorem dX1_addUp_7 : decode cX1_addUp 7 = .ok (.istore_n 3, 1) := by decide +kernel
theorem dX1_addUp_8 : decode cX1_addUp 8 = .ok (.iload_n 3, 1) := by decide +kernel
theorem dX1_addUp_9 : decode cX1_addUp 9 = .ok (.bipush 8, 2) := by decide +kernel
theorem dX1_addUp_11 : decode cX1_addUp 11 = .ok (.if_icmp .ge 39, 3) := by decide +kernel
theorem dX1_addUp_14 : decode cX1_addUp 14 = .ok (.aload_n 1, 1) := by decide +kernel
theorem dX1_addUp_15 : decode cX1_addUp 15 = .ok (.iload_n 3, 1) := by decide +kernel
theorem dX1_addUp_16 : decode cX1_addUp 16 = .ok (.invokevirtual 122, 3) := by decide +kernel
theorem dX1_addUp_19 : decode cX1_addUp 19 = .ok (.ifCond .eq 25, 3) := by decide +kernel
theorem dX1_addUp_22 : decode cX1_addUp 22 = .ok (.aload_n 0, 1) := by decide +kernel
theorem dX1_addUp_23 : decode cX1_addUp 23 = .ok (.aload_n 2, 1) := by decide +kernel
theorem dX1_addUp_24 : decode cX1_addUp 24 = .ok (.aload_n 1, 1) := by decide +kernel
theorem dX1_addUp_25 : decode cX1_addUp 25 = .ok (.iload_n 3, 1) := by decide +kernel
theorem dX1_addUp_26 : decode cX1_addUp 26 = .ok (.invokevirtual 126, 3) := by decide +kernel
theorem dX1_addUp_29 : decode cX1_addUp 29 = .ok (.aload_n 1, 1) := by decide +kernel
theorem dX1_addUp_30 : decode cX1_addUp 30 = .ok (.getfield 130, 3) := by decide +kernel
theorem dX1_addUp_33 : decode cX1_addUp 33 = .ok (.iload_n 3, 1) := by decide +kernel
theorem dX1_addUp_34 : decode cX1_addUp 34 = .ok (.laload, 1) := by decide +kernel
theorem dX1_addUp_35 : decode cX1_addUp 35 = .ok (.aload_n 1, 1) := by decide +kernel
theorem dX1_addUp_36 : decode cX1_addUp 36 = .ok (.getfield 134, 3) := by decide +kernel
theorem dX1_addUp_39 : decode cX1_addUp 39 = .ok (.iload_n 3, 1) := by decide +kernel
theorem dX1_addUp_40 : decode cX1_addUp 40 = .ok (.laload, 1) := by decide +kernel
theorem dX1_addUp_41 : decode cX1_addUp 41 = .ok (.invokevirtual 137, 3) := by decide +kernel
theorem dX1_addUp_44 : decode cX1_addUp 44 = .ok (.iinc 3 1, 3) := by decide +kernel
theorem dX1_addUp_47 : decode cX1_addUp 47 = .ok (.goto (-39), 3) := by decide +kernel
theorem dX1_addUp_50 : decode cX1_addUp 50 = .ok (.return_, 1) := by decide +kernel
theorem dX1_addTo_0 : decode cX1_addTo 0 = .ok (.lconst 1, 1) := by decide +kernel
theorem dX1_addTo_1 : decode cX1_addTo 1 = .ok (.lload_n 2, 1) := by decide +kernel
theorem dX1_addTo_2 : decode cX1_addTo 2 = .ok (.lload 6, 2) := by decide +kernel
theorem dX1_addTo_4 : decode cX1_addTo 4 = .ok (.invokestatic 108, 3) := by decide +kernel
theorem dX1_addTo_7 : decode cX1_addTo 7 = .ok (.invokestatic 141, 3) := by decide +kernel
theorem dX1_addTo_10 : decode cX1_addTo 10 = .ok (.lstore 8, 2) := by decide +kernel
theorem dX1_addTo_12 : decode cX1_addTo 12 = .ok (.lload 6, 2) := by decide +kernel
theorem dX1_addTo_14 : decode cX1_addTo 14 = .ok (.lload 8, 2) := by decide +kernel
theorem dX1_addTo_16 : decode cX1_addTo 16 = .ok (.ldiv, 1) := by decide +kernel
theorem dX1_addTo_17 : decode cX1_addTo 17 = .ok (.lstore 10, 2) := by decide +kernel
theorem dX1_addTo_19 : decode cX1_addTo 19 = .ok (.aload_n 0, 1) := by decide +kernel
theorem dX1_addTo_20 : decode cX1_addTo 20 = .ok (.getfield 28, 3) := by decide +kernel
theorem dX1_addTo_23 : decode cX1_addTo 23 = .ok (.lload_n 2, 1) := by decide +kernel
theorem dX1_addTo_24 : decode cX1_addTo 24 = .ok (.lload 8, 2) := by decide +kernel
theorem dX1_addTo_26 : decode cX1_addTo 26 = .ok (.ldiv, 1) := by decide +kernel
theorem dX1_addTo_27 : decode cX1_addTo 27 = .ok (.invokevirtual 48, 3) := by decide +kernel
theorem dX1_addTo_30 : decode cX1_addTo 30 = .ok (.aload_n 0, 1) := by decide +kernel
theorem dX1_addTo_31 : decode cX1_addTo 31 = .ok (.aload_n 0, 1) := by decide +kernel
theorem dX1_addTo_32 : decode cX1_addTo 32 = .ok (.getfield 28, 3) := by decide +kernel
theorem dX1_addTo_35 : decode cX1_addTo 35 = .ok (.lload 4, 2) := by decide +kernel
theorem dX1_addTo_37 : decode cX1_addTo 37 = .ok (.invokevirtual 146, 3) := by decide +kernel
theorem dX1_addTo_40 : decode cX1_addTo 40 = .ok (.aload_n 0, 1) := by decide +kernel
theorem dX1_addTo_41 : decode cX1_addTo 41 = .ok (.aload_n 0, 1) := by decide +kernel
theorem dX1_addTo_42 : decode cX1_addTo 42 = .ok (.getfield 28, 3) := by decide +kernel
theorem dX1_addTo_45 : decode cX1_addTo 45 = .ok (.aload_n 1, 1) := by decide +kernel
theorem dX1_addTo_46 : decode cX1_addTo 46 = .ok (.getfield 150, 3) := by decide +kernel
theorem dX1_addTo_49 : decode cX1_addTo 49 = .ok (.invokevirtual 153, 3) := by decide +kernel
theorem dX1_addTo_52 : decode cX1_addTo 52 = .ok (.aload_n 0, 1) := by decide +kernel
theorem dX1_addTo_53 : decode cX1_addTo 53 = .ok (.aload_n 1, 1) := by decide +kernel
theorem dX1_addTo_54 : decode cX1_addTo 54 = .ok (.getfield 156, 3) := by decide +kernel
theorem dX1_addTo_57 : decode cX1_addTo 57 = .ok (.lload 10, 2) := by decide +kernel
theorem dX1_addTo_59 : decode cX1_addTo 59 = .ok (.invokevirtual 146, 3) := by decide +kernel
theorem dX1_addTo_62 : decode cX1_addTo 62 = .ok (.aload_n 0, 1) := by decide +kernel
theorem dX1_addTo_63 : decode cX1_addTo 63 = .ok (.aload_n 1, 1) := by decide +kernel
theorem dX1_addTo_64 : decode cX1_addTo 64 = .ok (.getfield 150, 3) := by decide +kernel
theorem dX1_addTo_67 : decode cX1_addTo 67 = .ok (.lload 10, 2) := by decide +kernel
theorem dX1_addTo_69 : decode cX1_addTo 69 = .ok (.invokevirtual 146, 3) := by decide +kernel
theorem dX1_addTo_72 : decode cX1_addTo 72 = .ok (.aload_n 1, 1) := by decide +kernel
theorem dX1_addTo_73 : decode cX1_addTo 73 = .ok (.getfield 156, 3) := by decide +kernel
theorem dX1_addTo_76 : decode cX1_addTo 76 = .ok (.aload_n 0, 1) := by decide +kernel
theorem dX1_addTo_77 : decode cX1_addTo 77 = .ok (.getfield 28, 3) := by decide +kernel
theorem dX1_addTo_80 : decode cX1_addTo 80 = .ok (.invokevirtual 159, 3) := by decide +kernel
theorem dX1_addTo_83 : decode cX1_addTo 83 = .ok (.return_, 1) := by decide +kernel
theorem dX1_weigh_0 : decode cX1_weigh 0 = .ok (.aload_n 0, 1) := by decide +kernel
theorem dX1_weigh_1 : decode cX1_weigh 1 = .ok (.getfield 16, 3) := by decide +kernel
theorem dX1_weigh_4 : decode cX1_weigh 4 = .ok (.aload 4, 2) := by decide +kernel
theorem dX1_weigh_6 : decode cX1_weigh 6 = .ok (.getfield 150, 3) := by decide +kernel
theorem dX1_weigh_9 : decode cX1_weigh 9 = .ok (.invokevirtual 44, 3) := by decide +kernel
theorem dX1_weigh_12 : decode cX1_weigh 12 = .ok (.aload_n 0, 1) := by decide +kernel
theorem dX1_weigh_13 : decode cX1_weigh 13 = .ok (.aload_n 0, 1) := by decide +kernel
theorem dX1_weigh_14 : decode cX1_weigh 14 = .ok (.getfield 16, 3) := by decide +kernel
theorem dX1_weigh_17 : decode cX1_weigh 17 = .ok (.aload_n 1, 1) := by decide +kernel
theorem dX1_weigh_18 : decode cX1_weigh 18 = .ok (.iload_n 2, 1) := by decide +kernel
theorem dX1_weigh_19 : decode cX1_weigh 19 = .ok (.invokevirtual 126, 3) := by decide +kernel
theorem dX1_weigh_22 : decode cX1_weigh 22 = .ok (.invokevirtual 146, 3) := by decide +kernel
theorem dX1_weigh_25 : decode cX1_weigh 25 = .ok (.aload_n 0, 1) := by decide +kernel
theorem dX1_weigh_26 : decode cX1_weigh 26 = .ok (.aload_n 0, 1) := by decide +kernel
theorem dX1_weigh_27 : decode cX1_weigh 27 = .ok (.getfield 16, 3) := by decide +kernel
theorem dX1_weigh_30 : decode cX1_weigh 30 = .ok (.aload_n 1, 1) := by decide +kernel
theorem dX1_weigh_31 : decode cX1_weigh 31 = .ok (.getfield 130, 3) := by decide +kernel
theorem dX1_weigh_34 : decode cX1_weigh 34 = .ok (.iload_n 2, 1) := by decide +kernel
theorem dX1_weigh_35 : decode cX1_weigh 35 = .ok (.laload, 1) := by decide +kernel
theorem dX1_weigh_36 : decode cX1_weigh 36 = .ok (.invokevirtual 146, 3) := by decide +kernel
theorem dX1_weigh_39 : decode cX1_weigh 39 = .ok (.aload_n 0, 1) := by decide +kernel
theorem dX1_weigh_40 : decode cX1_weigh 40 = .ok (.aload_n 0, 1) := by decide +kernel
theorem dX1_weigh_41 : decode cX1_weigh 41 = .ok (.getfield 16, 3) := by decide +kernel
theorem dX1_weigh_44 : decode cX1_weigh 44 = .ok (.iload_n 3, 1) := by decide +kernel
theorem dX1_weigh_45 : decode cX1_weigh 45 = .ok (.i2l, 1) := by decide +kernel
theorem dX1_weigh_46 : decode cX1_weigh 46 = .ok (.invokevirtual 146, 3) := by decide +kernel
theorem dX1_weigh_49 : decode cX1_weigh 49 = .ok (.aload_n 0, 1) := by decide +kernel
theorem dX1_weigh_50 : decode cX1_weigh 50 = .ok (.getfield 19, 3) := by decide +kernel
theorem dX1_weigh_53 : decode cX1_weigh 53 = .ok (.aload 4, 2) := by decide +kernel
theorem dX1_weigh_55 : decode cX1_weigh 55 = .ok (.getfield 156, 3) := by decide +kernel
theorem dX1_weigh_58 : decode cX1_weigh 58 = .ok (.invokevirtual 44, 3) := by decide +kernel
theorem dX1_weigh_61 : decode cX1_weigh 61 = .ok (.aload_n 0, 1) := by decide +kernel
theorem dX1_weigh_62 : decode cX1_weigh 62 = .ok (.aload_n 0, 1) := by decide +kernel
theorem dX1_weigh_63 : decode cX1_weigh 63 = .ok (.getfield 19, 3) := by decide +kernel
theorem dX1_weigh_66 : decode cX1_weigh 66 = .ok (.aload_n 1, 1) := by decide +kernel
theorem dX1_weigh_67 : decode cX1_weigh 67 = .ok (.getfield 134, 3) := by decide +kernel
theorem dX1_weigh_70 : decode cX1_weigh 70 = .ok (.iload_n 2, 1) := by decide +kernel
theorem dX1_weigh_71 : decode cX1_weigh 71 = .ok (.laload, 1) := by decide +kernel
theorem dX1_weigh_72 : decode cX1_weigh 72 = .ok (.invokevirtual 146, 3) := by decide +kernel
theorem dX1_weigh_75 : decode cX1_weigh 75 = .ok (.aload_n 0, 1) := by decide +kernel
theorem dX1_weigh_76 : decode cX1_weigh 76 = .ok (.aload_n 0, 1) := by decide +kernel
theorem dX1_weigh_77 : decode cX1_weigh 77 = .ok (.getfield 19, 3) := by decide +kernel
theorem dX1_weigh_80 : decode cX1_weigh 80 = .ok (.iload 5, 2) := by decide +kernel
theorem dX1_weigh_82 : decode cX1_weigh 82 = .ok (.i2l, 1) := by decide +kernel
theorem dX1_weigh_83 : decode cX1_weigh 83 = .ok (.invokevirtual 146, 3) := by decide +kernel
theorem dX1_weigh_86 : decode cX1_weigh 86 = .ok (.return_, 1) := by decide +kernel
theorem dX1_sameLevel_0 : decode cX1_sameLevel 0 = .ok (.aload_n 0, 1) := by decide +kernel
theorem dX1_sameLevel_1 : decode cX1_sameLevel 1 = .ok (.getfield 16, 3) := by decide +kernel
theorem dX1_sameLevel_4 : decode cX1_sameLevel 4 = .ok (.aload_n 1, 1) := by decide +kernel
theorem dX1_sameLevel_5 : decode cX1_sameLevel 5 = .ok (.getfield 156, 3) := by decide +kernel
theorem dX1_sameLevel_8 : decode cX1_sameLevel 8 = .ok (.invokevirtual 44, 3) := by decide +kernel
theorem dX1_sameLevel_11 : decode cX1_sameLevel 11 = .ok (.aload_n 0, 1) := by decide +kernel
theorem dX1_sameLevel_12 : decode cX1_sameLevel 12 = .ok (.aload_n 0, 1) := by decide +kernel
theorem dX1_sameLevel_13 : decode cX1_sameLevel 13 = .ok (.getfield 16, 3) := by decide +kernel
theorem dX1_sameLevel_16 : decode cX1_sameLevel 16 = .ok (.aload_n 2, 1) := by decide +kernel
theorem dX1_sameLevel_17 : decode cX1_sameLevel 17 = .ok (.getfield 150, 3) := by decide +kernel
theorem dX1_sameLevel_20 : decode cX1_sameLevel 20 = .ok (.invokevirtual 153, 3) := by decide +kernel
theorem dX1_sameLevel_23 : decode cX1_sameLevel 23 = .ok (.aload_n 0, 1) := by decide +kernel
theorem dX1_sameLevel_24 : decode cX1_sameLevel 24 = .ok (.aload_n 0, 1) := by decide +kernel
theorem dX1_sameLevel_25 : decode cX1_sameLevel 25 = .ok (.getfield 16, 3) := by decide +kernel
theorem dX1_sameLevel_28 : decode cX1_sameLevel 28 = .ok (.aload_n 3, 1) := by decide +kernel
theorem dX1_sameLevel_29 : decode cX1_sameLevel 29 = .ok (.getfield 150, 3) := by decide +kernel
theorem dX1_sameLevel_32 : decode cX1_sameLevel 32 = .ok (.invokevirtual 153, 3) := by decide +kernel
theorem dX1_sameLevel_35 : decode cX1_sameLevel 35 = .ok (.aload_n 0, 1) := by decide +kernel
theorem dX1_sameLevel_36 : decode cX1_sameLevel 36 = .ok (.aload_n 0, 1) := by decide +kernel
theorem dX1_sameLevel_37 : decode cX1_sameLevel 37 = .ok (.getfield 16, 3) := by decide +kernel
theorem dX1_sameLevel_40 : decode cX1_sameLevel 40 = .ok (.aload 4, 2) := by decide +kernel
theorem dX1_sameLevel_42 : decode cX1_sameLevel 42 = .ok (.getfield 156, 3) := by decide +kernel
theorem dX1_sameLevel_45 : decode cX1_sameLevel 45 = .ok (.invokevirtual 153, 3) := by decide +kernel
theorem dX1_sameLevel_48 : decode cX1_sameLevel 48 = .ok (.aload_n 0, 1) := by decide +kernel
theorem dX1_sameLevel_49 : decode cX1_sameLevel 49 = .ok (.getfield 19, 3) := by decide +kernel
theorem dX1_sameLevel_52 : decode cX1_sameLevel 52 = .ok (.aload_n 3, 1) := by decide +kernel
theorem dX1_sameLevel_53 : decode cX1_sameLevel 53 = .ok (.getfield 156, 3) := by decide +kernel
theorem dX1_sameLevel_56 : decode cX1_sameLevel 56 = .ok (.invokevirtual 44, 3) := by decide +kernel
theorem dX1_sameLevel_59 : decode cX1_sameLevel 59 = .ok (.aload_n 0, 1) := by decide +kernel
theorem dX1_sameLevel_60 : decode cX1_sameLevel 60 = .ok (.aload_n 0, 1) := by decide +kernel
theorem dX1_sameLevel_61 : decode cX1_sameLevel 61 = .ok (.getfield 19, 3) := by decide +kernel
theorem dX1_sameLevel_64 : decode cX1_sameLevel 64 = .ok (.aload 4, 2) := by decide +kernel
theorem dX1_sameLevel_66 : decode cX1_sameLevel 66 = .ok (.getfield 150, 3) := by decide +kernel
theorem dX1_sameLevel_69 : decode cX1_sameLevel 69 = .ok (.invokevirtual 153, 3) := by decide +kernel
theorem dX1_sameLevel_72 : decode cX1_sameLevel 72 = .ok (.aload_n 0, 1) := by decide +kernel
theorem dX1_sameLevel_73 : decode cX1_sameLevel 73 = .ok (.aload_n 0, 1) := by decide +kernel
theorem dX1_sameLevel_74 : decode cX1_sameLevel 74 = .ok (.getfield 19, 3) := by decide +kernel
theorem dX1_sameLevel_77 : decode cX1_sameLevel 77 = .ok (.aload_n 1, 1) := by decide +kernel
theorem dX1_sameLevel_78 : decode cX1_sameLevel 78 = .ok (.getfield 150, 3) := by decide +kernel
theorem dX1_sameLevel_81 : decode cX1_sameLevel 81 = .ok (.invokevirtual 153, 3) := by decide +kernel
theorem dX1_sameLevel_84 : decode cX1_sameLevel 84 = .ok (.aload_n 0, 1) := by decide +kernel
theorem dX1_sameLevel_85 : decode cX1_sameLevel 85 = .ok (.aload_n 0, 1) := by decide +kernel
theorem dX1_sameLevel_86 : decode cX1_sameLevel 86 = .ok (.getfield 19, 3) := by decide +kernel
theorem dX1_sameLevel_89 : decode cX1_sameLevel 89 = .ok (.aload_n 2, 1) := by decide +kernel
theorem dX1_sameLevel_90 : decode cX1_sameLevel 90 = .ok (.getfield 156, 3) := by decide +kernel
theorem dX1_sameLevel_93 : decode cX1_sameLevel 93 = .ok (.invokevirtual 153, 3) := by decide +kernel
theorem dX1_sameLevel_96 : decode cX1_sameLevel 96 = .ok (.aload_n 0, 1) := by decide +kernel
theorem dX1_sameLevel_97 : decode cX1_sameLevel 97 = .ok (.getfield 16, 3) := by decide +kernel
theorem dX1_sameLevel_100 : decode cX1_sameLevel 100 = .ok (.aload_n 0, 1) := by decide +kernel
theorem dX1_sameLevel_101 : decode cX1_sameLevel 101 = .ok (.getfield 19, 3) := by decide +kernel
theorem dX1_sameLevel_104 : decode cX1_sameLevel 104 = .ok (.invokevirtual 56, 3) := by decide +kernel
theorem dX1_sameLevel_107 : decode cX1_sameLevel 107 = .ok (.ifCond .ne 7, 3) := by decide +kernel
theorem dX1_sameLevel_110 : decode cX1_sameLevel 110 = .ok (.iconst 1, 1) := by decide +kernel
theorem dX1_sameLevel_111 : decode cX1_sameLevel 111 = .ok (.goto 4, 3) := by decide +kernel
theorem dX1_sameLevel_114 : decode cX1_sameLevel 114 = .ok (.iconst 0, 1) := by decide +kernel
theorem dX1_sameLevel_115 : decode cX1_sameLevel 115 = .ok (.ireturn, 1) := by decide +kernel
theorem dX2_init_0 : decode cX2_init 0 = .ok (.aload_n 0, 1) := by decide +kernel
theorem dX2_init_1 : decode cX2_init 1 = .ok (.invokespecial 1, 3) := by decide +kernel
theorem dX2_init_4 : decode cX2_init 4 = .ok (.aload_n 0, 1) := by decide +kernel
theorem dX2_init_5 : decode cX2_init 5 = .ok (.new 7, 3) := by decide +kernel
theorem dX2_init_8 : decode cX2_init 8 = .ok (.dup, 1) := by decide +kernel
theorem dX2_init_9 : decode cX2_init 9 = .ok (.invokespecial 9, 3) := by decide +kernel
theorem dX2_init_12 : decode cX2_init 12 = .ok (.putfield 10, 3) := by decide +kernel
theorem dX2_init_15 : decode cX2_init 15 = .ok (.aload_n 0, 1) := by decide +kernel
theorem dX2_init_16 : decode cX2_init 16 = .ok (.new 7, 3) := by decide +kernel
theorem dX2_init_19 : decode cX2_init 19 = .ok (.dup, 1) := by decide +kernel
theorem dX2_init_20 : decode cX2_init 20 = .ok (.invokespecial 9, 3) := by decide +kernel
theorem dX2_init_23 : decode cX2_init 23 = .ok (.putfield 16, 3) := by decide +kernel
theorem dX2_init_26 : decode cX2_init 26 = .ok (.return_, 1) := by decide +kernel
theorem dX2_become_0 : decode cX2_become 0 = .ok (.aload_n 0, 1) := by decide +kernel
theorem dX2_become_1 : decode cX2_become 1 = .ok (.getfield 10, 3) := by decide +kernel
theorem dX2_become_4 : decode cX2_become 4 = .ok (.lload_n 1, 1) := by decide +kernel
theorem dX2_become_5 : decode cX2_become 5 = .ok (.invokevirtual 19, 3) := by decide +kernel
theorem dX2_become_8 : decode cX2_become 8 = .ok (.aload_n 0, 1) := by decide +kernel
theorem dX2_become_9 : decode cX2_become 9 = .ok (.getfield 16, 3) := by decide +kernel
theorem dX2_become_12 : decode cX2_become 12 = .ok (.lload_n 3, 1) := by decide +kernel
theorem dX2_become_13 : decode cX2_become 13 = .ok (.invokevirtual 19, 3) := by decide +kernel
theorem dX2_become_16 : decode cX2_become 16 = .ok (.return_, 1) := by decide +kernel
theorem dX2_copy_0 : decode cX2_copy 0 = .ok (.aload_n 0, 1) := by decide +kernel
theorem dX2_copy_1 : decode cX2_copy 1 = .ok (.getfield 10, 3) := by decide +kernel
theorem dX2_copy_4 : decode cX2_copy 4 = .ok (.aload_n 1, 1) := by decide +kernel
theorem dX2_copy_5 : decode cX2_copy 5 = .ok (.getfield 10, 3) := by decide +kernel
theorem dX2_copy_8 : decode cX2_copy 8 = .ok (.invokevirtual 23, 3) := by decide +kernel
theorem dX2_copy_11 : decode cX2_copy 11 = .ok (.aload_n 0, 1) := by decide +kernel
theorem dX2_copy_12 : decode cX2_copy 12 = .ok (.getfield 16, 3) := by decide +kernel
theorem dX2_copy_15 : decode cX2_copy 15 = .ok (.aload_n 1, 1) := by decide +kernel
theorem dX2_copy_16 : decode cX2_copy 16 = .ok (.getfield 16, 3) := by decide +kernel
theorem dX2_copy_19 : decode cX2_copy 19 = .ok (.invokevirtual 23, 3) := by decide +kernel
theorem dX2_copy_22 : decode cX2_copy 22 = .ok (.return_, 1) := by decide +kernel
theorem dX2_mostDigits_0 : decode cX2_mostDigits 0 = .ok (.aload_n 0, 1) := by decide +kernel
theorem dX2_mostDigits_1 : decode cX2_mostDigits 1 = .ok (.getfield 10, 3) := by decide +kernel
theorem dX2_mostDigits_4 : decode cX2_mostDigits 4 = .ok (.invokevirtual 27, 3) := by decide +kernel
theorem dX2_mostDigits_7 : decode cX2_mostDigits 7 = .ok (.aload_n 0, 1) := by decide +kernel
theorem dX2_mostDigits_8 : decode cX2_mostDigits 8 = .ok (.getfield 16, 3) := by decide +kernel
theorem dX2_mostDigits_11 : decode cX2_mostDigits 11 = .ok (.invokevirtual 27, 3) := by decide +kernel
theorem dX2_mostDigits_14 : decode cX2_mostDigits 14 = .ok (.invokestatic 31, 3) := by decide +kernel
theorem dX2_mostDigits_17 : decode cX2_mostDigits 17 = .ok (.ireturn, 1) := by decide +kernel
theorem dX5_init_0 : decode cX5_init 0 = .ok (.aload_n 0, 1) := by decide +kernel
theorem dX5_init_1 : decode cX5_init 1 = .ok (.invokespecial 1, 3) := by decide +kernel
theorem dX5_init_4 : decode cX5_init 4 = .ok (.aload_n 0, 1) := by decide +kernel
theorem dX5_init_5 : decode cX5_init 5 = .ok (.iconst 3, 1) := by decide +kernel
theorem dX5_init_6 : decode cX5_init 6 = .ok (.bipush 8, 2) := by decide +kernel
theorem dX5_init_8 : decode cX5_init 8 = .ok (.multianewarray 9 2, 4) := by decide +kernel
theorem dX5_init_12 : decode cX5_init 12 = .ok (.putfield 11, 3) := by decide +kernel
theorem dX5_init_15 : decode cX5_init 15 = .ok (.aload_n 0, 1) := by decide +kernel
theorem dX5_init_16 : decode cX5_init 16 = .ok (.bipush 8, 2) := by decide +kernel
theorem dX5_init_18 : decode cX5_init 18 = .ok (.newarray .long, 2) := by decide +kernel
theorem dX5_init_20 : decode cX5_init 20 = .ok (.putfield 14, 3) := by decide +kernel
theorem dX5_init_23 : decode cX5_init 23 = .ok (.aload_n 0, 1) := by decide +kernel
theorem dX5_init_24 : decode cX5_init 24 = .ok (.bipush 8, 2) := by decide +kernel
theorem dX5_init_26 : decode cX5_init 26 = .ok (.newarray .long, 2) := by decide +kernel
theorem dX5_init_28 : decode cX5_init 28 = .ok (.putfield 18, 3) := by decide +kernel
theorem dX5_init_31 : decode cX5_init 31 = .ok (.iconst 0, 1) := by decide +kernel
theorem dX5_init_32 : decode cX5_init 32 = .ok (.istore_n 1, 1) := by decide +kernel
theorem dX5_init_33 : decode cX5_init 33 = .ok (.iload_n 1, 1) := by decide +kernel
theorem dX5_init_34 : decode cX5_init 34 = .ok (.iconst 3, 1) := by decide +kernel
theorem dX5_init_35 : decode cX5_init 35 = .ok (.if_icmp .ge 19, 3) := by decide +kernel
theorem dX5_init_38 : decode cX5_init 38 = .ok (.aload_n 0, 1) := by decide +kernel
theorem dX5_init_39 : decode cX5_init 39 = .ok (.getfield 11, 3) := by decide +kernel
theorem dX5_init_42 : decode cX5_init 42 = .ok (.iload_n 1, 1) := by decide +kernel
theorem dX5_init_43 : decode cX5_init 43 = .ok (.aaload, 1) := by decide +kernel
theorem dX5_init_44 : decode cX5_init 44 = .ok (.iconst 1, 1) := by decide +kernel
theorem dX5_init_45 : decode cX5_init 45 = .ok (.invokestatic 21, 3) := by decide +kernel
theorem dX5_init_48 : decode cX5_init 48 = .ok (.iinc 1 1, 3) := by decide +kernel
theorem dX5_init_51 : decode cX5_init 51 = .ok (.goto (-18), 3) := by decide +kernel
theorem dX5_init_54 : decode cX5_init 54 = .ok (.aload_n 0, 1) := by decide +kernel
theorem dX5_init_55 : decode cX5_init 55 = .ok (.invokevirtual 27, 3) := by decide +kernel
theorem dX5_init_58 : decode cX5_init 58 = .ok (.aload_n 0, 1) := by decide +kernel
theorem dX5_init_59 : decode cX5_init 59 = .ok (.iconst 0, 1) := by decide +kernel
theorem dX5_init_60 : decode cX5_init 60 = .ok (.putfield 30, 3) := by decide +kernel
theorem dX5_init_63 : decode cX5_init 63 = .ok (.return_, 1) := by decide +kernel
theorem dX5_has_0 : decode cX5_has 0 = .ok (.iload_n 0, 1) := by decide +kernel
theorem dX5_has_1 : decode cX5_has 1 = .ok (.ifCond .lt 13, 3) := by decide +kernel
theorem dX5_has_4 : decode cX5_has 4 = .ok (.iload_n 0, 1) := by decide +kernel
theorem dX5_has_5 : decode cX5_has 5 = .ok (.bipush 8, 2) := by decide +kernel
theorem dX5_has_7 : decode cX5_has 7 = .ok (.if_icmp .ge 7, 3) := by decide +kernel
theorem dX5_has_10 : decode cX5_has 10 = .ok (.iconst 1, 1) := by decide +kernel
theorem dX5_has_11 : decode cX5_has 11 = .ok (.goto 4, 3) := by decide +kernel
theorem dX5_has_14 : decode cX5_has 14 = .ok (.iconst 0, 1) := by decide +kernel
theorem dX5_has_15 : decode cX5_has 15 = .ok (.ireturn, 1) := by decide +kernel
theorem dX5_fits_0 : decode cX5_fits 0 = .ok (.lload_n 1, 1) := by decide +kernel
theorem dX5_fits_1 : decode cX5_fits 1 = .ok (.lconst 1, 1) := by decide +kernel
theorem dX5_fits_2 : decode cX5_fits 2 = .ok (.lcmp, 1) := by decide +kernel
theorem dX5_fits_3 : decode cX5_fits 3 = .ok (.ifCond .lt 18, 3) := by decide +kernel
theorem dX5_fits_6 : decode cX5_fits 6 = .ok (.lload_n 1, 1) := by decide +kernel
theorem dX5_fits_7 : decode cX5_fits 7 = .ok (.getstatic 34, 3) := by decide +kernel
theorem dX5_fits_10 : decode cX5_fits 10 = .ok (.iload_n 0, 1) := by decide +kernel
theorem dX5_fits_11 : decode cX5_fits 11 = .ok (.iaload, 1) := by decide +kernel
theorem dX5_fits_12 : decode cX5_fits 12 = .ok (.i2l, 1) := by decide +kernel
theorem dX5_fits_13 : decode cX5_fits 13 = .ok (.lcmp, 1) := by decide +kernel
theorem dX5_fits_14 : decode cX5_fits 14 = .ok (.ifCond .gt 7, 3) := by decide +kernel
theorem dX5_fits_17 : decode cX5_fits 17 = .ok (.iconst 1, 1) := by decide +kernel
theorem dX5_fits_18 : decode cX5_fits 18 = .ok (.goto 4, 3) := by decide +kernel
theorem dX5_fits_21 : decode cX5_fits 21 = .ok (.iconst 0, 1) := by decide +kernel
theorem dX5_fits_22 : decode cX5_fits 22 = .ok (.ireturn, 1) := by decide +kernel
theorem dX5_isMember_0 : decode cX5_isMember 0 = .ok (.aload_n 0, 1) := by decide +kernel
theorem dX5_isMember_1 : decode cX5_isMember 1 = .ok (.getfield 30, 3) := by decide +kernel
theorem dX5_isMember_4 : decode cX5_isMember 4 = .ok (.iload_n 1, 1) := by decide +kernel
theorem dX5_isMember_5 : decode cX5_isMember 5 = .ok (.ishr, 1) := by decide +kernel
theorem dX5_isMember_6 : decode cX5_isMember 6 = .ok (.iconst 1, 1) := by decide +kernel
theorem dX5_isMember_7 : decode cX5_isMember 7 = .ok (.iand, 1) := by decide +kernel
theorem dX5_isMember_8 : decode cX5_isMember 8 = .ok (.iconst 1, 1) := by decide +kernel
theorem dX5_isMember_9 : decode cX5_isMember 9 = .ok (.if_icmp .ne 7, 3) := by decide +kernel
theorem dX5_isMember_12 : decode cX5_isMember 12 = .ok (.iconst 1, 1) := by decide +kernel
theorem dX5_isMember_13 : decode cX5_isMember 13 = .ok (.goto 4, 3) := by decide +kernel
theorem dX5_isMember_16 : decode cX5_isMember 16 = .ok (.iconst 0, 1) := by decide +kernel
theorem dX5_isMember_17 : decode cX5_isMember 17 = .ok (.ireturn, 1) := by decide +kernel
theorem dX5_hasFactorOne_0 : decode cX5_hasFactorOne 0 = .ok (.aload_n 0, 1) := by decide +kernel
theorem dX5_hasFactorOne_1 : decode cX5_hasFactorOne 1 = .ok (.getfield 14, 3) := by decide +kernel
theorem dX5_hasFactorOne_4 : decode cX5_hasFactorOne 4 = .ok (.iload_n 1, 1) := by decide +kernel
theorem dX5_hasFactorOne_5 : decode cX5_hasFactorOne 5 = .ok (.laload, 1) := by decide +kernel
theorem dX5_hasFactorOne_6 : decode cX5_hasFactorOne 6 = .ok (.aload_n 0, 1) := by decide +kernel
theorem dX5_hasFactorOne_7 : decode cX5_hasFactorOne 7 = .ok (.getfield 18, 3) := by decide +kernel
theorem dX5_hasFactorOne_10 : decode cX5_hasFactorOne 10 = .ok (.iload_n 1, 1) := by decide +kernel
theorem dX5_hasFactorOne_11 : decode cX5_hasFactorOne 11 = .ok (.laload, 1) := by decide +kernel
theorem dX5_hasFactorOne_12 : decode cX5_hasFactorOne 12 = .ok (.lcmp, 1) := by decide +kernel
theorem dX5_hasFactorOne_13 : decode cX5_hasFactorOne 13 = .ok (.ifCond .ne 7, 3) := by decide +kernel
theorem dX5_hasFactorOne_16 : decode cX5_hasFactorOne 16 = .ok (.iconst 1, 1) := by decide +kernel
theorem dX5_hasFactorOne_17 : decode cX5_hasFactorOne 17 = .ok (.goto 4, 3) := by decide +kernel
theorem dX5_hasFactorOne_20 : decode cX5_hasFactorOne 20 = .ok (.iconst 0, 1) := by decide +kernel
theorem dX5_hasFactorOne_21 : decode cX5_hasFactorOne 21 = .ok (.ireturn, 1) := by decide +kernel
theorem dX5_plainWorth_0 : decode cX5_plainWorth 0 = .ok (.aload_n 0, 1) := by decide +kernel
theorem dX5_plainWorth_1 : decode cX5_plainWorth 1 = .ok (.getfield 11, 3) := by decide +kernel
theorem dX5_plainWorth_4 : decode cX5_plainWorth 4 = .ok (.iconst 0, 1) := by decide +kernel
theorem dX5_plainWorth_5 : decode cX5_plainWorth 5 = .ok (.aaload, 1) := by decide +kernel
theorem dX5_plainWorth_6 : decode cX5_plainWorth 6 = .ok (.iload_n 1, 1) := by decide +kernel
theorem dX5_plainWorth_7 : decode cX5_plainWorth 7 = .ok (.iaload, 1) := by decide +kernel
theorem dX5_plainWorth_8 : decode cX5_plainWorth 8 = .ok (.i2l, 1) := by decide +kernel
theorem dX5_plainWorth_9 : decode cX5_plainWorth 9 = .ok (.aload_n 0, 1) := by decide +kernel
theorem dX5_plainWorth_10 : decode cX5_plainWorth 10 = .ok (.getfield 11, 3) := by decide +kernel
theorem dX5_plainWorth_13 : decode cX5_plainWorth 13 = .ok (.iconst 1, 1) := by decide +kernel
theorem dX5_plainWorth_14 : decode cX5_plainWorth 14 = .ok (.aaload, 1) := by decide +kernel
theorem dX5_plainWorth_15 : decode cX5_plainWorth 15 = .ok (.iload_n 1, 1) := by decide +kernel
theorem dX5_plainWorth_16 : decode cX5_plainWorth 16 = .ok (.iaload, 1) := by decide +kernel
theorem dX5_plainWorth_17 : decode cX5_plainWorth 17 = .ok (.i2l, 1) := by decide +kernel
theorem dX5_plainWorth_18 : decode cX5_plainWorth 18 = .ok (.lmul, 1) := by decide +kernel
theorem dX5_plainWorth_19 : decode cX5_plainWorth 19 = .ok (.aload_n 0, 1) := by decide +kernel
theorem dX5_plainWorth_20 : decode cX5_plainWorth 20 = .ok (.getfield 11, 3) := by decide +kernel
theorem dX5_plainWorth_23 : decode cX5_plainWorth 23 = .ok (.iconst 2, 1) := by decide +kernel
theorem dX5_plainWorth_24 : decode cX5_plainWorth 24 = .ok (.aaload, 1) := by decide +kernel
theorem dX5_plainWorth_25 : decode cX5_plainWorth 25 = .ok (.iload_n 1, 1) := by decide +kernel
theorem dX5_plainWorth_26 : decode cX5_plainWorth 26 = .ok (.iaload, 1) := by decide +kernel
theorem dX5_plainWorth_27 : decode cX5_plainWorth 27 = .ok (.i2l, 1) := by decide +kernel
theorem dX5_plainWorth_28 : decode cX5_plainWorth 28 = .ok (.lmul, 1) := by decide +kernel
theorem dX5_plainWorth_29 : decode cX5_plainWorth 29 = .ok (.lreturn, 1) := by decide +kernel
theorem dX5_copy_0 : decode cX5_copy 0 = .ok (.iconst 0, 1) := by decide +kernel
theorem dX5_copy_1 : decode cX5_copy 1 = .ok (.istore_n 2, 1) := by decide +kernel
theorem dX5_copy_2 : decode cX5_copy 2 = .ok (.iload_n 2, 1) := by decide +kernel
theorem dX5_copy_3 : decode cX5_copy 3 = .ok (.iconst 3, 1) := by decide +kernel
theorem dX5_copy_4 : decode cX5_copy 4 = .ok (.if_icmp .ge 28, 3) := by decide +kernel
theorem dX5_copy_7 : decode cX5_copy 7 = .ok (.aload_n 1, 1) := by decide +kernel
theorem dX5_copy_8 : decode cX5_copy 8 = .ok (.getfield 11, 3) := by decide +kernel
theorem dX5_copy_11 : decode cX5_copy 11 = .ok (.iload_n 2, 1) := by decide +kernel
theorem dX5_copy_12 : decode cX5_copy 12 = .ok (.aaload, 1) := by decide +kernel
theorem dX5_copy_13 : decode cX5_copy 13 = .ok (.iconst 0, 1) := by decide +kernel
theorem dX5_copy_14 : decode cX5_copy 14 = .ok (.aload_n 0, 1) := by decide +kernel
theorem dX5_copy_15 : decode cX5_copy 15 = .ok (.getfield 11, 3) := by decide +kernel
theorem dX5_copy_18 : decode cX5_copy 18 = .ok (.iload_n 2, 1) := by decide +kernel
theorem dX5_copy_19 : decode cX5_copy 19 = .ok (.aaload, 1) := by decide +kernel
theorem dX5_copy_20 : decode cX5_copy 20 = .ok (.iconst 0, 1) := by decide +kernel
theorem dX5_copy_21 : decode cX5_copy 21 = .ok (.bipush 8, 2) := by decide +kernel
theorem dX5_copy_23 : decode cX5_copy 23 = .ok (.invokestatic 38, 3) := by decide +kernel
theorem dX5_copy_26 : decode cX5_copy 26 = .ok (.iinc 2 1, 3) := by decide +kernel
theorem dX5_copy_29 : decode cX5_copy 29 = .ok (.goto (-27), 3) := by decide +kernel
theorem dX5_copy_32 : decode cX5_copy 32 = .ok (.aload_n 1, 1) := by decide +kernel
theorem dX5_copy_33 : decode cX5_copy 33 = .ok (.getfield 14, 3) := by decide +kernel
theorem dX5_copy_36 : decode cX5_copy 36 = .ok (.iconst 0, 1) := by decide +kernel
theorem dX5_copy_37 : decode cX5_copy 37 = .ok (.aload_n 0, 1) := by decide +kernel
theorem dX5_copy_38 : decode cX5_copy 38 = .ok (.getfield 14, 3) := by decide +kernel
theorem dX5_copy_41 : decode cX5_copy 41 = .ok (.iconst 0, 1) := by decide +kernel
theorem dX5_copy_42 : decode cX5_copy 42 = .ok (.bipush 8, 2) := by decide +kernel
theorem dX5_copy_44 : decode cX5_copy 44 = .ok (.invokestatic 38, 3) := by decide +kernel
theorem dX5_copy_47 : decode cX5_copy 47 = .ok (.aload_n 1, 1) := by decide +kernel
theorem dX5_copy_48 : decode cX5_copy 48 = .ok (.getfield 18, 3) := by decide +kernel
theorem dX5_copy_51 : decode cX5_copy 51 = .ok (.iconst 0, 1) := by decide +kernel
theorem dX5_copy_52 : decode cX5_copy 52 = .ok (.aload_n 0, 1) := by decide +kernel
theorem dX5_copy_53 : decode cX5_copy 53 = .ok (.getfield 18, 3) := by decide +kernel
theorem dX5_copy_56 : decode cX5_copy 56 = .ok (.iconst 0, 1) := by decide +kernel
theorem dX5_copy_57 : decode cX5_copy 57 = .ok (.bipush 8, 2) := by decide +kernel
theorem dX5_copy_59 : decode cX5_copy 59 = .ok (.invokestatic 38, 3) := by decide +kernel
theorem dX5_copy_62 : decode cX5_copy 62 = .ok (.aload_n 0, 1) := by decide +kernel
theorem dX5_copy_63 : decode cX5_copy 63 = .ok (.aload_n 1, 1) := by decide +kernel
theorem dX5_copy_64 : decode cX5_copy 64 = .ok (.getfield 30, 3) := by decide +kernel
theorem dX5_copy_67 : decode cX5_copy 67 = .ok (.putfield 30, 3) := by decide +kernel
theorem dX5_copy_70 : decode cX5_copy 70 = .ok (.return_, 1) := by decide +kernel
theorem dX5_resetFactors_0 : decode cX5_resetFactors 0 = .ok (.aload_n 0, 1) := by decide +kernel
theorem dX5_resetFactors_1 : decode cX5_resetFactors 1 = .ok (.getfield 14, 3) := by decide +kernel
theorem dX5_resetFactors_4 : decode cX5_resetFactors 4 = .ok (.lconst 1, 1) := by decide +kernel
theorem dX5_resetFactors_5 : decode cX5_resetFactors 5 = .ok (.invokestatic 44, 3) := by decide +kernel
theorem dX5_resetFactors_8 : decode cX5_resetFactors 8 = .ok (.aload_n 0, 1) := by decide +kernel
theorem dX5_resetFactors_9 : decode cX5_resetFactors 9 = .ok (.getfield 18, 3) := by decide +kernel
theorem dX5_resetFactors_12 : decode cX5_resetFactors 12 = .ok (.lconst 1, 1) := by decide +kernel
theorem dX5_resetFactors_13 : decode cX5_resetFactors 13 = .ok (.invokestatic 44, 3) := by decide +kernel
theorem dX5_resetFactors_16 : decode cX5_resetFactors 16 = .ok (.return_, 1) := by decide +kernel
theorem dX5_change_0 : decode cX5_change 0 = .ok (.iload_n 1, 1) := by decide +kernel
theorem dX5_change_1 : decode cX5_change 1 = .ok (.tableswitch 102 0 7 #[47, 56, 67, 67, 74, 80, 86, 94], 47) := by decide +kernel
theorem dX5_change_48 : decode cX5_change 48 = .ok (.aload_n 0, 1) := by decide +kernel
theorem dX5_change_49 : decode cX5_change 49 = .ok (.iload_n 2, 1) := by decide +kernel
theorem dX5_change_50 : decode cX5_change 50 = .ok (.iload_n 3, 1) := by decide +kernel
theorem dX5_change_51 : decode cX5_change 51 = .ok (.iload 4, 2) := by decide +kernel
theorem dX5_change_53 : decode cX5_change 53 = .ok (.invokevirtual 47, 3) := by decide +kernel
theorem dX5_change_56 : decode cX5_change 56 = .ok (.ireturn, 1) := by decide +kernel
theorem dX5_change_57 : decode cX5_change 57 = .ok (.aload_n 0, 1) := by decide +kernel
theorem dX5_change_58 : decode cX5_change 58 = .ok (.iload_n 2, 1) := by decide +kernel
theorem dX5_change_59 : decode cX5_change 59 = .ok (.iload_n 3, 1) := by decide +kernel
theorem dX5_change_60 : decode cX5_change 60 = .ok (.iload 4, 2) := by decide +kernel
theorem dX5_change_62 : decode cX5_change 62 = .ok (.iload 5, 2) := by decide +kernel
theorem dX5_change_64 : decode cX5_change 64 = .ok (.invokevirtual 51, 3) := by decide +kernel
theorem dX5_change_67 : decode cX5_change 67 = .ok (.ireturn, 1) := by decide +kernel
theorem dX5_change_68 : decode cX5_change 68 = .ok (.aload_n 0, 1) := by decide +kernel
theorem dX5_change_69 : decode cX5_change 69 = .ok (.iload_n 2, 1) := by decide +kernel
theorem dX5_change_70 : decode cX5_change 70 = .ok (.iload_n 3, 1) := by decide +kernel
theorem dX5_change_71 : decode cX5_change 71 = .ok (.invokevirtual 55, 3) := by decide +kernel
theorem dX5_change_74 : decode cX5_change 74 = .ok (.ireturn, 1) := by decide +kernel
theorem dX5_change_75 : decode cX5_change 75 = .ok (.aload_n 0, 1) := by decide +kernel
theorem dX5_change_76 : decode cX5_change 76 = .ok (.iload_n 2, 1) := by decide +kernel
theorem dX5_change_77 : decode cX5_change 77 = .ok (.invokevirtual 59, 3) := by decide +kernel
theorem dX5_change_80 : decode cX5_change 80 = .ok (.ireturn, 1) := by decide +kernel
theorem dX5_change_81 : decode cX5_change 81 = .ok (.aload_n 0, 1) := by decide +kernel
theorem dX5_change_82 : decode cX5_change 82 = .ok (.iload_n 2, 1) := by decide +kernel
theorem dX5_change_83 : decode cX5_change 83 = .ok (.invokevirtual 63, 3) := by decide +kernel
theorem dX5_change_86 : decode cX5_change 86 = .ok (.ireturn, 1) := by decide +kernel
theorem dX5_change_87 : decode cX5_change 87 = .ok (.aload_n 0, 1) := by decide +kernel
theorem dX5_change_88 : decode cX5_change 88 = .ok (.iload_n 2, 1) := by decide +kernel
theorem dX5_change_89 : decode cX5_change 89 = .ok (.iconst 1, 1) := by decide +kernel
theorem dX5_change_90 : decode cX5_change 90 = .ok (.iload_n 3, 1) := by decide +kernel
theorem dX5_change_91 : decode cX5_change 91 = .ok (.invokevirtual 66, 3) := by decide +kernel
theorem dX5_change_94 : decode cX5_change 94 = .ok (.ireturn, 1) := by decide +kernel
theorem dX5_change_95 : decode cX5_change 95 = .ok (.aload_n 0, 1) := by decide +kernel
theorem dX5_change_96 : decode cX5_change 96 = .ok (.iload_n 2, 1) := by decide +kernel
theorem dX5_change_97 : decode cX5_change 97 = .ok (.iconst 2, 1) := by decide +kernel
theorem dX5_change_98 : decode cX5_change 98 = .ok (.iload_n 3, 1) := by decide +kernel
theorem dX5_change_99 : decode cX5_change 99 = .ok (.invokevirtual 66, 3) := by decide +kernel
theorem dX5_change_102 : decode cX5_change 102 = .ok (.ireturn, 1) := by decide +kernel
theorem dX5_change_103 : decode cX5_change 103 = .ok (.aload_n 0, 1) := by decide +kernel
theorem dX5_change_104 : decode cX5_change 104 = .ok (.iload_n 3, 1) := by decide +kernel
theorem dX5_change_105 : decode cX5_change 105 = .ok (.invokevirtual 69, 3) := by decide +kernel
theorem dX5_change_108 : decode cX5_change 108 = .ok (.ireturn, 1) := by decide +kernel
theorem dX5_split_0 : decode cX5_split 0 = .ok (.iload_n 2, 1) := by decide +kernel
theorem dX5_split_1 : decode cX5_split 1 = .ok (.iload_n 3, 1) := by decide +kernel
theorem dX5_split_2 : decode cX5_split 2 = .ok (.invokestatic 72, 3) := by decide +kernel
theorem dX5_split_5 : decode cX5_split 5 = .ok (.ifCond .ne 5, 3) := by decide +kernel
theorem dX5_split_8 : decode cX5_split 8 = .ok (.iconst 1, 1) := by decide +kernel
theorem dX5_split_9 : decode cX5_split 9 = .ok (.ireturn, 1) := by decide +kernel
theorem dX5_split_10 : decode cX5_split 10 = .ok (.aload_n 0, 1) := by decide +kernel
theorem dX5_split_11 : decode cX5_split 11 = .ok (.getfield 11, 3) := by decide +kernel
theorem dX5_split_14 : decode cX5_split 14 = .ok (.iconst 1, 1) := by decide +kernel
theorem dX5_split_15 : decode cX5_split 15 = .ok (.aaload, 1) := by decide +kernel
theorem dX5_split_16 : decode cX5_split 16 = .ok (.iload_n 1, 1) := by decide +kernel
theorem dX5_split_17 : decode cX5_split 17 = .ok (.iaload, 1) := by decide +kernel
theorem dX5_split_18 : decode cX5_split 18 = .ok (.i2l, 1) := by decide +kernel
theorem dX5_split_19 : decode cX5_split 19 = .ok (.iload_n 2, 1) := by decide +kernel
theorem dX5_split_20 : decode cX5_split 20 = .ok (.i2l, 1) := by decide +kernel
theorem dX5_split_21 : decode cX5_split 21 = .ok (.lmul, 1) := by decide +kernel
theorem dX5_split_22 : decode cX5_split 22 = .ok (.lstore 4, 2) := by decide +kernel
theorem dX5_split_24 : decode cX5_split 24 = .ok (.aload_n 0, 1) := by decide +kernel
theorem dX5_split_25 : decode cX5_split 25 = .ok (.getfield 11, 3) := by decide +kernel
theorem dX5_split_28 : decode cX5_split 28 = .ok (.iconst 0, 1) := by decide +kernel
theorem dX5_split_29 : decode cX5_split 29 = .ok (.aaload, 1) := by decide +kernel
theorem dX5_split_30 : decode cX5_split 30 = .ok (.iload_n 1, 1) := by decide +kernel
theorem dX5_split_31 : decode cX5_split 31 = .ok (.iaload, 1) := by decide +kernel
theorem dX5_split_32 : decode cX5_split 32 = .ok (.i2l, 1) := by decide +kernel
theorem dX5_split_33 : decode cX5_split 33 = .ok (.iload_n 3, 1) := by decide +kernel
theorem dX5_split_34 : decode cX5_split 34 = .ok (.i2l, 1) := by decide +kernel
theorem dX5_split_35 : decode cX5_split 35 = .ok (.lmul, 1) := by decide +kernel
theorem dX5_split_36 : decode cX5_split 36 = .ok (.lstore 6, 2) := by decide +kernel
theorem dX5_split_38 : decode cX5_split 38 = .ok (.aload_n 0, 1) := by decide +kernel
theorem dX5_split_39 : decode cX5_split 39 = .ok (.iload_n 1, 1) := by decide +kernel
theorem dX5_split_40 : decode cX5_split 40 = .ok (.lload 4, 2) := by decide +kernel
theorem dX5_split_42 : decode cX5_split 42 = .ok (.iload_n 3, 1) := by decide +kernel
theorem dX5_split_43 : decode cX5_split 43 = .ok (.lload 6, 2) := by decide +kernel
theorem dX5_split_45 : decode cX5_split 45 = .ok (.iload_n 2, 1) := by decide +kernel
theorem dX5_split_46 : decode cX5_split 46 = .ok (.invokevirtual 78, 3) := by decide +kernel
theorem dX5_split_49 : decode cX5_split 49 = .ok (.ireturn, 1) := by decide +kernel
theorem dX5_offerRights_0 : decode cX5_offerRights 0 = .ok (.iload_n 2, 1) := by decide +kernel
theorem dX5_offerRights_1 : decode cX5_offerRights 1 = .ok (.iload_n 3, 1) := by decide +kernel
theorem dX5_offerRights_2 : decode cX5_offerRights 2 = .ok (.invokestatic 72, 3) := by decide +kernel
theorem dX5_offerRights_5 : decode cX5_offerRights 5 = .ok (.ifCond .eq 13, 3) := by decide +kernel
theorem dX5_offerRights_8 : decode cX5_offerRights 8 = .ok (.iconst 0, 1) := by decide +kernel
theorem dX5_offerRights_9 : decode cX5_offerRights 9 = .ok (.iload 4, 2) := by decide +kernel
theorem dX5_offerRights_11 : decode cX5_offerRights 11 = .ok (.i2l, 1) := by decide +kernel
theorem dX5_offerRights_12 : decode cX5_offerRights 12 = .ok (.invokestatic 82, 3) := by decide +kernel
theorem dX5_offerRights_15 : decode cX5_offerRights 15 = .ok (.ifCond .ne 5, 3) := by decide +kernel
theorem dX5_offerRights_18 : decode cX5_offerRights 18 = .ok (.iconst 1, 1) := by decide +kernel
theorem dX5_offerRights_19 : decode cX5_offerRights 19 = .ok (.ireturn, 1) := by decide +kernel
theorem dX5_offerRights_20 : decode cX5_offerRights 20 = .ok (.aload_n 0, 1) := by decide +kernel
theorem dX5_offerRights_21 : decode cX5_offerRights 21 = .ok (.getfield 11, 3) := by decide +kernel
theorem dX5_offerRights_24 : decode cX5_offerRights 24 = .ok (.iconst 0, 1) := by decide +kernel
theorem dX5_offerRights_25 : decode cX5_offerRights 25 = .ok (.aaload, 1) := by decide +kernel
theorem dX5_offerRights_26 : decode cX5_offerRights 26 = .ok (.iload_n 1, 1) := by decide +kernel
theorem dX5_offerRights_27 : decode cX5_offerRights 27 = .ok (.iaload, 1) := by decide +kernel
theorem dX5_offerRights_28 : decode cX5_offerRights 28 = .ok (.istore 5, 2) := by decide +kernel
theorem dX5_offerRights_30 : decode cX5_offerRights 30 = .ok (.iload 4, 2) := by decide +kernel
theorem dX5_offerRights_32 : decode cX5_offerRights 32 = .ok (.iload 5, 2) := by decide +kernel
theorem dX5_offerRights_34 : decode cX5_offerRights 34 = .ok (.if_icmp .lt 5, 3) := by decide +kernel
theorem dX5_offerRights_37 : decode cX5_offerRights 37 = .ok (.iconst 0, 1) := by decide +kernel
theorem dX5_offerRights_38 : decode cX5_offerRights 38 = .ok (.ireturn, 1) := by decide +kernel
theorem dX5_offerRights_39 : decode cX5_offerRights 39 = .ok (.iload_n 2, 1) := by decide +kernel
theorem dX5_offerRights_40 : decode cX5_offerRights 40 = .ok (.iload_n 3, 1) := by decide +kernel
theorem dX5_offerRights_41 : decode cX5_offerRights 41 = .ok (.iadd, 1) := by decide +kernel
theorem dX5_offerRights_42 : decode cX5_offerRights 42 = .ok (.istore 6, 2) := by decide +kernel
theorem dX5_offerRights_44 : decode cX5_offerRights 44 = .ok (.aload_n 0, 1) := by decide +kernel
theorem dX5_offerRights_45 : decode cX5_offerRights 45 = .ok (.getfield 11, 3) := by decide +kernel
theorem dX5_offerRights_48 : decode cX5_offerRights 48 = .ok (.iconst 1, 1) := by decide +kernel
theorem dX5_offerRights_49 : decode cX5_offerRights 49 = .ok (.aaload, 1) := by decide +kernel
theorem dX5_offerRights_50 : decode cX5_offerRights 50 = .ok (.iload_n 1, 1) := by decide +kernel
theorem dX5_offerRights_51 : decode cX5_offerRights 51 = .ok (.iaload, 1) := by decide +kernel
theorem dX5_offerRights_52 : decode cX5_offerRights 52 = .ok (.i2l, 1) := by decide +kernel
theorem dX5_offerRights_53 : decode cX5_offerRights 53 = .ok (.iload 6, 2) := by decide +kernel
theorem dX5_offerRights_55 : decode cX5_offerRights 55 = .ok (.i2l, 1) := by decide +kernel
theorem dX5_offerRights_56 : decode cX5_offerRights 56 = .ok (.lmul, 1) := by decide +kernel
theorem dX5_offerRights_57 : decode cX5_offerRights 57 = .ok (.lstore 7, 2) := by decide +kernel
theorem dX5_offerRights_59 : decode cX5_offerRights 59 = .ok (.iload 5, 2) := by decide +kernel
theorem dX5_offerRights_61 : decode cX5_offerRights 61 = .ok (.i2l, 1) := by decide +kernel
theorem dX5_offerRights_62 : decode cX5_offerRights 62 = .ok (.iload_n 3, 1) := by decide +kernel
theorem dX5_offerRights_63 : decode cX5_offerRights 63 = .ok (.i2l, 1) := by decide +kernel
theorem dX5_offerRights_64 : decode cX5_offerRights 64 = .ok (.lmul, 1) := by decide +kernel
theorem dX5_offerRights_65 : decode cX5_offerRights 65 = .ok (.iload 4, 2) := by decide +kernel
theorem dX5_offerRights_67 : decode cX5_offerRights 67 = .ok (.i2l, 1) := by decide +kernel
theorem dX5_offerRights_68 : decode cX5_offerRights 68 = .ok (.iload_n 2, 1) := by decide +kernel
theorem dX5_offerRights_69 : decode cX5_offerRights 69 = .ok (.i2l, 1) := by decide +kernel
theorem dX5_offerRights_70 : decode cX5_offerRights 70 = .ok (.lmul, 1) := by decide +kernel
theorem dX5_offerRights_71 : decode cX5_offerRights 71 = .ok (.ladd, 1) := by decide +kernel
theorem dX5_offerRights_72 : decode cX5_offerRights 72 = .ok (.lstore 9, 2) := by decide +kernel
theorem dX5_offerRights_74 : decode cX5_offerRights 74 = .ok (.aload_n 0, 1) := by decide +kernel
theorem dX5_offerRights_75 : decode cX5_offerRights 75 = .ok (.iload_n 1, 1) := by decide +kernel
theorem dX5_offerRights_76 : decode cX5_offerRights 76 = .ok (.lload 7, 2) := by decide +kernel
theorem dX5_offerRights_78 : decode cX5_offerRights 78 = .ok (.iload_n 3, 1) := by decide +kernel
theorem dX5_offerRights_79 : decode cX5_offerRights 79 = .ok (.lload 9, 2) := by decide +kernel
theorem dX5_offerRights_81 : decode cX5_offerRights 81 = .ok (.iload 6, 2) := by decide +kernel
theorem dX5_offerRights_83 : decode cX5_offerRights 83 = .ok (.invokevirtual 78, 3) := by decide +kernel
theorem dX5_offerRights_86 : decode cX5_offerRights 86 = .ok (.ireturn, 1) := by decide +kernel
theorem dX5_isRatio_0 : decode cX5_isRatio 0 = .ok (.iload_n 0, 1) := by decide +kernel
theorem dX5_isRatio_1 : decode cX5_isRatio 1 = .ok (.iconst 1, 1) := by decide +kernel
theorem dX5_isRatio_2 : decode cX5_isRatio 2 = .ok (.if_icmp .lt 26, 3) := by decide +kernel
theorem dX5_isRatio_5 : decode cX5_isRatio 5 = .ok (.iload_n 0, 1) := by decide +kernel
theorem dX5_isRatio_6 : decode cX5_isRatio 6 = .ok (.sipush 1000, 3) := by decide +kernel
theorem dX5_isRatio_9 : decode cX5_isRatio 9 = .ok (.if_icmp .gt 19, 3) := by decide +kernel
theorem dX5_isRatio_12 : decode cX5_isRatio 12 = .ok (.iload_n 1, 1) := by decide +kernel
theorem dX5_isRatio_13 : decode cX5_isRatio 13 = .ok (.iconst 1, 1) := by decide +kernel
theorem dX5_isRatio_14 : decode cX5_isRatio 14 = .ok (.if_icmp .lt 14, 3) := by decide +kernel
theorem dX5_isRatio_17 : decode cX5_isRatio 17 = .ok (.iload_n 1, 1) := by decide +kernel
theorem dX5_isRatio_18 : decode cX5_isRatio 18 = .ok (.sipush 1000, 3) := by decide +kernel
theorem dX5_isRatio_21 : decode cX5_isRatio 21 = .ok (.if_icmp .gt 7, 3) := by decide +kernel
theorem dX5_isRatio_24 : decode cX5_isRatio 24 = .ok (.iconst 1, 1) := by decide +kernel
theorem dX5_isRatio_25 : decode cX5_isRatio 25 = .ok (.goto 4, 3) := by decide +kernel
theorem dX5_isRatio_28 : decode cX5_isRatio 28 = .ok (.iconst 0, 1) := by decide +kernel
theorem dX5_isRatio_29 : decode cX5_isRatio 29 = .ok (.ireturn, 1) := by decide +kernel
theorem dX5_exchange_0 : decode cX5_exchange 0 = .ok (.lload_n 2, 1) := by decide +kernel
theorem dX5_exchange_1 : decode cX5_exchange 1 = .ok (.iload 4, 2) := by decide +kernel
theorem dX5_exchange_3 : decode cX5_exchange 3 = .ok (.i2l, 1) := by decide +kernel
theorem dX5_exchange_4 : decode cX5_exchange 4 = .ok (.lrem, 1) := by decide +kernel
theorem dX5_exchange_5 : decode cX5_exchange 5 = .ok (.lconst 0, 1) := by decide +kernel
theorem dX5_exchange_6 : decode cX5_exchange 6 = .ok (.lcmp, 1) := by decide +kernel
theorem dX5_exchange_7 : decode cX5_exchange 7 = .ok (.ifCond .eq 5, 3) := by decide +kernel
theorem dX5_exchange_10 : decode cX5_exchange 10 = .ok (.iconst 1, 1) := by decide +kernel
theorem dX5_exchange_11 : decode cX5_exchange 11 = .ok (.ireturn, 1) := by decide +kernel
theorem dX5_exchange_12 : decode cX5_exchange 12 = .ok (.lload_n 2, 1) := by decide +kernel
theorem dX5_exchange_13 : decode cX5_exchange 13 = .ok (.iload 4, 2) := by decide +kernel
theorem dX5_exchange_15 : decode cX5_exchange 15 = .ok (.i2l, 1) := by decide +kernel
theorem dX5_exchange_16 : decode cX5_exchange 16 = .ok (.ldiv, 1) := by decide +kernel
theorem dX5_exchange_17 : decode cX5_exchange 17 = .ok (.lstore 8, 2) := by decide +kernel
theorem dX5_exchange_19 : decode cX5_exchange 19 = .ok (.ldc2_w 86, 3) := by decide +kernel
theorem dX5_exchange_22 : decode cX5_exchange 22 = .ok (.lload 5, 2) := by decide +kernel
theorem dX5_exchange_24 : decode cX5_exchange 24 = .ok (.lmul, 1) := by decide +kernel
theorem dX5_exchange_25 : decode cX5_exchange 25 = .ok (.iload 7, 2) := by decide +kernel
theorem dX5_exchange_27 : decode cX5_exchange 27 = .ok (.i2l, 1) := by decide +kernel
theorem dX5_exchange_28 : decode cX5_exchange 28 = .ok (.ladd, 1) := by decide +kernel
theorem dX5_exchange_29 : decode cX5_exchange 29 = .ok (.ldc2_w 86, 3) := by decide +kernel
theorem dX5_exchange_32 : decode cX5_exchange 32 = .ok (.iload 7, 2) := by decide +kernel
theorem dX5_exchange_34 : decode cX5_exchange 34 = .ok (.i2l, 1) := by decide +kernel
theorem dX5_exchange_35 : decode cX5_exchange 35 = .ok (.lmul, 1) := by decide +kernel
theorem dX5_exchange_36 : decode cX5_exchange 36 = .ok (.ldiv, 1) := by decide +kernel
theorem dX5_exchange_37 : decode cX5_exchange 37 = .ok (.lstore 10, 2) := by decide +kernel
theorem dX5_exchange_39 : decode cX5_exchange 39 = .ok (.iconst 1, 1) := by decide +kernel
theorem dX5_exchange_40 : decode cX5_exchange 40 = .ok (.lload 8, 2) := by decide +kernel
theorem dX5_exchange_42 : decode cX5_exchange 42 = .ok (.invokestatic 82, 3) := by decide +kernel
theorem dX5_exchange_45 : decode cX5_exchange 45 = .ok (.ifCond .eq 12, 3) := by decide +kernel
theorem dX5_exchange_48 : decode cX5_exchange 48 = .ok (.iconst 0, 1) := by decide +kernel
theorem dX5_exchange_49 : decode cX5_exchange 49 = .ok (.lload 10, 2) := by decide +kernel
theorem dX5_exchange_51 : decode cX5_exchange 51 = .ok (.invokestatic 82, 3) := by decide +kernel
theorem dX5_exchange_54 : decode cX5_exchange 54 = .ok (.ifCond .ne 5, 3) := by decide +kernel
theorem dX5_exchange_57 : decode cX5_exchange 57 = .ok (.iconst 1, 1) := by decide +kernel
theorem dX5_exchange_58 : decode cX5_exchange 58 = .ok (.ireturn, 1) := by decide +kernel
theorem dX5_exchange_59 : decode cX5_exchange 59 = .ok (.aload_n 0, 1) := by decide +kernel
theorem dX5_exchange_60 : decode cX5_exchange 60 = .ok (.getfield 11, 3) := by decide +kernel
theorem dX5_exchange_63 : decode cX5_exchange 63 = .ok (.iconst 1, 1) := by decide +kernel
theorem dX5_exchange_64 : decode cX5_exchange 64 = .ok (.aaload, 1) := by decide +kernel
theorem dX5_exchange_65 : decode cX5_exchange 65 = .ok (.iload_n 1, 1) := by decide +kernel
theorem dX5_exchange_66 : decode cX5_exchange 66 = .ok (.lload 8, 2) := by decide +kernel
theorem dX5_exchange_68 : decode cX5_exchange 68 = .ok (.l2i, 1) := by decide +kernel
theorem dX5_exchange_69 : decode cX5_exchange 69 = .ok (.iastore, 1) := by decide +kernel
theorem dX5_exchange_70 : decode cX5_exchange 70 = .ok (.aload_n 0, 1) := by decide +kernel
theorem dX5_exchange_71 : decode cX5_exchange 71 = .ok (.getfield 11, 3) := by decide +kernel
theorem dX5_exchange_74 : decode cX5_exchange 74 = .ok (.iconst 0, 1) := by decide +kernel
theorem dX5_exchange_75 : decode cX5_exchange 75 = .ok (.aaload, 1) := by decide +kernel
theorem dX5_exchange_76 : decode cX5_exchange 76 = .ok (.iload_n 1, 1) := by decide +kernel
theorem dX5_exchange_77 : decode cX5_exchange 77 = .ok (.lload 10, 2) := by decide +kernel
theorem dX5_exchange_79 : decode cX5_exchange 79 = .ok (.l2i, 1) := by decide +kernel
theorem dX5_exchange_80 : decode cX5_exchange 80 = .ok (.iastore, 1) := by decide +kernel
theorem dX5_exchange_81 : decode cX5_exchange 81 = .ok (.iconst 0, 1) := by decide +kernel
theorem dX5_exchange_82 : decode cX5_exchange 82 = .ok (.ireturn, 1) := by decide +kernel
theorem dX5_payDividend_0 : decode cX5_payDividend 0 = .ok (.aload_n 0, 1) := by decide +kernel
theorem dX5_payDividend_1 : decode cX5_payDividend 1 = .ok (.getfield 11, 3) := by decide +kernel
theorem dX5_payDividend_4 : decode cX5_payDividend 4 = .ok (.iconst 0, 1) := by decide +kernel
theorem dX5_payDividend_5 : decode cX5_payDividend 5 = .ok (.aaload, 1) := by decide +kernel
theorem dX5_payDividend_6 : decode cX5_payDividend 6 = .ok (.iload_n 1, 1) := by decide +kernel
theorem dX5_payDividend_7 : decode cX5_payDividend 7 = .ok (.iaload, 1) := by decide +kernel
theorem dX5_payDividend_8 : decode cX5_payDividend 8 = .ok (.i2l, 1) := by decide +kernel
theorem dX5_payDividend_9 : decode cX5_payDividend 9 = .ok (.iload_n 2, 1) := by decide +kernel
theorem dX5_payDividend_10 : decode cX5_payDividend 10 = .ok (.i2l, 1) := by decide +kernel
theorem dX5_payDividend_11 : decode cX5_payDividend 11 = .ok (.lsub, 1) := by decide +kernel
theorem dX5_payDividend_12 : decode cX5_payDividend 12 = .ok (.lstore_n 3, 1) := by decide +kernel
theorem dX5_payDividend_13 : decode cX5_payDividend 13 = .ok (.iload_n 2, 1) := by decide +kernel
theorem dX5_payDividend_14 : decode cX5_payDividend 14 = .ok (.iconst 1, 1) := by decide +kernel
theorem dX5_payDividend_15 : decode cX5_payDividend 15 = .ok (.if_icmp .lt 11, 3) := by decide +kernel
theorem dX5_payDividend_18 : decode cX5_payDividend 18 = .ok (.iconst 0, 1) := by decide +kernel
theorem dX5_payDividend_19 : decode cX5_payDividend 19 = .ok (.lload_n 3, 1) := by decide +kernel
theorem dX5_payDividend_20 : decode cX5_payDividend 20 = .ok (.invokestatic 82, 3) := by decide +kernel
theorem dX5_payDividend_23 : decode cX5_payDividend 23 = .ok (.ifCond .ne 5, 3) := by decide +kernel
theorem dX5_payDividend_26 : decode cX5_payDividend 26 = .ok (.iconst 1, 1) := by decide +kernel
theorem dX5_payDividend_27 : decode cX5_payDividend 27 = .ok (.ireturn, 1) := by decide +kernel
theorem dX5_payDividend_28 : decode cX5_payDividend 28 = .ok (.aload_n 0, 1) := by decide +kernel
theorem dX5_payDividend_29 : decode cX5_payDividend 29 = .ok (.getfield 11, 3) := by decide +kernel
theorem dX5_payDividend_32 : decode cX5_payDividend 32 = .ok (.iconst 0, 1) := by decide +kernel
theorem dX5_payDividend_33 : decode cX5_payDividend 33 = .ok (.aaload, 1) := by decide +kernel
theorem dX5_payDividend_34 : decode cX5_payDividend 34 = .ok (.iload_n 1, 1) := by decide +kernel
theorem dX5_payDividend_35 : decode cX5_payDividend 35 = .ok (.lload_n 3, 1) := by decide +kernel
theorem dX5_payDividend_36 : decode cX5_payDividend 36 = .ok (.l2i, 1) := by decide +kernel
theorem dX5_payDividend_37 : decode cX5_payDividend 37 = .ok (.iastore, 1) := by decide +kernel
theorem dX5_payDividend_38 : decode cX5_payDividend 38 = .ok (.iconst 0, 1) := by decide +kernel
theorem dX5_payDividend_39 : decode cX5_payDividend 39 = .ok (.ireturn, 1) := by decide +kernel
theorem dX5_leave_0 : decode cX5_leave 0 = .ok (.aload_n 0, 1) := by decide +kernel
theorem dX5_leave_1 : decode cX5_leave 1 = .ok (.iload_n 1, 1) := by decide +kernel
theorem dX5_leave_2 : decode cX5_leave 2 = .ok (.invokevirtual 88, 3) := by decide +kernel
theorem dX5_leave_5 : decode cX5_leave 5 = .ok (.ifCond .eq 14, 3) := by decide +kernel
theorem dX5_leave_8 : decode cX5_leave 8 = .ok (.aload_n 0, 1) := by decide +kernel
theorem dX5_leave_9 : decode cX5_leave 9 = .ok (.getfield 30, 3) := by decide +kernel
theorem dX5_leave_12 : decode cX5_leave 12 = .ok (.invokestatic 92, 3) := by decide +kernel
theorem dX5_leave_15 : decode cX5_leave 15 = .ok (.iconst 1, 1) := by decide +kernel
theorem dX5_leave_16 : decode cX5_leave 16 = .ok (.if_icmp .ne 5, 3) := by decide +kernel
theorem dX5_leave_19 : decode cX5_leave 19 = .ok (.iconst 2, 1) := by decide +kernel
theorem dX5_leave_20 : decode cX5_leave 20 = .ok (.ireturn, 1) := by decide +kernel
theorem dX5_leave_21 : decode cX5_leave 21 = .ok (.aload_n 0, 1) := by decide +kernel
theorem dX5_leave_22 : decode cX5_leave 22 = .ok (.aload_n 0, 1) := by decide +kernel
theorem dX5_leave_23 : decode cX5_leave 23 = .ok (.getfield 30, 3) := by decide +kernel
theorem dX5_leave_26 : decode cX5_leave 26 = .ok (.iconst 1, 1) := by decide +kernel
theorem dX5_leave_27 : decode cX5_leave 27 = .ok (.iload_n 1, 1) := by decide +kernel
theorem dX5_leave_28 : decode cX5_leave 28 = .ok (.ishl, 1) := by decide +kernel
theorem dX5_leave_29 : decode cX5_leave 29 = .ok (.iconst (-1), 1) := by decide +kernel
theorem dX5_leave_30 : decode cX5_leave 30 = .ok (.ixor, 1) := by decide +kernel
theorem dX5_leave_31 : decode cX5_leave 31 = .ok (.iand, 1) := by decide +kernel
theorem dX5_leave_32 : decode cX5_leave 32 = .ok (.putfield 30, 3) := by decide +kernel
theorem dX5_leave_35 : decode cX5_leave 35 = .ok (.iconst 0, 1) := by decide +kernel
theorem dX5_leave_36 : decode cX5_leave 36 = .ok (.ireturn, 1) := by decide +kernel
theorem dX5_join_0 : decode cX5_join 0 = .ok (.aload_n 0, 1) := by decide +kernel
theorem dX5_join_1 : decode cX5_join 1 = .ok (.iload_n 1, 1) := by decide +kernel
theorem dX5_join_2 : decode cX5_join 2 = .ok (.invokevirtual 88, 3) := by decide +kernel
theorem dX5_join_5 : decode cX5_join 5 = .ok (.ifCond .eq 5, 3) := by decide +kernel
theorem dX5_join_8 : decode cX5_join 8 = .ok (.iconst 2, 1) := by decide +kernel
theorem dX5_join_9 : decode cX5_join 9 = .ok (.ireturn, 1) := by decide +kernel
theorem dX5_join_10 : decode cX5_join 10 = .ok (.aload_n 0, 1) := by decide +kernel
theorem dX5_join_11 : decode cX5_join 11 = .ok (.aload_n 0, 1) := by decide +kernel
theorem dX5_join_12 : decode cX5_join 12 = .ok (.getfield 30, 3) := by decide +kernel
theorem dX5_join_15 : decode cX5_join 15 = .ok (.iconst 1, 1) := by decide +kernel
theorem dX5_join_16 : decode cX5_join 16 = .ok (.iload_n 1, 1) := by decide +kernel
theorem dX5_join_17 : decode cX5_join 17 = .ok (.ishl, 1) := by decide +kernel
theorem dX5_join_18 : decode cX5_join 18 = .ok (.ior, 1) := by decide +kernel
theorem dX5_join_19 : decode cX5_join 19 = .ok (.putfield 30, 3) := by decide +kernel
theorem dX5_join_22 : decode cX5_join 22 = .ok (.aload_n 0, 1) := by decide +kernel
theorem dX5_join_23 : decode cX5_join 23 = .ok (.getfield 14, 3) := by decide +kernel
theorem dX5_join_26 : decode cX5_join 26 = .ok (.iload_n 1, 1) := by decide +kernel
theorem dX5_join_27 : decode cX5_join 27 = .ok (.lconst 1, 1) := by decide +kernel
theorem dX5_join_28 : decode cX5_join 28 = .ok (.lastore, 1) := by decide +kernel
theorem dX5_join_29 : decode cX5_join 29 = .ok (.aload_n 0, 1) := by decide +kernel
theorem dX5_join_30 : decode cX5_join 30 = .ok (.getfield 18, 3) := by decide +kernel
theorem dX5_join_33 : decode cX5_join 33 = .ok (.iload_n 1, 1) := by decide +kernel
theorem dX5_join_34 : decode cX5_join 34 = .ok (.lconst 1, 1) := by decide +kernel
theorem dX5_join_35 : decode cX5_join 35 = .ok (.lastore, 1) := by decide +kernel
theorem dX5_join_36 : decode cX5_join 36 = .ok (.iconst 0, 1) := by decide +kernel
theorem dX5_join_37 : decode cX5_join 37 = .ok (.ireturn, 1) := by decide +kernel
theorem dX5_replace_0 : decode cX5_replace 0 = .ok (.iload_n 2, 1) := by decide +kernel
theorem dX5_replace_1 : decode cX5_replace 1 = .ok (.iload_n 3, 1) := by decide +kernel
theorem dX5_replace_2 : decode cX5_replace 2 = .ok (.i2l, 1) := by decide +kernel
theorem dX5_replace_3 : decode cX5_replace 3 = .ok (.invokestatic 82, 3) := by decide +kernel
theorem dX5_replace_6 : decode cX5_replace 6 = .ok (.ifCond .ne 5, 3) := by decide +kernel
theorem dX5_replace_9 : decode cX5_replace 9 = .ok (.iconst 1, 1) := by decide +kernel
theorem dX5_replace_10 : decode cX5_replace 10 = .ok (.ireturn, 1) := by decide +kernel
theorem dX5_replace_11 : decode cX5_replace 11 = .ok (.aload_n 0, 1) := by decide +kernel
theorem dX5_replace_12 : decode cX5_replace 12 = .ok (.getfield 11, 3) := by decide +kernel
theorem dX5_replace_15 : decode cX5_replace 15 = .ok (.iload_n 2, 1) := by decide +kernel
theorem dX5_replace_16 : decode cX5_replace 16 = .ok (.aaload, 1) := by decide +kernel
theorem dX5_replace_17 : decode cX5_replace 17 = .ok (.iload_n 1, 1) := by decide +kernel
theorem dX5_replace_18 : decode cX5_replace 18 = .ok (.iload_n 3, 1) := by decide +kernel
theorem dX5_replace_19 : decode cX5_replace 19 = .ok (.iastore, 1) := by decide +kernel
theorem dX5_replace_20 : decode cX5_replace 20 = .ok (.iconst 0, 1) := by decide +kernel
theorem dX5_replace_21 : decode cX5_replace 21 = .ok (.ireturn, 1) := by decide +kernel
theorem dX5_cap_0 : decode cX5_cap 0 = .ok (.iload_n 1, 1) := by decide +kernel
theorem dX5_cap_1 : decode cX5_cap 1 = .ok (.iconst 1, 1) := by decide +kernel
theorem dX5_cap_2 : decode cX5_cap 2 = .ok (.if_icmp .lt 13, 3) := by decide +kernel
theorem dX5_cap_5 : decode cX5_cap 5 = .ok (.iload_n 1, 1) := by decide +kernel
theorem dX5_cap_6 : decode cX5_cap 6 = .ok (.bipush 100, 2) := by decide +kernel
theorem dX5_cap_8 : decode cX5_cap 8 = .ok (.if_icmp .gt 7, 3) := by decide +kernel
theorem dX5_cap_11 : decode cX5_cap 11 = .ok (.iconst 1, 1) := by decide +kernel
theorem dX5_cap_12 : decode cX5_cap 12 = .ok (.goto 4, 3) := by decide +kernel
theorem dX5_cap_15 : decode cX5_cap 15 = .ok (.iconst 0, 1) := by decide +kernel
theorem dX5_cap_16 : decode cX5_cap 16 = .ok (.istore_n 2, 1) := by decide +kernel
theorem dX5_cap_17 : decode cX5_cap 17 = .ok (.iload_n 2, 1) := by decide +kernel
theorem dX5_cap_18 : decode cX5_cap 18 = .ok (.ifCond .eq 17, 3) := by decide +kernel
theorem dX5_cap_21 : decode cX5_cap 21 = .ok (.iload_n 1, 1) := by decide +kernel
theorem dX5_cap_22 : decode cX5_cap 22 = .ok (.aload_n 0, 1) := by decide +kernel
theorem dX5_cap_23 : decode cX5_cap 23 = .ok (.getfield 30, 3) := by decide +kernel
theorem dX5_cap_26 : decode cX5_cap 26 = .ok (.invokestatic 92, 3) := by decide +kernel
theorem dX5_cap_29 : decode cX5_cap 29 = .ok (.imul, 1) := by decide +kernel
theorem dX5_cap_30 : decode cX5_cap 30 = .ok (.bipush 100, 2) := by decide +kernel
theorem dX5_cap_32 : decode cX5_cap 32 = .ok (.if_icmp .ge 5, 3) := by decide +kernel
theorem dX5_cap_35 : decode cX5_cap 35 = .ok (.iconst 2, 1) := by decide +kernel
theorem dX5_cap_36 : decode cX5_cap 36 = .ok (.ireturn, 1) := by decide +kernel
theorem dX5_cap_37 : decode cX5_cap 37 = .ok (.aload_n 0, 1) := by decide +kernel
theorem dX5_cap_38 : decode cX5_cap 38 = .ok (.iload_n 1, 1) := by decide +kernel
theorem dX5_cap_39 : decode cX5_cap 39 = .ok (.invokevirtual 97, 3) := by decide +kernel
theorem dX5_cap_42 : decode cX5_cap 42 = .ok (.istore_n 3, 1) := by decide +kernel
theorem dX5_cap_43 : decode cX5_cap 43 = .ok (.iload_n 1, 1) := by decide +kernel
theorem dX5_cap_44 : decode cX5_cap 44 = .ok (.i2l, 1) := by decide +kernel
theorem dX5_cap_45 : decode cX5_cap 45 = .ok (.aload_n 0, 1) := by decide +kernel
theorem dX5_cap_46 : decode cX5_cap 46 = .ok (.aload_n 0, 1) := by decide +kernel
theorem dX5_cap_47 : decode cX5_cap 47 = .ok (.getfield 30, 3) := by decide +kernel
theorem dX5_cap_50 : decode cX5_cap 50 = .ok (.iload_n 3, 1) := by decide +kernel
theorem dX5_cap_51 : decode cX5_cap 51 = .ok (.iconst (-1), 1) := by decide +kernel
theorem dX5_cap_52 : decode cX5_cap 52 = .ok (.ixor, 1) := by decide +kernel
theorem dX5_cap_53 : decode cX5_cap 53 = .ok (.iand, 1) := by decide +kernel
theorem dX5_cap_54 : decode cX5_cap 54 = .ok (.invokevirtual 100, 3) := by decide +kernel
theorem dX5_cap_57 : decode cX5_cap 57 = .ok (.lmul, 1) := by decide +kernel
theorem dX5_cap_58 : decode cX5_cap 58 = .ok (.lstore 4, 2) := by decide +kernel
theorem dX5_cap_60 : decode cX5_cap 60 = .ok (.ldc2_w 104, 3) := by decide +kernel
theorem dX5_cap_63 : decode cX5_cap 63 = .ok (.iload_n 1, 1) := by decide +kernel
theorem dX5_cap_64 : decode cX5_cap 64 = .ok (.iload_n 3, 1) := by decide +kernel
theorem dX5_cap_65 : decode cX5_cap 65 = .ok (.invokestatic 92, 3) := by decide +kernel
theorem dX5_cap_68 : decode cX5_cap 68 = .ok (.imul, 1) := by decide +kernel
theorem dX5_cap_69 : decode cX5_cap 69 = .ok (.i2l, 1) := by decide +kernel
theorem dX5_cap_70 : decode cX5_cap 70 = .ok (.lsub, 1) := by decide +kernel
theorem dX5_cap_71 : decode cX5_cap 71 = .ok (.lstore 6, 2) := by decide +kernel
theorem dX5_cap_73 : decode cX5_cap 73 = .ok (.aload_n 0, 1) := by decide +kernel
theorem dX5_cap_74 : decode cX5_cap 74 = .ok (.invokevirtual 27, 3) := by decide +kernel
theorem dX5_cap_77 : decode cX5_cap 77 = .ok (.iconst 0, 1) := by decide +kernel
theorem dX5_cap_78 : decode cX5_cap 78 = .ok (.istore 8, 2) := by decide +kernel
theorem dX5_cap_80 : decode cX5_cap 80 = .ok (.iload 8, 2) := by decide +kernel
theorem dX5_cap_82 : decode cX5_cap 82 = .ok (.bipush 8, 2) := by decide +kernel
theorem dX5_cap_84 : decode cX5_cap 84 = .ok (.if_icmp .ge 36, 3) := by decide +kernel
theorem dX5_cap_87 : decode cX5_cap 87 = .ok (.iload_n 3, 1) := by decide +kernel
theorem dX5_cap_88 : decode cX5_cap 88 = .ok (.iload 8, 2) := by decide +kernel
theorem dX5_cap_90 : decode cX5_cap 90 = .ok (.ishr, 1) := by decide +kernel
theorem dX5_cap_91 : decode cX5_cap 91 = .ok (.iconst 1, 1) := by decide +kernel
theorem dX5_cap_92 : decode cX5_cap 92 = .ok (.iand, 1) := by decide +kernel
theorem dX5_cap_93 : decode cX5_cap 93 = .ok (.iconst 1, 1) := by decide +kernel
theorem dX5_cap_94 : decode cX5_cap 94 = .ok (.if_icmp .ne 20, 3) := by decide +kernel
theorem dX5_cap_97 : decode cX5_cap 97 = .ok (.aload_n 0, 1) := by decide +kernel
theorem dX5_cap_98 : decode cX5_cap 98 = .ok (.iload 8, 2) := by decide +kernel
theorem dX5_cap_100 : decode cX5_cap 100 = .ok (.lload 4, 2) := by decide +kernel
theorem dX5_cap_102 : decode cX5_cap 102 = .ok (.lload 6, 2) := by decide +kernel
theorem dX5_cap_104 : decode cX5_cap 104 = .ok (.aload_n 0, 1) := by decide +kernel
theorem dX5_cap_105 : decode cX5_cap 105 = .ok (.iload 8, 2) := by decide +kernel
theorem dX5_cap_107 : decode cX5_cap 107 = .ok (.invokevirtual 106, 3) := by decide +kernel
theorem dX5_cap_110 : decode cX5_cap 110 = .ok (.lmul, 1) := by decide +kernel
theorem dX5_cap_111 : decode cX5_cap 111 = .ok (.invokevirtual 109, 3) := by decide +kernel
theorem dX5_cap_114 : decode cX5_cap 114 = .ok (.iinc 8 1, 3) := by decide +kernel
theorem dX5_cap_117 : decode cX5_cap 117 = .ok (.goto (-37), 3) := by decide +kernel
theorem dX5_cap_120 : decode cX5_cap 120 = .ok (.iconst 0, 1) := by decide +kernel
theorem dX5_cap_121 : decode cX5_cap 121 = .ok (.ireturn, 1) := by decide +kernel
theorem dX5_findLarge_0 : decode cX5_findLarge 0 = .ok (.iconst 0, 1) := by decide +kernel
theorem dX5_findLarge_1 : decode cX5_findLarge 1 = .ok (.istore_n 2, 1) := by decide +kernel
theorem dX5_findLarge_2 : decode cX5_findLarge 2 = .ok (.aload_n 0, 1) := by decide +kernel
theorem dX5_findLarge_3 : decode cX5_findLarge 3 = .ok (.getfield 30, 3) := by decide +kernel
theorem dX5_findLarge_6 : decode cX5_findLarge 6 = .ok (.istore_n 3, 1) := by decide +kernel
theorem dX5_findLarge_7 : decode cX5_findLarge 7 = .ok (.iconst 0, 1) := by decide +kernel
theorem dX5_findLarge_8 : decode cX5_findLarge 8 = .ok (.istore 4, 2) := by decide +kernel
theorem dX5_findLarge_10 : decode cX5_findLarge 10 = .ok (.iload 4, 2) := by decide +kernel
theorem dX5_findLarge_12 : decode cX5_findLarge 12 = .ok (.bipush 8, 2) := by decide +kernel
theorem dX5_findLarge_14 : decode cX5_findLarge 14 = .ok (.if_icmp .gt 116, 3) := by decide +kernel
theorem dX5_findLarge_17 : decode cX5_findLarge 17 = .ok (.iload_n 3, 1) := by decide +kernel
theorem dX5_findLarge_18 : decode cX5_findLarge 18 = .ok (.ifCond .eq 112, 3) := by decide +kernel
theorem dX5_findLarge_21 : decode cX5_findLarge 21 = .ok (.iload_n 1, 1) := by decide +kernel
theorem dX5_findLarge_22 : decode cX5_findLarge 22 = .ok (.i2l, 1) := by decide +kernel
theorem dX5_findLarge_23 : decode cX5_findLarge 23 = .ok (.aload_n 0, 1) := by decide +kernel
theorem dX5_findLarge_24 : decode cX5_findLarge 24 = .ok (.aload_n 0, 1) := by decide +kernel
theorem dX5_findLarge_25 : decode cX5_findLarge 25 = .ok (.getfield 30, 3) := by decide +kernel
theorem dX5_findLarge_28 : decode cX5_findLarge 28 = .ok (.iload_n 2, 1) := by decide +kernel
theorem dX5_findLarge_29 : decode cX5_findLarge 29 = .ok (.iconst (-1), 1) := by decide +kernel
theorem dX5_findLarge_30 : decode cX5_findLarge 30 = .ok (.ixor, 1) := by decide +kernel
theorem dX5_findLarge_31 : decode cX5_findLarge 31 = .ok (.iand, 1) := by decide +kernel
theorem dX5_findLarge_32 : decode cX5_findLarge 32 = .ok (.invokevirtual 100, 3) := by decide +kernel
theorem dX5_findLarge_35 : decode cX5_findLarge 35 = .ok (.lmul, 1) := by decide +kernel
theorem dX5_findLarge_36 : decode cX5_findLarge 36 = .ok (.lstore 5, 2) := by decide +kernel
theorem dX5_findLarge_38 : decode cX5_findLarge 38 = .ok (.ldc2_w 104, 3) := by decide +kernel
theorem dX5_findLarge_41 : decode cX5_findLarge 41 = .ok (.iload_n 1, 1) := by decide +kernel
theorem dX5_findLarge_42 : decode cX5_findLarge 42 = .ok (.iload_n 2, 1) := by decide +kernel
theorem dX5_findLarge_43 : decode cX5_findLarge 43 = .ok (.invokestatic 92, 3) := by decide +kernel
theorem dX5_findLarge_46 : decode cX5_findLarge 46 = .ok (.imul, 1) := by decide +kernel
theorem dX5_findLarge_47 : decode cX5_findLarge 47 = .ok (.i2l, 1) := by decide +kernel
theorem dX5_findLarge_48 : decode cX5_findLarge 48 = .ok (.lsub, 1) := by decide +kernel
theorem dX5_findLarge_49 : decode cX5_findLarge 49 = .ok (.lstore 7, 2) := by decide +kernel
theorem dX5_findLarge_51 : decode cX5_findLarge 51 = .ok (.iconst 0, 1) := by decide +kernel
theorem dX5_findLarge_52 : decode cX5_findLarge 52 = .ok (.istore_n 3, 1) := by decide +kernel
theorem dX5_findLarge_53 : decode cX5_findLarge 53 = .ok (.iconst 0, 1) := by decide +kernel
theorem dX5_findLarge_54 : decode cX5_findLarge 54 = .ok (.istore 9, 2) := by decide +kernel
theorem dX5_findLarge_56 : decode cX5_findLarge 56 = .ok (.iload 9, 2) := by decide +kernel
theorem dX5_findLarge_58 : decode cX5_findLarge 58 = .ok (.bipush 8, 2) := by decide +kernel
theorem dX5_findLarge_60 : decode cX5_findLarge 60 = .ok (.if_icmp .ge 60, 3) := by decide +kernel
theorem dX5_findLarge_63 : decode cX5_findLarge 63 = .ok (.aload_n 0, 1) := by decide +kernel
theorem dX5_findLarge_64 : decode cX5_findLarge 64 = .ok (.getfield 30, 3) := by decide +kernel
theorem dX5_findLarge_67 : decode cX5_findLarge 67 = .ok (.iload_n 2, 1) := by decide +kernel
theorem dX5_findLarge_68 : decode cX5_findLarge 68 = .ok (.iconst (-1), 1) := by decide +kernel
theorem dX5_findLarge_69 : decode cX5_findLarge 69 = .ok (.ixor, 1) := by decide +kernel
theorem dX5_findLarge_70 : decode cX5_findLarge 70 = .ok (.iand, 1) := by decide +kernel
theorem dX5_findLarge_71 : decode cX5_findLarge 71 = .ok (.iload 9, 2) := by decide +kernel
theorem dX5_findLarge_73 : decode cX5_findLarge 73 = .ok (.ishr, 1) := by decide +kernel
theorem dX5_findLarge_74 : decode cX5_findLarge 74 = .ok (.iconst 1, 1) := by decide +kernel
theorem dX5_findLarge_75 : decode cX5_findLarge 75 = .ok (.iand, 1) := by decide +kernel
theorem dX5_findLarge_76 : decode cX5_findLarge 76 = .ok (.iconst 1, 1) := by decide +kernel
theorem dX5_findLarge_77 : decode cX5_findLarge 77 = .ok (.if_icmp .ne 7, 3) := by decide +kernel
theorem dX5_findLarge_80 : decode cX5_findLarge 80 = .ok (.iconst 1, 1) := by decide +kernel
theorem dX5_findLarge_81 : decode cX5_findLarge 81 = .ok (.goto 4, 3) := by decide +kernel
theorem dX5_findLarge_84 : decode cX5_findLarge 84 = .ok (.iconst 0, 1) := by decide +kernel
theorem dX5_findLarge_85 : decode cX5_findLarge 85 = .ok (.istore 10, 2) := by decide +kernel
theorem dX5_findLarge_87 : decode cX5_findLarge 87 = .ok (.iload 10, 2) := by decide +kernel
theorem dX5_findLarge_89 : decode cX5_findLarge 89 = .ok (.ifCond .eq 25, 3) := by decide +kernel
theorem dX5_findLarge_92 : decode cX5_findLarge 92 = .ok (.aload_n 0, 1) := by decide +kernel
theorem dX5_findLarge_93 : decode cX5_findLarge 93 = .ok (.iload 9, 2) := by decide +kernel
theorem dX5_findLarge_95 : decode cX5_findLarge 95 = .ok (.invokevirtual 106, 3) := by decide +kernel
theorem dX5_findLarge_98 : decode cX5_findLarge 98 = .ok (.lload 7, 2) := by decide +kernel
theorem dX5_findLarge_100 : decode cX5_findLarge 100 = .ok (.lmul, 1) := by decide +kernel
theorem dX5_findLarge_101 : decode cX5_findLarge 101 = .ok (.lload 5, 2) := by decide +kernel
theorem dX5_findLarge_103 : decode cX5_findLarge 103 = .ok (.lcmp, 1) := by decide +kernel
theorem dX5_findLarge_104 : decode cX5_findLarge 104 = .ok (.ifCond .le 10, 3) := by decide +kernel
theorem dX5_findLarge_107 : decode cX5_findLarge 107 = .ok (.iload_n 3, 1) := by decide +kernel
theorem dX5_findLarge_108 : decode cX5_findLarge 108 = .ok (.iconst 1, 1) := by decide +kernel
theorem dX5_findLarge_109 : decode cX5_findLarge 109 = .ok (.iload 9, 2) := by decide +kernel
theorem dX5_findLarge_111 : decode cX5_findLarge 111 = .ok (.ishl, 1) := by decide +kernel
theorem dX5_findLarge_112 : decode cX5_findLarge 112 = .ok (.ior, 1) := by decide +kernel
theorem dX5_findLarge_113 : decode cX5_findLarge 113 = .ok (.istore_n 3, 1) := by decide +kernel
theorem dX5_findLarge_114 : decode cX5_findLarge 114 = .ok (.iinc 9 1, 3) := by decide +kernel
theorem dX5_findLarge_117 : decode cX5_findLarge 117 = .ok (.goto (-61), 3) := by decide +kernel
theorem dX5_findLarge_120 : decode cX5_findLarge 120 = .ok (.iload_n 2, 1) := by decide +kernel
theorem dX5_findLarge_121 : decode cX5_findLarge 121 = .ok (.iload_n 3, 1) := by decide +kernel
theorem dX5_findLarge_122 : decode cX5_findLarge 122 = .ok (.ior, 1) := by decide +kernel
theorem dX5_findLarge_123 : decode cX5_findLarge 123 = .ok (.istore_n 2, 1) := by decide +kernel
theorem dX5_findLarge_124 : decode cX5_findLarge 124 = .ok (.iinc 4 1, 3) := by decide +kernel
theorem dX5_findLarge_127 : decode cX5_findLarge 127 = .ok (.goto (-117), 3) := by decide +kernel
theorem dX5_findLarge_130 : decode cX5_findLarge 130 = .ok (.iload_n 2, 1) := by decide +kernel
theorem dX5_findLarge_131 : decode cX5_findLarge 131 = .ok (.ireturn, 1) := by decide +kernel
theorem dX5_plainWorthOf_0 : decode cX5_plainWorthOf 0 = .ok (.lconst 0, 1) := by decide +kernel
theorem dX5_plainWorthOf_1 : decode cX5_plainWorthOf 1 = .ok (.lstore_n 2, 1) := by decide +kernel
theorem dX5_plainWorthOf_2 : decode cX5_plainWorthOf 2 = .ok (.iconst 0, 1) := by decide +kernel
theorem dX5_plainWorthOf_3 : decode cX5_plainWorthOf 3 = .ok (.istore 4, 2) := by decide +kernel
theorem dX5_plainWorthOf_5 : decode cX5_plainWorthOf 5 = .ok (.iload 4, 2) := by decide +kernel
theorem dX5_plainWorthOf_7 : decode cX5_plainWorthOf 7 = .ok (.bipush 8, 2) := by decide +kernel
theorem dX5_plainWorthOf_9 : decode cX5_plainWorthOf 9 = .ok (.if_icmp .ge 28, 3) := by decide +kernel
theorem dX5_plainWorthOf_12 : decode cX5_plainWorthOf 12 = .ok (.iload_n 1, 1) := by decide +kernel
theorem dX5_plainWorthOf_13 : decode cX5_plainWorthOf 13 = .ok (.iload 4, 2) := by decide +kernel
theorem dX5_plainWorthOf_15 : decode cX5_plainWorthOf 15 = .ok (.ishr, 1) := by decide +kernel
theorem dX5_plainWorthOf_16 : decode cX5_plainWorthOf 16 = .ok (.iconst 1, 1) := by decide +kernel
theorem dX5_plainWorthOf_17 : decode cX5_plainWorthOf 17 = .ok (.iand, 1) := by decide +kernel
theorem dX5_plainWorthOf_18 : decode cX5_plainWorthOf 18 = .ok (.iconst 1, 1) := by decide +kernel
theorem dX5_plainWorthOf_19 : decode cX5_plainWorthOf 19 = .ok (.if_icmp .ne 12, 3) := by decide +kernel
theorem dX5_plainWorthOf_22 : decode cX5_plainWorthOf 22 = .ok (.lload_n 2, 1) := by decide +kernel
theorem dX5_plainWorthOf_23 : decode cX5_plainWorthOf 23 = .ok (.aload_n 0, 1) := by decide +kernel
theorem dX5_plainWorthOf_24 : decode cX5_plainWorthOf 24 = .ok (.iload 4, 2) := by decide +kernel
theorem dX5_plainWorthOf_26 : decode cX5_plainWorthOf 26 = .ok (.invokevirtual 106, 3) := by decide +kernel
theorem dX5_plainWorthOf_29 : decode cX5_plainWorthOf 29 = .ok (.ladd, 1) := by decide +kernel
theorem dX5_plainWorthOf_30 : decode cX5_plainWorthOf 30 = .ok (.lstore_n 2, 1) := by decide +kernel
theorem dX5_plainWorthOf_31 : decode cX5_plainWorthOf 31 = .ok (.iinc 4 1, 3) := by decide +kernel
theorem dX5_plainWorthOf_34 : decode cX5_plainWorthOf 34 = .ok (.goto (-29), 3) := by decide +kernel
theorem dX5_plainWorthOf_37 : decode cX5_plainWorthOf 37 = .ok (.lload_n 2, 1) := by decide +kernel
theorem dX5_plainWorthOf_38 : decode cX5_plainWorthOf 38 = .ok (.lreturn, 1) := by decide +kernel
theorem dX5_putFactor_0 : decode cX5_putFactor 0 = .ok (.lload_n 2, 1) := by decide +kernel
theorem dX5_putFactor_1 : decode cX5_putFactor 1 = .ok (.lload 4, 2) := by decide +kernel
theorem dX5_putFactor_3 : decode cX5_putFactor 3 = .ok (.invokestatic 113, 3) := by decide +kernel
theorem dX5_putFactor_6 : decode cX5_putFactor 6 = .ok (.lstore 6, 2) := by decide +kernel
theorem dX5_putFactor_8 : decode cX5_putFactor 8 = .ok (.lload 6, 2) := by decide +kernel
theorem dX5_putFactor_10 : decode cX5_putFactor 10 = .ok (.lconst 0, 1) := by decide +kernel
theorem dX5_putFactor_11 : decode cX5_putFactor 11 = .ok (.lcmp, 1) := by decide +kernel
theorem dX5_putFactor_12 : decode cX5_putFactor 12 = .ok (.ifCond .le 24, 3) := by decide +kernel
theorem dX5_putFactor_15 : decode cX5_putFactor 15 = .ok (.aload_n 0, 1) := by decide +kernel
theorem dX5_putFactor_16 : decode cX5_putFactor 16 = .ok (.getfield 14, 3) := by decide +kernel
theorem dX5_putFactor_19 : decode cX5_putFactor 19 = .ok (.iload_n 1, 1) := by decide +kernel
theorem dX5_putFactor_20 : decode cX5_putFactor 20 = .ok (.lload_n 2, 1) := by decide +kernel
theorem dX5_putFactor_21 : decode cX5_putFactor 21 = .ok (.lload 6, 2) := by decide +kernel
theorem dX5_putFactor_23 : decode cX5_putFactor 23 = .ok (.ldiv, 1) := by decide +kernel
theorem dX5_putFactor_24 : decode cX5_putFactor 24 = .ok (.lastore, 1) := by decide +kernel
theorem dX5_putFactor_25 : decode cX5_putFactor 25 = .ok (.aload_n 0, 1) := by decide +kernel
theorem dX5_putFactor_26 : decode cX5_putFactor 26 = .ok (.getfield 18, 3) := by decide +kernel
theorem dX5_putFactor_29 : decode cX5_putFactor 29 = .ok (.iload_n 1, 1) := by decide +kernel
theorem dX5_putFactor_30 : decode cX5_putFactor 30 = .ok (.lload 4, 2) := by decide +kernel
theorem dX5_putFactor_32 : decode cX5_putFactor 32 = .ok (.lload 6, 2) := by decide +kernel
theorem dX5_putFactor_34 : decode cX5_putFactor 34 = .ok (.ldiv, 1) := by decide +kernel
theorem dX5_putFactor_35 : decode cX5_putFactor 35 = .ok (.lastore, 1) := by decide +kernel
theorem dX5_putFactor_36 : decode cX5_putFactor 36 = .ok (.return_, 1) := by decide +kernel
theorem dX6_init_0 : decode cX6_init 0 = .ok (.aload_n 0, 1) := by decide +kernel
theorem dX6_init_1 : decode cX6_init 1 = .ok (.invokespecial 3, 3) := by decide +kernel
theorem dX6_init_4 : decode cX6_init 4 = .ok (.aload_n 0, 1) := by decide +kernel
theorem dX6_init_5 : decode cX6_init 5 = .ok (.sipush 640, 3) := by decide +kernel
theorem dX6_init_8 : decode cX6_init 8 = .ok (.newarray .char, 2) := by decide +kernel
theorem dX6_init_10 : decode cX6_init 10 = .ok (.putfield 11, 3) := by decide +kernel
theorem dX6_init_13 : decode cX6_init 13 = .ok (.aload_n 0, 1) := by decide +kernel
theorem dX6_init_14 : decode cX6_init 14 = .ok (.new 15, 3) := by decide +kernel
theorem dX6_init_17 : decode cX6_init 17 = .ok (.dup, 1) := by decide +kernel
theorem dX6_init_18 : decode cX6_init 18 = .ok (.invokespecial 17, 3) := by decide +kernel
theorem dX6_init_21 : decode cX6_init 21 = .ok (.putfield 18, 3) := by decide +kernel
theorem dX6_init_24 : decode cX6_init 24 = .ok (.return_, 1) := by decide +kernel
theorem dX6_write_0 : decode cX6_write 0 = .ok (.aload_n 0, 1) := by decide +kernel
theorem dX6_write_1 : decode cX6_write 1 = .ok (.iconst 0, 1) := by decide +kernel
theorem dX6_write_2 : decode cX6_write 2 = .ok (.putfield 22, 3) := by decide +kernel
theorem dX6_write_5 : decode cX6_write 5 = .ok (.aload_n 0, 1) := by decide +kernel
theorem dX6_write_6 : decode cX6_write 6 = .ok (.aload_n 1, 1) := by decide +kernel
theorem dX6_write_7 : decode cX6_write 7 = .ok (.getfield 26, 3) := by decide +kernel
theorem dX6_write_10 : decode cX6_write 10 = .ok (.invokevirtual 31, 3) := by decide +kernel
theorem dX6_write_13 : decode cX6_write 13 = .ok (.aload_n 1, 1) := by decide +kernel
theorem dX6_write_14 : decode cX6_write 14 = .ok (.getfield 35, 3) := by decide +kernel
theorem dX6_write_17 : decode cX6_write 17 = .ok (.invokevirtual 38, 3) := by decide +kernel
theorem dX6_write_20 : decode cX6_write 20 = .ok (.ifCond .ne 17, 3) := by decide +kernel
theorem dX6_write_23 : decode cX6_write 23 = .ok (.aload_n 0, 1) := by decide +kernel
theorem dX6_write_24 : decode cX6_write 24 = .ok (.bipush 47, 2) := by decide +kernel
theorem dX6_write_26 : decode cX6_write 26 = .ok (.invokevirtual 42, 3) := by decide +kernel
theorem dX6_write_29 : decode cX6_write 29 = .ok (.aload_n 0, 1) := by decide +kernel
theorem dX6_write_30 : decode cX6_write 30 = .ok (.aload_n 1, 1) := by decide +kernel
theorem dX6_write_31 : decode cX6_write 31 = .ok (.getfield 35, 3) := by decide +kernel
theorem dX6_write_34 : decode cX6_write 34 = .ok (.invokevirtual 31, 3) := by decide +kernel
theorem dX6_write_37 : decode cX6_write 37 = .ok (.return_, 1) := by decide +kernel
theorem dX6_writeWhole_0 : decode cX6_writeWhole 0 = .ok (.aload_n 0, 1) := by decide +kernel
theorem dX6_writeWhole_1 : decode cX6_writeWhole 1 = .ok (.getfield 22, 3) := by decide +kernel
theorem dX6_writeWhole_4 : decode cX6_writeWhole 4 = .ok (.istore_n 2, 1) := by decide +kernel
theorem dX6_writeWhole_5 : decode cX6_writeWhole 5 = .ok (.aload_n 0, 1) := by decide +kernel
theorem dX6_writeWhole_6 : decode cX6_writeWhole 6 = .ok (.getfield 18, 3) := by decide +kernel
theorem dX6_writeWhole_9 : decode cX6_writeWhole 9 = .ok (.aload_n 1, 1) := by decide +kernel
theorem dX6_writeWhole_10 : decode cX6_writeWhole 10 = .ok (.invokevirtual 46, 3) := by decide +kernel
theorem dX6_writeWhole_13 : decode cX6_writeWhole 13 = .ok (.iconst 0, 1) := by decide +kernel
theorem dX6_writeWhole_14 : decode cX6_writeWhole 14 = .ok (.istore_n 3, 1) := by decide +kernel
theorem dX6_writeWhole_15 : decode cX6_writeWhole 15 = .ok (.iload_n 3, 1) := by decide +kernel
theorem dX6_writeWhole_16 : decode cX6_writeWhole 16 = .ok (.bipush 80, 2) := by decide +kernel
theorem dX6_writeWhole_18 : decode cX6_writeWhole 18 = .ok (.if_icmp .ge 43, 3) := by decide +kernel
theorem dX6_writeWhole_21 : decode cX6_writeWhole 21 = .ok (.aload_n 0, 1) := by decide +kernel
theorem dX6_writeWhole_22 : decode cX6_writeWhole 22 = .ok (.getfield 18, 3) := by decide +kernel
theorem dX6_writeWhole_25 : decode cX6_writeWhole 25 = .ok (.invokevirtual 49, 3) := by decide +kernel
theorem dX6_writeWhole_28 : decode cX6_writeWhole 28 = .ok (.ifCond .ne 33, 3) := by decide +kernel
theorem dX6_writeWhole_31 : decode cX6_writeWhole 31 = .ok (.aload_n 0, 1) := by decide +kernel
theorem dX6_writeWhole_32 : decode cX6_writeWhole 32 = .ok (.getfield 18, 3) := by decide +kernel
theorem dX6_writeWhole_35 : decode cX6_writeWhole 35 = .ok (.ldc 52, 2) := by decide +kernel
theorem dX6_writeWhole_37 : decode cX6_writeWhole 37 = .ok (.invokevirtual 53, 3) := by decide +kernel
theorem dX6_writeWhole_40 : decode cX6_writeWhole 40 = .ok (.istore 4, 2) := by decide +kernel
theorem dX6_writeWhole_42 : decode cX6_writeWhole 42 = .ok (.aload_n 0, 1) := by decide +kernel
theorem dX6_writeWhole_43 : decode cX6_writeWhole 43 = .ok (.iload 4, 2) := by decide +kernel
theorem dX6_writeWhole_45 : decode cX6_writeWhole 45 = .ok (.aload_n 0, 1) := by decide +kernel
theorem dX6_writeWhole_46 : decode cX6_writeWhole 46 = .ok (.getfield 18, 3) := by decide +kernel
theorem dX6_writeWhole_49 : decode cX6_writeWhole 49 = .ok (.invokevirtual 49, 3) := by decide +kernel
theorem dX6_writeWhole_52 : decode cX6_writeWhole 52 = .ok (.invokevirtual 57, 3) := by decide +kernel
theorem dX6_writeWhole_55 : decode cX6_writeWhole 55 = .ok (.iinc 3 1, 3) := by decide +kernel
theorem dX6_writeWhole_58 : decode cX6_writeWhole 58 = .ok (.goto (-43), 3) := by decide +kernel
theorem dX6_writeWhole_61 : decode cX6_writeWhole 61 = .ok (.aload_n 0, 1) := by decide +kernel
theorem dX6_writeWhole_62 : decode cX6_writeWhole 62 = .ok (.iload_n 2, 1) := by decide +kernel
theorem dX6_writeWhole_63 : decode cX6_writeWhole 63 = .ok (.invokevirtual 61, 3) := by decide +kernel
theorem dX6_writeWhole_66 : decode cX6_writeWhole 66 = .ok (.return_, 1) := by decide +kernel
theorem dX6_writeBackwards_0 : decode cX6_writeBackwards 0 = .ok (.iload_n 1, 1) := by decide +kernel
theorem dX6_writeBackwards_1 : decode cX6_writeBackwards 1 = .ok (.istore_n 3, 1) := by decide +kernel
theorem dX6_writeBackwards_2 : decode cX6_writeBackwards 2 = .ok (.iconst 0, 1) := by decide +kernel
theorem dX6_writeBackwards_3 : decode cX6_writeBackwards 3 = .ok (.istore 4, 2) := by decide +kernel
theorem dX6_writeBackwards_5 : decode cX6_writeBackwards 5 = .ok (.iload 4, 2) := by decide +kernel
theorem dX6_writeBackwards_7 : decode cX6_writeBackwards 7 = .ok (.bipush 9, 2) := by decide +kernel
theorem dX6_writeBackwards_9 : decode cX6_writeBackwards 9 = .ok (.if_icmp .ge 34, 3) := by decide +kernel
theorem dX6_writeBackwards_12 : decode cX6_writeBackwards 12 = .ok (.iload_n 3, 1) := by decide +kernel
theorem dX6_writeBackwards_13 : decode cX6_writeBackwards 13 = .ok (.ifCond .gt 7, 3) := by decide +kernel
theorem dX6_writeBackwards_16 : decode cX6_writeBackwards 16 = .ok (.iload_n 2, 1) := by decide +kernel
theorem dX6_writeBackwards_17 : decode cX6_writeBackwards 17 = .ok (.ifCond .ne 26, 3) := by decide +kernel
theorem dX6_writeBackwards_20 : decode cX6_writeBackwards 20 = .ok (.aload_n 0, 1) := by decide +kernel
theorem dX6_writeBackwards_21 : decode cX6_writeBackwards 21 = .ok (.bipush 48, 2) := by decide +kernel
theorem dX6_writeBackwards_23 : decode cX6_writeBackwards 23 = .ok (.iload_n 3, 1) := by decide +kernel
theorem dX6_writeBackwards_24 : decode cX6_writeBackwards 24 = .ok (.bipush 10, 2) := by decide +kernel
theorem dX6_writeBackwards_26 : decode cX6_writeBackwards 26 = .ok (.irem, 1) := by decide +kernel
theorem dX6_writeBackwards_27 : decode cX6_writeBackwards 27 = .ok (.iadd, 1) := by decide +kernel
theorem dX6_writeBackwards_28 : decode cX6_writeBackwards 28 = .ok (.i2c, 1) := by decide +kernel
theorem dX6_writeBackwards_29 : decode cX6_writeBackwards 29 = .ok (.invokevirtual 42, 3) := by decide +kernel
theorem dX6_writeBackwards_32 : decode cX6_writeBackwards 32 = .ok (.iload_n 3, 1) := by decide +kernel
theorem dX6_writeBackwards_33 : decode cX6_writeBackwards 33 = .ok (.bipush 10, 2) := by decide +kernel
theorem dX6_writeBackwards_35 : decode cX6_writeBackwards 35 = .ok (.idiv, 1) := by decide +kernel
theorem dX6_writeBackwards_36 : decode cX6_writeBackwards 36 = .ok (.istore_n 3, 1) := by decide +kernel
theorem dX6_writeBackwards_37 : decode cX6_writeBackwards 37 = .ok (.iinc 4 1, 3) := by decide +kernel
theorem dX6_writeBackwards_40 : decode cX6_writeBackwards 40 = .ok (.goto (-35), 3) := by decide +kernel
theorem dX6_writeBackwards_43 : decode cX6_writeBackwards 43 = .ok (.return_, 1) := by decide +kernel
theorem dX6_append_0 : decode cX6_append 0 = .ok (.aload_n 0, 1) := by decide +kernel
theorem dX6_append_1 : decode cX6_append 1 = .ok (.getfield 22, 3) := by decide +kernel
theorem dX6_append_4 : decode cX6_append 4 = .ok (.sipush 640, 3) := by decide +kernel
theorem dX6_append_7 : decode cX6_append 7 = .ok (.if_icmp .ge 23, 3) := by decide +kernel
theorem dX6_append_10 : decode cX6_append 10 = .ok (.aload_n 0, 1) := by decide +kernel
theorem dX6_append_11 : decode cX6_append 11 = .ok (.getfield 11, 3) := by decide +kernel
theorem dX6_append_14 : decode cX6_append 14 = .ok (.aload_n 0, 1) := by decide +kernel
theorem dX6_append_15 : decode cX6_append 15 = .ok (.getfield 22, 3) := by decide +kernel
theorem dX6_append_18 : decode cX6_append 18 = .ok (.iload_n 1, 1) := by decide +kernel
theorem dX6_append_19 : decode cX6_append 19 = .ok (.castore, 1) := by decide +kernel
theorem dX6_append_20 : decode cX6_append 20 = .ok (.aload_n 0, 1) := by decide +kernel
theorem dX6_append_21 : decode cX6_append 21 = .ok (.dup, 1) := by decide +kernel
theorem dX6_append_22 : decode cX6_append 22 = .ok (.getfield 22, 3) := by decide +kernel
theorem dX6_append_25 : decode cX6_append 25 = .ok (.iconst 1, 1) := by decide +kernel
theorem dX6_append_26 : decode cX6_append 26 = .ok (.iadd, 1) := by decide +kernel
theorem dX6_append_27 : decode cX6_append 27 = .ok (.putfield 22, 3) := by decide +kernel
theorem dX6_append_30 : decode cX6_append 30 = .ok (.return_, 1) := by decide +kernel
theorem dX6_turnRound_0 : decode cX6_turnRound 0 = .ok (.aload_n 0, 1) := by decide +kernel
theorem dX6_turnRound_1 : decode cX6_turnRound 1 = .ok (.getfield 22, 3) := by decide +kernel
theorem dX6_turnRound_4 : decode cX6_turnRound 4 = .ok (.iconst 1, 1) := by decide +kernel
theorem dX6_turnRound_5 : decode cX6_turnRound 5 = .ok (.isub, 1) := by decide +kernel
theorem dX6_turnRound_6 : decode cX6_turnRound 6 = .ok (.istore_n 2, 1) := by decide +kernel
theorem dX6_turnRound_7 : decode cX6_turnRound 7 = .ok (.iload_n 1, 1) := by decide +kernel
theorem dX6_turnRound_8 : decode cX6_turnRound 8 = .ok (.istore_n 3, 1) := by decide +kernel
theorem dX6_turnRound_9 : decode cX6_turnRound 9 = .ok (.iload_n 3, 1) := by decide +kernel
theorem dX6_turnRound_10 : decode cX6_turnRound 10 = .ok (.iload_n 2, 1) := by decide +kernel
theorem dX6_turnRound_11 : decode cX6_turnRound 11 = .ok (.if_icmp .ge 40, 3) := by decide +kernel
theorem dX6_turnRound_14 : decode cX6_turnRound 14 = .ok (.aload_n 0, 1) := by decide +kernel
theorem dX6_turnRound_15 : decode cX6_turnRound 15 = .ok (.getfield 11, 3) := by decide +kernel
theorem dX6_turnRound_18 : decode cX6_turnRound 18 = .ok (.iload_n 3, 1) := by decide +kernel
theorem dX6_turnRound_19 : decode cX6_turnRound 19 = .ok (.caload, 1) := by decide +kernel
theorem dX6_turnRound_20 : decode cX6_turnRound 20 = .ok (.istore 4, 2) := by decide +kernel
theorem dX6_turnRound_22 : decode cX6_turnRound 22 = .ok (.aload_n 0, 1) := by decide +kernel
theorem dX6_turnRound_23 : decode cX6_turnRound 23 = .ok (.getfield 11, 3) := by decide +kernel
theorem dX6_turnRound_26 : decode cX6_turnRound 26 = .ok (.iload_n 3, 1) := by decide +kernel
theorem dX6_turnRound_27 : decode cX6_turnRound 27 = .ok (.aload_n 0, 1) := by decide +kernel
theorem dX6_turnRound_28 : decode cX6_turnRound 28 = .ok (.getfield 11, 3) := by decide +kernel
theorem dX6_turnRound_31 : decode cX6_turnRound 31 = .ok (.iload_n 2, 1) := by decide +kernel
theorem dX6_turnRound_32 : decode cX6_turnRound 32 = .ok (.caload, 1) := by decide +kernel
theorem dX6_turnRound_33 : decode cX6_turnRound 33 = .ok (.castore, 1) := by decide +kernel
theorem dX6_turnRound_34 : decode cX6_turnRound 34 = .ok (.aload_n 0, 1) := by decide +kernel
theorem dX6_turnRound_35 : decode cX6_turnRound 35 = .ok (.getfield 11, 3) := by decide +kernel
theorem dX6_turnRound_38 : decode cX6_turnRound 38 = .ok (.iload_n 2, 1) := by decide +kernel
theorem dX6_turnRound_39 : decode cX6_turnRound 39 = .ok (.iload 4, 2) := by decide +kernel
theorem dX6_turnRound_41 : decode cX6_turnRound 41 = .ok (.castore, 1) := by decide +kernel
theorem dX6_turnRound_42 : decode cX6_turnRound 42 = .ok (.iinc 2 (-1), 3) := by decide +kernel
theorem dX6_turnRound_45 : decode cX6_turnRound 45 = .ok (.iinc 3 1, 3) := by decide +kernel
theorem dX6_turnRound_48 : decode cX6_turnRound 48 = .ok (.goto (-39), 3) := by decide +kernel
theorem dX6_turnRound_51 : decode cX6_turnRound 51 = .ok (.return_, 1) := by decide +kernel
theorem dX7_init_0 : decode cX7_init 0 = .ok (.aload_n 0, 1) := by decide +kernel
theorem dX7_init_1 : decode cX7_init 1 = .ok (.invokespecial 3, 3) := by decide +kernel
theorem dX7_init_4 : decode cX7_init 4 = .ok (.aload_n 0, 1) := by decide +kernel
theorem dX7_init_5 : decode cX7_init 5 = .ok (.bipush 72, 2) := by decide +kernel
theorem dX7_init_7 : decode cX7_init 7 = .ok (.newarray .int, 2) := by decide +kernel
theorem dX7_init_9 : decode cX7_init 9 = .ok (.putfield 9, 3) := by decide +kernel
theorem dX7_init_12 : decode cX7_init 12 = .ok (.return_, 1) := by decide +kernel
theorem dX7_become_0 : decode cX7_become 0 = .ok (.aload_n 0, 1) := by decide +kernel
theorem dX7_become_1 : decode cX7_become 1 = .ok (.invokevirtual 13, 3) := by decide +kernel
theorem dX7_become_4 : decode cX7_become 4 = .ok (.aload_n 0, 1) := by decide +kernel
theorem dX7_become_5 : decode cX7_become 5 = .ok (.getfield 9, 3) := by decide +kernel
theorem dX7_become_8 : decode cX7_become 8 = .ok (.iconst 0, 1) := by decide +kernel
theorem dX7_become_9 : decode cX7_become 9 = .ok (.lload_n 1, 1) := by decide +kernel
theorem dX7_become_10 : decode cX7_become 10 = .ok (.ldc2_w 16, 3) := by decide +kernel
theorem dX7_become_13 : decode cX7_become 13 = .ok (.land, 1) := by decide +kernel
theorem dX7_become_14 : decode cX7_become 14 = .ok (.l2i, 1) := by decide +kernel
theorem dX7_become_15 : decode cX7_become 15 = .ok (.iastore, 1) := by decide +kernel
theorem dX7_become_16 : decode cX7_become 16 = .ok (.aload_n 0, 1) := by decide +kernel
theorem dX7_become_17 : decode cX7_become 17 = .ok (.getfield 9, 3) := by decide +kernel
theorem dX7_become_20 : decode cX7_become 20 = .ok (.iconst 1, 1) := by decide +kernel
theorem dX7_become_21 : decode cX7_become 21 = .ok (.lload_n 1, 1) := by decide +kernel
theorem dX7_become_22 : decode cX7_become 22 = .ok (.bipush 30, 2) := by decide +kernel
theorem dX7_become_24 : decode cX7_become 24 = .ok (.lshr, 1) := by decide +kernel
theorem dX7_become_25 : decode cX7_become 25 = .ok (.ldc2_w 16, 3) := by decide +kernel
theorem dX7_become_28 : decode cX7_become 28 = .ok (.land, 1) := by decide +kernel
theorem dX7_become_29 : decode cX7_become 29 = .ok (.l2i, 1) := by decide +kernel
theorem dX7_become_30 : decode cX7_become 30 = .ok (.iastore, 1) := by decide +kernel
theorem dX7_become_31 : decode cX7_become 31 = .ok (.aload_n 0, 1) := by decide +kernel
theorem dX7_become_32 : decode cX7_become 32 = .ok (.getfield 9, 3) := by decide +kernel
theorem dX7_become_35 : decode cX7_become 35 = .ok (.iconst 2, 1) := by decide +kernel
theorem dX7_become_36 : decode cX7_become 36 = .ok (.lload_n 1, 1) := by decide +kernel
theorem dX7_become_37 : decode cX7_become 37 = .ok (.bipush 60, 2) := by decide +kernel
theorem dX7_become_39 : decode cX7_become 39 = .ok (.lshr, 1) := by decide +kernel
theorem dX7_become_40 : decode cX7_become 40 = .ok (.ldc2_w 16, 3) := by decide +kernel
theorem dX7_become_43 : decode cX7_become 43 = .ok (.land, 1) := by decide +kernel
theorem dX7_become_44 : decode cX7_become 44 = .ok (.l2i, 1) := by decide +kernel
theorem dX7_become_45 : decode cX7_become 45 = .ok (.iastore, 1) := by decide +kernel
theorem dX7_become_46 : decode cX7_become 46 = .ok (.aload_n 0, 1) := by decide +kernel
theorem dX7_become_47 : decode cX7_become 47 = .ok (.iconst 3, 1) := by decide +kernel
theorem dX7_become_48 : decode cX7_become 48 = .ok (.invokevirtual 18, 3) := by decide +kernel
theorem dX7_become_51 : decode cX7_become 51 = .ok (.return_, 1) := by decide +kernel
theorem dX7_copy_0 : decode cX7_copy 0 = .ok (.aload_n 1, 1) := by decide +kernel
theorem dX7_copy_1 : decode cX7_copy 1 = .ok (.getfield 9, 3) := by decide +kernel
theorem dX7_copy_4 : decode cX7_copy 4 = .ok (.iconst 0, 1) := by decide +kernel
theorem dX7_copy_5 : decode cX7_copy 5 = .ok (.aload_n 0, 1) := by decide +kernel
theorem dX7_copy_6 : decode cX7_copy 6 = .ok (.getfield 9, 3) := by decide +kernel
theorem dX7_copy_9 : decode cX7_copy 9 = .ok (.iconst 0, 1) := by decide +kernel
theorem dX7_copy_10 : decode cX7_copy 10 = .ok (.aload_n 0, 1) := by decide +kernel
theorem dX7_copy_11 : decode cX7_copy 11 = .ok (.getfield 22, 3) := by decide +kernel
theorem dX7_copy_14 : decode cX7_copy 14 = .ok (.aload_n 1, 1) := by decide +kernel
theorem dX7_copy_15 : decode cX7_copy 15 = .ok (.getfield 22, 3) := by decide +kernel
theorem dX7_copy_18 : decode cX7_copy 18 = .ok (.invokestatic 26, 3) := by decide +kernel
theorem dX7_copy_21 : decode cX7_copy 21 = .ok (.invokestatic 32, 3) := by decide +kernel
theorem dX7_copy_24 : decode cX7_copy 24 = .ok (.aload_n 0, 1) := by decide +kernel
theorem dX7_copy_25 : decode cX7_copy 25 = .ok (.aload_n 1, 1) := by decide +kernel
theorem dX7_copy_26 : decode cX7_copy 26 = .ok (.getfield 22, 3) := by decide +kernel
theorem dX7_copy_29 : decode cX7_copy 29 = .ok (.putfield 22, 3) := by decide +kernel
theorem dX7_copy_32 : decode cX7_copy 32 = .ok (.return_, 1) := by decide +kernel
theorem dX7_clear_0 : decode cX7_clear 0 = .ok (.iconst 0, 1) := by decide +kernel
theorem dX7_clear_1 : decode cX7_clear 1 = .ok (.istore_n 1, 1) := by decide +kernel
theorem dX7_clear_2 : decode cX7_clear 2 = .ok (.iload_n 1, 1) := by decide +kernel
theorem dX7_clear_3 : decode cX7_clear 3 = .ok (.aload_n 0, 1) := by decide +kernel
theorem dX7_clear_4 : decode cX7_clear 4 = .ok (.getfield 22, 3) := by decide +kernel
theorem dX7_clear_7 : decode cX7_clear 7 = .ok (.if_icmp .ge 16, 3) := by decide +kernel
theorem dX7_clear_10 : decode cX7_clear 10 = .ok (.aload_n 0, 1) := by decide +kernel
theorem dX7_clear_11 : decode cX7_clear 11 = .ok (.getfield 9, 3) := by decide +kernel
theorem dX7_clear_14 : decode cX7_clear 14 = .ok (.iload_n 1, 1) := by decide +kernel
theorem dX7_clear_15 : decode cX7_clear 15 = .ok (.iconst 0, 1) := by decide +kernel
theorem dX7_clear_16 : decode cX7_clear 16 = .ok (.iastore, 1) := by decide +kernel
theorem dX7_clear_17 : decode cX7_clear 17 = .ok (.iinc 1 1, 3) := by decide +kernel
theorem dX7_clear_20 : decode cX7_clear 20 = .ok (.goto (-18), 3) := by decide +kernel
theorem dX7_clear_23 : decode cX7_clear 23 = .ok (.aload_n 0, 1) := by decide +kernel
theorem dX7_clear_24 : decode cX7_clear 24 = .ok (.iconst 0, 1) := by decide +kernel
theorem dX7_clear_25 : decode cX7_clear 25 = .ok (.putfield 22, 3) := by decide +kernel
theorem dX7_clear_28 : decode cX7_clear 28 = .ok (.return_, 1) := by decide +kernel
theorem dX7_trim_0 : decode cX7_trim 0 = .ok (.aload_n 0, 1) := by decide +kernel
theorem dX7_trim_1 : decode cX7_trim 1 = .ok (.iload_n 1, 1) := by decide +kernel
theorem dX7_trim_2 : decode cX7_trim 2 = .ok (.bipush 72, 2) := by decide +kernel
theorem dX7_trim_4 : decode cX7_trim 4 = .ok (.if_icmp .ge 7, 3) := by decide +kernel
theorem dX7_trim_7 : decode cX7_trim 7 = .ok (.iload_n 1, 1) := by decide +kernel
theorem dX7_trim_8 : decode cX7_trim 8 = .ok (.goto 5, 3) := by decide +kernel
theorem dX7_trim_11 : decode cX7_trim 11 = .ok (.bipush 72, 2) := by decide +kernel
theorem dX7_trim_13 : decode cX7_trim 13 = .ok (.putfield 22, 3) := by decide +kernel
theorem dX7_trim_16 : decode cX7_trim 16 = .ok (.aload_n 0, 1) := by decide +kernel
theorem dX7_trim_17 : decode cX7_trim 17 = .ok (.getfield 22, 3) := by decide +kernel
theorem dX7_trim_20 : decode cX7_trim 20 = .ok (.ifCond .le 30, 3) := by decide +kernel
theorem dX7_trim_23 : decode cX7_trim 23 = .ok (.aload_n 0, 1) := by decide +kernel
theorem dX7_trim_24 : decode cX7_trim 24 = .ok (.getfield 9, 3) := by decide +kernel
theorem dX7_trim_27 : decode cX7_trim 27 = .ok (.aload_n 0, 1) := by decide +kernel
theorem dX7_trim_28 : decode cX7_trim 28 = .ok (.getfield 22, 3) := by decide +kernel
theorem dX7_trim_31 : decode cX7_trim 31 = .ok (.iconst 1, 1) := by decide +kernel
theorem dX7_trim_32 : decode cX7_trim 32 = .ok (.isub, 1) := by decide +kernel
theorem dX7_trim_33 : decode cX7_trim 33 = .ok (.iaload, 1) := by decide +kernel
theorem dX7_trim_34 : decode cX7_trim 34 = .ok (.ifCond .ne 16, 3) := by decide +kernel
theorem dX7_trim_37 : decode cX7_trim 37 = .ok (.aload_n 0, 1) := by decide +kernel
theorem dX7_trim_38 : decode cX7_trim 38 = .ok (.dup, 1) := by decide +kernel
theorem dX7_trim_39 : decode cX7_trim 39 = .ok (.getfield 22, 3) := by decide +kernel
theorem dX7_trim_42 : decode cX7_trim 42 = .ok (.iconst 1, 1) := by decide +kernel
theorem dX7_trim_43 : decode cX7_trim 43 = .ok (.isub, 1) := by decide +kernel
theorem dX7_trim_44 : decode cX7_trim 44 = .ok (.putfield 22, 3) := by decide +kernel
theorem dX7_trim_47 : decode cX7_trim 47 = .ok (.goto (-31), 3) := by decide +kernel
theorem dX7_trim_50 : decode cX7_trim 50 = .ok (.return_, 1) := by decide +kernel
theorem dX7_isZero_0 : decode cX7_isZero 0 = .ok (.aload_n 0, 1) := by decide +kernel
theorem dX7_isZero_1 : decode cX7_isZero 1 = .ok (.getfield 22, 3) := by decide +kernel
theorem dX7_isZero_4 : decode cX7_isZero 4 = .ok (.ifCond .ne 7, 3) := by decide +kernel
theorem dX7_isZero_7 : decode cX7_isZero 7 = .ok (.iconst 1, 1) := by decide +kernel
theorem dX7_isZero_8 : decode cX7_isZero 8 = .ok (.goto 4, 3) := by decide +kernel
theorem dX7_isZero_11 : decode cX7_isZero 11 = .ok (.iconst 0, 1) := by decide +kernel
theorem dX7_isZero_12 : decode cX7_isZero 12 = .ok (.ireturn, 1) := by decide +kernel
theorem dX7_isOne_0 : decode cX7_isOne 0 = .ok (.aload_n 0, 1) := by decide +kernel
theorem dX7_isOne_1 : decode cX7_isOne 1 = .ok (.getfield 22, 3) := by decide +kernel
theorem dX7_isOne_4 : decode cX7_isOne 4 = .ok (.iconst 1, 1) := by decide +kernel
theorem dX7_isOne_5 : decode cX7_isOne 5 = .ok (.if_icmp .ne 17, 3) := by decide +kernel
theorem dX7_isOne_8 : decode cX7_isOne 8 = .ok (.aload_n 0, 1) := by decide +kernel
theorem dX7_isOne_9 : decode cX7_isOne 9 = .ok (.getfield 9, 3) := by decide +kernel
theorem dX7_isOne_12 : decode cX7_isOne 12 = .ok (.iconst 0, 1) := by decide +kernel
theorem dX7_isOne_13 : decode cX7_isOne 13 = .ok (.iaload, 1) := by decide +kernel
theorem dX7_isOne_14 : decode cX7_isOne 14 = .ok (.iconst 1, 1) := by decide +kernel
theorem dX7_isOne_15 : decode cX7_isOne 15 = .ok (.if_icmp .ne 7, 3) := by decide +kernel
theorem dX7_isOne_18 : decode cX7_isOne 18 = .ok (.iconst 1, 1) := by decide +kernel
theorem dX7_isOne_19 : decode cX7_isOne 19 = .ok (.goto 4, 3) := by decide +kernel
theorem dX7_isOne_22 : decode cX7_isOne 22 = .ok (.iconst 0, 1) := by decide +kernel
theorem dX7_isOne_23 : decode cX7_isOne 23 = .ok (.ireturn, 1) := by decide +kernel
theorem dX7_isShort_0 : decode cX7_isShort 0 = .ok (.aload_n 0, 1) := by decide +kernel
theorem dX7_isShort_1 : decode cX7_isShort 1 = .ok (.getfield 22, 3) := by decide +kernel
theorem dX7_isShort_4 : decode cX7_isShort 4 = .ok (.iconst 2, 1) := by decide +kernel
theorem dX7_isShort_5 : decode cX7_isShort 5 = .ok (.if_icmp .gt 7, 3) := by decide +kernel
theorem dX7_isShort_8 : decode cX7_isShort 8 = .ok (.iconst 1, 1) := by decide +kernel
theorem dX7_isShort_9 : decode cX7_isShort 9 = .ok (.goto 4, 3) := by decide +kernel
theorem dX7_isShort_12 : decode cX7_isShort 12 = .ok (.iconst 0, 1) := by decide +kernel
theorem dX7_isShort_13 : decode cX7_isShort 13 = .ok (.ireturn, 1) := by decide +kernel
theorem dX7_asLong_0 : decode cX7_asLong 0 = .ok (.aload_n 0, 1) := by decide +kernel
theorem dX7_asLong_1 : decode cX7_asLong 1 = .ok (.getfield 9, 3) := by decide +kernel
theorem dX7_asLong_4 : decode cX7_asLong 4 = .ok (.iconst 1, 1) := by decide +kernel
theorem dX7_asLong_5 : decode cX7_asLong 5 = .ok (.iaload, 1) := by decide +kernel
theorem dX7_asLong_6 : decode cX7_asLong 6 = .ok (.i2l, 1) := by decide +kernel
theorem dX7_asLong_7 : decode cX7_asLong 7 = .ok (.bipush 30, 2) := by decide +kernel
theorem dX7_asLong_9 : decode cX7_asLong 9 = .ok (.lshl, 1) := by decide +kernel
theorem dX7_asLong_10 : decode cX7_asLong 10 = .ok (.aload_n 0, 1) := by decide +kernel
theorem dX7_asLong_11 : decode cX7_asLong 11 = .ok (.getfield 9, 3) := by decide +kernel
theorem dX7_asLong_14 : decode cX7_asLong 14 = .ok (.iconst 0, 1) := by decide +kernel
theorem dX7_asLong_15 : decode cX7_asLong 15 = .ok (.iaload, 1) := by decide +kernel
theorem dX7_asLong_16 : decode cX7_asLong 16 = .ok (.i2l, 1) := by decide +kernel
theorem dX7_asLong_17 : decode cX7_asLong 17 = .ok (.lor, 1) := by decide +kernel
theorem dX7_asLong_18 : decode cX7_asLong 18 = .ok (.lreturn, 1) := by decide +kernel
theorem dX7_binaryDigits_0 : decode cX7_binaryDigits 0 = .ok (.aload_n 0, 1) := by decide +kernel
theorem dX7_binaryDigits_1 : decode cX7_binaryDigits 1 = .ok (.getfield 22, 3) := by decide +kernel
theorem dX7_binaryDigits_4 : decode cX7_binaryDigits 4 = .ok (.bipush 30, 2) := by decide +kernel
theorem dX7_binaryDigits_6 : decode cX7_binaryDigits 6 = .ok (.imul, 1) := by decide +kernel
theorem dX7_binaryDigits_7 : decode cX7_binaryDigits 7 = .ok (.aload_n 0, 1) := by decide +kernel
theorem dX7_binaryDigits_8 : decode cX7_binaryDigits 8 = .ok (.invokevirtual 38, 3) := by decide +kernel
theorem dX7_binaryDigits_11 : decode cX7_binaryDigits 11 = .ok (.isub, 1) := by decide +kernel
theorem dX7_binaryDigits_12 : decode cX7_binaryDigits 12 = .ok (.ireturn, 1) := by decide +kernel
theorem dX7_freeBits_0 : decode cX7_freeBits 0 = .ok (.iconst 0, 1) := by decide +kernel
theorem dX7_freeBits_1 : decode cX7_freeBits 1 = .ok (.istore_n 1, 1) := by decide +kernel
theorem dX7_freeBits_2 : decode cX7_freeBits 2 = .ok (.aload_n 0, 1) := by decide +kernel
theorem dX7_freeBits_3 : decode cX7_freeBits 3 = .ok (.getfield 22, 3) := by decide +kernel
theorem dX7_freeBits_6 : decode cX7_freeBits 6 = .ok (.ifCond .le 34, 3) := by decide +kernel
theorem dX7_freeBits_9 : decode cX7_freeBits 9 = .ok (.iload_n 1, 1) := by decide +kernel
theorem dX7_freeBits_10 : decode cX7_freeBits 10 = .ok (.bipush 30, 2) := by decide +kernel
theorem dX7_freeBits_12 : decode cX7_freeBits 12 = .ok (.if_icmp .ge 28, 3) := by decide +kernel
theorem dX7_freeBits_15 : decode cX7_freeBits 15 = .ok (.aload_n 0, 1) := by decide +kernel
theorem dX7_freeBits_16 : decode cX7_freeBits 16 = .ok (.getfield 9, 3) := by decide +kernel
theorem dX7_freeBits_19 : decode cX7_freeBits 19 = .ok (.aload_n 0, 1) := by decide +kernel
theorem dX7_freeBits_20 : decode cX7_freeBits 20 = .ok (.getfield 22, 3) := by decide +kernel
theorem dX7_freeBits_23 : decode cX7_freeBits 23 = .ok (.iconst 1, 1) := by decide +kernel
theorem dX7_freeBits_24 : decode cX7_freeBits 24 = .ok (.isub, 1) := by decide +kernel
theorem dX7_freeBits_25 : decode cX7_freeBits 25 = .ok (.iaload, 1) := by decide +kernel
theorem dX7_freeBits_26 : decode cX7_freeBits 26 = .ok (.bipush 29, 2) := by decide +kernel
theorem dX7_freeBits_28 : decode cX7_freeBits 28 = .ok (.iload_n 1, 1) := by decide +kernel
theorem dX7_freeBits_29 : decode cX7_freeBits 29 = .ok (.isub, 1) := by decide +kernel
theorem dX7_freeBits_30 : decode cX7_freeBits 30 = .ok (.ishr, 1) := by decide +kernel
theorem dX7_freeBits_31 : decode cX7_freeBits 31 = .ok (.ifCond .ne 9, 3) := by decide +kernel
theorem dX7_freeBits_34 : decode cX7_freeBits 34 = .ok (.iinc 1 1, 3) := by decide +kernel
theorem dX7_freeBits_37 : decode cX7_freeBits 37 = .ok (.goto (-35), 3) := by decide +kernel
theorem dX7_freeBits_40 : decode cX7_freeBits 40 = .ok (.iload_n 1, 1) := by decide +kernel
theorem dX7_freeBits_41 : decode cX7_freeBits 41 = .ok (.ireturn, 1) := by decide +kernel
theorem dX7_compareWith_0 : decode cX7_compareWith 0 = .ok (.aload_n 0, 1) := by decide +kernel
theorem dX7_compareWith_1 : decode cX7_compareWith 1 = .ok (.getfield 22, 3) := by decide +kernel
theorem dX7_compareWith_4 : decode cX7_compareWith 4 = .ok (.aload_n 1, 1) := by decide +kernel
theorem dX7_compareWith_5 : decode cX7_compareWith 5 = .ok (.getfield 22, 3) := by decide +kernel
theorem dX7_compareWith_8 : decode cX7_compareWith 8 = .ok (.invokestatic 26, 3) := by decide +kernel
theorem dX7_compareWith_11 : decode cX7_compareWith 11 = .ok (.iconst 1, 1) := by decide +kernel
theorem dX7_compareWith_12 : decode cX7_compareWith 12 = .ok (.isub, 1) := by decide +kernel
theorem dX7_compareWith_13 : decode cX7_compareWith 13 = .ok (.istore_n 2, 1) := by decide +kernel
theorem dX7_compareWith_14 : decode cX7_compareWith 14 = .ok (.iload_n 2, 1) := by decide +kernel
theorem dX7_compareWith_15 : decode cX7_compareWith 15 = .ok (.ifCond .lt 40, 3) := by decide +kernel
theorem dX7_compareWith_18 : decode cX7_compareWith 18 = .ok (.aload_n 0, 1) := by decide +kernel
theorem dX7_compareWith_19 : decode cX7_compareWith 19 = .ok (.getfield 9, 3) := by decide +kernel
theorem dX7_compareWith_22 : decode cX7_compareWith 22 = .ok (.iload_n 2, 1) := by decide +kernel
theorem dX7_compareWith_23 : decode cX7_compareWith 23 = .ok (.iaload, 1) := by decide +kernel
theorem dX7_compareWith_24 : decode cX7_compareWith 24 = .ok (.aload_n 1, 1) := by decide +kernel
theorem dX7_compareWith_25 : decode cX7_compareWith 25 = .ok (.getfield 9, 3) := by decide +kernel
theorem dX7_compareWith_28 : decode cX7_compareWith 28 = .ok (.iload_n 2, 1) := by decide +kernel
theorem dX7_compareWith_29 : decode cX7_compareWith 29 = .ok (.iaload, 1) := by decide +kernel
theorem dX7_compareWith_30 : decode cX7_compareWith 30 = .ok (.if_icmp .eq 19, 3) := by decide +kernel
theorem dX7_compareWith_33 : decode cX7_compareWith 33 = .ok (.aload_n 0, 1) := by decide +kernel
theorem dX7_compareWith_34 : decode cX7_compareWith 34 = .ok (.getfield 9, 3) := by decide +kernel
theorem dX7_compareWith_37 : decode cX7_compareWith 37 = .ok (.iload_n 2, 1) := by decide +kernel
theorem dX7_compareWith_38 : decode cX7_compareWith 38 = .ok (.iaload, 1) := by decide +kernel
theorem dX7_compareWith_39 : decode cX7_compareWith 39 = .ok (.aload_n 1, 1) := by decide +kernel
theorem dX7_compareWith_40 : decode cX7_compareWith 40 = .ok (.getfield 9, 3) := by decide +kernel
theorem dX7_compareWith_43 : decode cX7_compareWith 43 = .ok (.iload_n 2, 1) := by decide +kernel
theorem dX7_compareWith_44 : decode cX7_compareWith 44 = .ok (.iaload, 1) := by decide +kernel
theorem dX7_compareWith_45 : decode cX7_compareWith 45 = .ok (.invokestatic 42, 3) := by decide +kernel
theorem dX7_compareWith_48 : decode cX7_compareWith 48 = .ok (.ireturn, 1) := by decide +kernel
theorem dX7_compareWith_49 : decode cX7_compareWith 49 = .ok (.iinc 2 (-1), 3) := by decide +kernel
theorem dX7_compareWith_52 : decode cX7_compareWith 52 = .ok (.goto (-38), 3) := by decide +kernel
theorem dX7_compareWith_55 : decode cX7_compareWith 55 = .ok (.iconst 0, 1) := by decide +kernel
theorem dX7_compareWith_56 : decode cX7_compareWith 56 = .ok (.ireturn, 1) := by decide +kernel
theorem dX7_add_0 : decode cX7_add 0 = .ok (.aload_n 0, 1) := by decide +kernel
theorem dX7_add_1 : decode cX7_add 1 = .ok (.getfield 22, 3) := by decide +kernel
theorem dX7_add_4 : decode cX7_add 4 = .ok (.aload_n 1, 1) := by decide +kernel
theorem dX7_add_5 : decode cX7_add 5 = .ok (.getfield 22, 3) := by decide +kernel
theorem dX7_add_8 : decode cX7_add 8 = .ok (.invokestatic 26, 3) := by decide +kernel
theorem dX7_add_11 : decode cX7_add 11 = .ok (.iconst 1, 1) := by decide +kernel
theorem dX7_add_12 : decode cX7_add 12 = .ok (.iadd, 1) := by decide +kernel
theorem dX7_add_13 : decode cX7_add 13 = .ok (.bipush 72, 2) := by decide +kernel
theorem dX7_add_15 : decode cX7_add 15 = .ok (.invokestatic 47, 3) := by decide +kernel
theorem dX7_add_18 : decode cX7_add 18 = .ok (.istore_n 2, 1) := by decide +kernel
theorem dX7_add_19 : decode cX7_add 19 = .ok (.iconst 0, 1) := by decide +kernel
theorem dX7_add_20 : decode cX7_add 20 = .ok (.istore_n 3, 1) := by decide +kernel
theorem dX7_add_21 : decode cX7_add 21 = .ok (.iconst 0, 1) := by decide +kernel
theorem dX7_add_22 : decode cX7_add 22 = .ok (.istore 4, 2) := by decide +kernel
theorem dX7_add_24 : decode cX7_add 24 = .ok (.iload 4, 2) := by decide +kernel
theorem dX7_add_26 : decode cX7_add 26 = .ok (.iload_n 2, 1) := by decide +kernel
theorem dX7_add_27 : decode cX7_add 27 = .ok (.if_icmp .ge 46, 3) := by decide +kernel
theorem dX7_add_30 : decode cX7_add 30 = .ok (.aload_n 0, 1) := by decide +kernel
theorem dX7_add_31 : decode cX7_add 31 = .ok (.getfield 9, 3) := by decide +kernel
theorem dX7_add_34 : decode cX7_add 34 = .ok (.iload 4, 2) := by decide +kernel
theorem dX7_add_36 : decode cX7_add 36 = .ok (.iaload, 1) := by decide +kernel
theorem dX7_add_37 : decode cX7_add 37 = .ok (.aload_n 1, 1) := by decide +kernel
theorem dX7_add_38 : decode cX7_add 38 = .ok (.getfield 9, 3) := by decide +kernel
theorem dX7_add_41 : decode cX7_add 41 = .ok (.iload 4, 2) := by decide +kernel
theorem dX7_add_43 : decode cX7_add 43 = .ok (.iaload, 1) := by decide +kernel
theorem dX7_add_44 : decode cX7_add 44 = .ok (.iadd, 1) := by decide +kernel
theorem dX7_add_45 : decode cX7_add 45 = .ok (.iload_n 3, 1) := by decide +kernel
theorem dX7_add_46 : decode cX7_add 46 = .ok (.iadd, 1) := by decide +kernel
theorem dX7_add_47 : decode cX7_add 47 = .ok (.istore 5, 2) := by decide +kernel
theorem dX7_add_49 : decode cX7_add 49 = .ok (.aload_n 0, 1) := by decide +kernel
theorem dX7_add_50 : decode cX7_add 50 = .ok (.getfield 9, 3) := by decide +kernel
theorem dX7_add_53 : decode cX7_add 53 = .ok (.iload 4, 2) := by decide +kernel
theorem dX7_add_55 : decode cX7_add 55 = .ok (.iload 5, 2) := by decide +kernel
theorem dX7_add_57 : decode cX7_add 57 = .ok (.ldc 50, 2) := by decide +kernel
theorem dX7_add_59 : decode cX7_add 59 = .ok (.iand, 1) := by decide +kernel
theorem dX7_add_60 : decode cX7_add 60 = .ok (.iastore, 1) := by decide +kernel
theorem dX7_add_61 : decode cX7_add 61 = .ok (.iload 5, 2) := by decide +kernel
theorem dX7_add_63 : decode cX7_add 63 = .ok (.bipush 30, 2) := by decide +kernel
theorem dX7_add_65 : decode cX7_add 65 = .ok (.iushr, 1) := by decide +kernel
theorem dX7_add_66 : decode cX7_add 66 = .ok (.istore_n 3, 1) := by decide +kernel
theorem dX7_add_67 : decode cX7_add 67 = .ok (.iinc 4 1, 3) := by decide +kernel
theorem dX7_add_70 : decode cX7_add 70 = .ok (.goto (-46), 3) := by decide +kernel
theorem dX7_add_73 : decode cX7_add 73 = .ok (.aload_n 0, 1) := by decide +kernel
theorem dX7_add_74 : decode cX7_add 74 = .ok (.iload_n 2, 1) := by decide +kernel
theorem dX7_add_75 : decode cX7_add 75 = .ok (.invokevirtual 18, 3) := by decide +kernel
theorem dX7_add_78 : decode cX7_add 78 = .ok (.return_, 1) := by decide +kernel
theorem dX7_setProduct_0 : decode cX7_setProduct 0 = .ok (.aload_n 0, 1) := by decide +kernel
theorem dX7_setProduct_1 : decode cX7_setProduct 1 = .ok (.invokevirtual 13, 3) := by decide +kernel
theorem dX7_setProduct_4 : decode cX7_setProduct 4 = .ok (.iconst 0, 1) := by decide +kernel
theorem dX7_setProduct_5 : decode cX7_setProduct 5 = .ok (.istore_n 3, 1) := by decide +kernel
theorem dX7_setProduct_6 : decode cX7_setProduct 6 = .ok (.iload_n 3, 1) := by decide +kernel
theorem dX7_setProduct_7 : decode cX7_setProduct 7 = .ok (.aload_n 1, 1) := by decide +kernel
theorem dX7_setProduct_8 : decode cX7_setProduct 8 = .ok (.getfield 22, 3) := by decide +kernel
theorem dX7_setProduct_11 : decode cX7_setProduct 11 = .ok (.if_icmp .ge 110, 3) := by decide +kernel
theorem dX7_setProduct_14 : decode cX7_setProduct 14 = .ok (.iload_n 3, 1) := by decide +kernel
theorem dX7_setProduct_15 : decode cX7_setProduct 15 = .ok (.aload_n 2, 1) := by decide +kernel
theorem dX7_setProduct_16 : decode cX7_setProduct 16 = .ok (.getfield 22, 3) := by decide +kernel
theorem dX7_setProduct_19 : decode cX7_setProduct 19 = .ok (.iadd, 1) := by decide +kernel
theorem dX7_setProduct_20 : decode cX7_setProduct 20 = .ok (.bipush 72, 2) := by decide +kernel
theorem dX7_setProduct_22 : decode cX7_setProduct 22 = .ok (.if_icmp .ge 99, 3) := by decide +kernel
theorem dX7_setProduct_25 : decode cX7_setProduct 25 = .ok (.lconst 0, 1) := by decide +kernel
theorem dX7_setProduct_26 : decode cX7_setProduct 26 = .ok (.lstore 4, 2) := by decide +kernel
theorem dX7_setProduct_28 : decode cX7_setProduct 28 = .ok (.iconst 0, 1) := by decide +kernel
theorem dX7_setProduct_29 : decode cX7_setProduct 29 = .ok (.istore 6, 2) := by decide +kernel
theorem dX7_setProduct_31 : decode cX7_setProduct 31 = .ok (.iload 6, 2) := by decide +kernel
theorem dX7_setProduct_33 : decode cX7_setProduct 33 = .ok (.aload_n 2, 1) := by decide +kernel
theorem dX7_setProduct_34 : decode cX7_setProduct 34 = .ok (.getfield 22, 3) := by decide +kernel
theorem dX7_setProduct_37 : decode cX7_setProduct 37 = .ok (.if_icmp .ge 64, 3) := by decide +kernel
theorem dX7_setProduct_40 : decode cX7_setProduct 40 = .ok (.aload_n 1, 1) := by decide +kernel
theorem dX7_setProduct_41 : decode cX7_setProduct 41 = .ok (.getfield 9, 3) := by decide +kernel
theorem dX7_setProduct_44 : decode cX7_setProduct 44 = .ok (.iload_n 3, 1) := by decide +kernel
theorem dX7_setProduct_45 : decode cX7_setProduct 45 = .ok (.iaload, 1) := by decide +kernel
theorem dX7_setProduct_46 : decode cX7_setProduct 46 = .ok (.i2l, 1) := by decide +kernel
theorem dX7_setProduct_47 : decode cX7_setProduct 47 = .ok (.aload_n 2, 1) := by decide +kernel
theorem dX7_setProduct_48 : decode cX7_setProduct 48 = .ok (.getfield 9, 3) := by decide +kernel
theorem dX7_setProduct_51 : decode cX7_setProduct 51 = .ok (.iload 6, 2) := by decide +kernel
theorem dX7_setProduct_53 : decode cX7_setProduct 53 = .ok (.iaload, 1) := by decide +kernel
theorem dX7_setProduct_54 : decode cX7_setProduct 54 = .ok (.i2l, 1) := by decide +kernel
theorem dX7_setProduct_55 : decode cX7_setProduct 55 = .ok (.lmul, 1) := by decide +kernel
theorem dX7_setProduct_56 : decode cX7_setProduct 56 = .ok (.aload_n 0, 1) := by decide +kernel
theorem dX7_setProduct_57 : decode cX7_setProduct 57 = .ok (.getfield 9, 3) := by decide +kernel
theorem dX7_setProduct_60 : decode cX7_setProduct 60 = .ok (.iload_n 3, 1) := by decide +kernel
theorem dX7_setProduct_61 : decode cX7_setProduct 61 = .ok (.iload 6, 2) := by decide +kernel
theorem dX7_setProduct_63 : decode cX7_setProduct 63 = .ok (.iadd, 1) := by decide +kernel
theorem dX7_setProduct_64 : decode cX7_setProduct 64 = .ok (.iaload, 1) := by decide +kernel
theorem dX7_setProduct_65 : decode cX7_setProduct 65 = .ok (.i2l, 1) := by decide +kernel
theorem dX7_setProduct_66 : decode cX7_setProduct 66 = .ok (.ladd, 1) := by decide +kernel
theorem dX7_setProduct_67 : decode cX7_setProduct 67 = .ok (.lload 4, 2) := by decide +kernel
theorem dX7_setProduct_69 : decode cX7_setProduct 69 = .ok (.ladd, 1) := by decide +kernel
theorem dX7_setProduct_70 : decode cX7_setProduct 70 = .ok (.lstore 7, 2) := by decide +kernel
theorem dX7_setProduct_72 : decode cX7_setProduct 72 = .ok (.aload_n 0, 1) := by decide +kernel
theorem dX7_setProduct_73 : decode cX7_setProduct 73 = .ok (.getfield 9, 3) := by decide +kernel
theorem dX7_setProduct_76 : decode cX7_setProduct 76 = .ok (.iload_n 3, 1) := by decide +kernel
theorem dX7_setProduct_77 : decode cX7_setProduct 77 = .ok (.iload 6, 2) := by decide +kernel
theorem dX7_setProduct_79 : decode cX7_setProduct 79 = .ok (.iadd, 1) := by decide +kernel
theorem dX7_setProduct_80 : decode cX7_setProduct 80 = .ok (.lload 7, 2) := by decide +kernel
theorem dX7_setProduct_82 : decode cX7_setProduct 82 = .ok (.ldc2_w 16, 3) := by decide +kernel
theorem dX7_setProduct_85 : decode cX7_setProduct 85 = .ok (.land, 1) := by decide +kernel
theorem dX7_setProduct_86 : decode cX7_setProduct 86 = .ok (.l2i, 1) := by decide +kernel
theorem dX7_setProduct_87 : decode cX7_setProduct 87 = .ok (.iastore, 1) := by decide +kernel
theorem dX7_setProduct_88 : decode cX7_setProduct 88 = .ok (.lload 7, 2) := by decide +kernel
theorem dX7_setProduct_90 : decode cX7_setProduct 90 = .ok (.bipush 30, 2) := by decide +kernel
theorem dX7_setProduct_92 : decode cX7_setProduct 92 = .ok (.lshr, 1) := by decide +kernel
theorem dX7_setProduct_93 : decode cX7_setProduct 93 = .ok (.lstore 4, 2) := by decide +kernel
theorem dX7_setProduct_95 : decode cX7_setProduct 95 = .ok (.iinc 6 1, 3) := by decide +kernel
theorem dX7_setProduct_98 : decode cX7_setProduct 98 = .ok (.goto (-67), 3) := by decide +kernel
theorem dX7_setProduct_101 : decode cX7_setProduct 101 = .ok (.aload_n 0, 1) := by decide +kernel
theorem dX7_setProduct_102 : decode cX7_setProduct 102 = .ok (.getfield 9, 3) := by decide +kernel
theorem dX7_setProduct_105 : decode cX7_setProduct 105 = .ok (.iload_n 3, 1) := by decide +kernel
theorem dX7_setProduct_106 : decode cX7_setProduct 106 = .ok (.aload_n 2, 1) := by decide +kernel
theorem dX7_setProduct_107 : decode cX7_setProduct 107 = .ok (.getfield 22, 3) := by decide +kernel
theorem dX7_setProduct_110 : decode cX7_setProduct 110 = .ok (.iadd, 1) := by decide +kernel
theorem dX7_setProduct_111 : decode cX7_setProduct 111 = .ok (.lload 4, 2) := by decide +kernel
theorem dX7_setProduct_113 : decode cX7_setProduct 113 = .ok (.l2i, 1) := by decide +kernel
theorem dX7_setProduct_114 : decode cX7_setProduct 114 = .ok (.iastore, 1) := by decide +kernel
theorem dX7_setProduct_115 : decode cX7_setProduct 115 = .ok (.iinc 3 1, 3) := by decide +kernel
theorem dX7_setProduct_118 : decode cX7_setProduct 118 = .ok (.goto (-112), 3) := by decide +kernel
theorem dX7_setProduct_121 : decode cX7_setProduct 121 = .ok (.aload_n 0, 1) := by decide +kernel
theorem dX7_setProduct_122 : decode cX7_setProduct 122 = .ok (.aload_n 1, 1) := by decide +kernel
theorem dX7_setProduct_123 : decode cX7_setProduct 123 = .ok (.getfield 22, 3) := by decide +kernel
theorem dX7_setProduct_126 : decode cX7_setProduct 126 = .ok (.aload_n 2, 1) := by decide +kernel
theorem dX7_setProduct_127 : decode cX7_setProduct 127 = .ok (.getfield 22, 3) := by decide +kernel
theorem dX7_setProduct_130 : decode cX7_setProduct 130 = .ok (.iadd, 1) := by decide +kernel
theorem dX7_setProduct_131 : decode cX7_setProduct 131 = .ok (.invokevirtual 18, 3) := by decide +kernel
theorem dX7_setProduct_134 : decode cX7_setProduct 134 = .ok (.return_, 1) := by decide +kernel
theorem dX7_divideBySmall_0 : decode cX7_divideBySmall 0 = .ok (.iload_n 1, 1) := by decide +kernel
theorem dX7_divideBySmall_1 : decode cX7_divideBySmall 1 = .ok (.ifCond .gt 5, 3) := by decide +kernel
theorem dX7_divideBySmall_4 : decode cX7_divideBySmall 4 = .ok (.iconst 0, 1) := by decide +kernel
theorem dX7_divideBySmall_5 : decode cX7_divideBySmall 5 = .ok (.ireturn, 1) := by decide +kernel
theorem dX7_divideBySmall_6 : decode cX7_divideBySmall 6 = .ok (.lconst 0, 1) := by decide +kernel
theorem dX7_divideBySmall_7 : decode cX7_divideBySmall 7 = .ok (.lstore_n 2, 1) := by decide +kernel
theorem dX7_divideBySmall_8 : decode cX7_divideBySmall 8 = .ok (.aload_n 0, 1) := by decide +kernel
theorem dX7_divideBySmall_9 : decode cX7_divideBySmall 9 = .ok (.getfield 22, 3) := by decide +kernel
theorem dX7_divideBySmall_12 : decode cX7_divideBySmall 12 = .ok (.iconst 1, 1) := by decide +kernel
theorem dX7_divideBySmall_13 : decode cX7_divideBySmall 13 = .ok (.isub, 1) := by decide +kernel
theorem dX7_divideBySmall_14 : decode cX7_divideBySmall 14 = .ok (.istore 4, 2) := by decide +kernel
theorem dX7_divideBySmall_16 : decode cX7_divideBySmall 16 = .ok (.iload 4, 2) := by decide +kernel
theorem dX7_divideBySmall_18 : decode cX7_divideBySmall 18 = .ok (.ifCond .lt 43, 3) := by decide +kernel
theorem dX7_divideBySmall_21 : decode cX7_divideBySmall 21 = .ok (.lload_n 2, 1) := by decide +kernel
theorem dX7_divideBySmall_22 : decode cX7_divideBySmall 22 = .ok (.bipush 30, 2) := by decide +kernel
theorem dX7_divideBySmall_24 : decode cX7_divideBySmall 24 = .ok (.lshl, 1) := by decide +kernel
theorem dX7_divideBySmall_25 : decode cX7_divideBySmall 25 = .ok (.aload_n 0, 1) := by decide +kernel
theorem dX7_divideBySmall_26 : decode cX7_divideBySmall 26 = .ok (.getfield 9, 3) := by decide +kernel
theorem dX7_divideBySmall_29 : decode cX7_divideBySmall 29 = .ok (.iload 4, 2) := by decide +kernel
theorem dX7_divideBySmall_31 : decode cX7_divideBySmall 31 = .ok (.iaload, 1) := by decide +kernel
theorem dX7_divideBySmall_32 : decode cX7_divideBySmall 32 = .ok (.i2l, 1) := by decide +kernel
theorem dX7_divideBySmall_33 : decode cX7_divideBySmall 33 = .ok (.lor, 1) := by decide +kernel
theorem dX7_divideBySmall_34 : decode cX7_divideBySmall 34 = .ok (.lstore 5, 2) := by decide +kernel
theorem dX7_divideBySmall_36 : decode cX7_divideBySmall 36 = .ok (.aload_n 0, 1) := by decide +kernel
theorem dX7_divideBySmall_37 : decode cX7_divideBySmall 37 = .ok (.getfield 9, 3) := by decide +kernel
theorem dX7_divideBySmall_40 : decode cX7_divideBySmall 40 = .ok (.iload 4, 2) := by decide +kernel
theorem dX7_divideBySmall_42 : decode cX7_divideBySmall 42 = .ok (.lload 5, 2) := by decide +kernel
theorem dX7_divideBySmall_44 : decode cX7_divideBySmall 44 = .ok (.iload_n 1, 1) := by decide +kernel
theorem dX7_divideBySmall_45 : decode cX7_divideBySmall 45 = .ok (.i2l, 1) := by decide +kernel
theorem dX7_divideBySmall_46 : decode cX7_divideBySmall 46 = .ok (.ldiv, 1) := by decide +kernel
theorem dX7_divideBySmall_47 : decode cX7_divideBySmall 47 = .ok (.l2i, 1) := by decide +kernel
theorem dX7_divideBySmall_48 : decode cX7_divideBySmall 48 = .ok (.iastore, 1) := by decide +kernel
theorem dX7_divideBySmall_49 : decode cX7_divideBySmall 49 = .ok (.lload 5, 2) := by decide +kernel
theorem dX7_divideBySmall_51 : decode cX7_divideBySmall 51 = .ok (.iload_n 1, 1) := by decide +kernel
theorem dX7_divideBySmall_52 : decode cX7_divideBySmall 52 = .ok (.i2l, 1) := by decide +kernel
theorem dX7_divideBySmall_53 : decode cX7_divideBySmall 53 = .ok (.lrem, 1) := by decide +kernel
theorem dX7_divideBySmall_54 : decode cX7_divideBySmall 54 = .ok (.lstore_n 2, 1) := by decide +kernel
theorem dX7_divideBySmall_55 : decode cX7_divideBySmall 55 = .ok (.iinc 4 (-1), 3) := by decide +kernel
theorem dX7_divideBySmall_58 : decode cX7_divideBySmall 58 = .ok (.goto (-42), 3) := by decide +kernel
theorem dX7_divideBySmall_61 : decode cX7_divideBySmall 61 = .ok (.aload_n 0, 1) := by decide +kernel
theorem dX7_divideBySmall_62 : decode cX7_divideBySmall 62 = .ok (.aload_n 0, 1) := by decide +kernel
theorem dX7_divideBySmall_63 : decode cX7_divideBySmall 63 = .ok (.getfield 22, 3) := by decide +kernel
theorem dX7_divideBySmall_66 : decode cX7_divideBySmall 66 = .ok (.invokevirtual 18, 3) := by decide +kernel
theorem dX7_divideBySmall_69 : decode cX7_divideBySmall 69 = .ok (.lload_n 2, 1) := by decide +kernel
theorem dX7_divideBySmall_70 : decode cX7_divideBySmall 70 = .ok (.l2i, 1) := by decide +kernel
theorem dX7_divideBySmall_71 : decode cX7_divideBySmall 71 = .ok (.ireturn, 1) := by decide +kernel
theorem dX7_shiftUp_0 : decode cX7_shiftUp 0 = .ok (.aload_n 0, 1) := by decide +kernel
theorem dX7_shiftUp_1 : decode cX7_shiftUp 1 = .ok (.getfield 22, 3) := by decide +kernel
theorem dX7_shiftUp_4 : decode cX7_shiftUp 4 = .ok (.iconst 1, 1) := by decide +kernel
theorem dX7_shiftUp_5 : decode cX7_shiftUp 5 = .ok (.iadd, 1) := by decide +kernel
theorem dX7_shiftUp_6 : decode cX7_shiftUp 6 = .ok (.bipush 72, 2) := by decide +kernel
theorem dX7_shiftUp_8 : decode cX7_shiftUp 8 = .ok (.invokestatic 47, 3) := by decide +kernel
theorem dX7_shiftUp_11 : decode cX7_shiftUp 11 = .ok (.istore_n 2, 1) := by decide +kernel
theorem dX7_shiftUp_12 : decode cX7_shiftUp 12 = .ok (.lconst 0, 1) := by decide +kernel
theorem dX7_shiftUp_13 : decode cX7_shiftUp 13 = .ok (.lstore_n 3, 1) := by decide +kernel
theorem dX7_shiftUp_14 : decode cX7_shiftUp 14 = .ok (.iconst 0, 1) := by decide +kernel
theorem dX7_shiftUp_15 : decode cX7_shiftUp 15 = .ok (.istore 5, 2) := by decide +kernel
theorem dX7_shiftUp_17 : decode cX7_shiftUp 17 = .ok (.iload 5, 2) := by decide +kernel
theorem dX7_shiftUp_19 : decode cX7_shiftUp 19 = .ok (.iload_n 2, 1) := by decide +kernel
theorem dX7_shiftUp_20 : decode cX7_shiftUp 20 = .ok (.if_icmp .ge 43, 3) := by decide +kernel
theorem dX7_shiftUp_23 : decode cX7_shiftUp 23 = .ok (.aload_n 0, 1) := by decide +kernel
theorem dX7_shiftUp_24 : decode cX7_shiftUp 24 = .ok (.getfield 9, 3) := by decide +kernel
theorem dX7_shiftUp_27 : decode cX7_shiftUp 27 = .ok (.iload 5, 2) := by decide +kernel
theorem dX7_shiftUp_29 : decode cX7_shiftUp 29 = .ok (.iaload, 1) := by decide +kernel
theorem dX7_shiftUp_30 : decode cX7_shiftUp 30 = .ok (.i2l, 1) := by decide +kernel
theorem dX7_shiftUp_31 : decode cX7_shiftUp 31 = .ok (.iload_n 1, 1) := by decide +kernel
theorem dX7_shiftUp_32 : decode cX7_shiftUp 32 = .ok (.lshl, 1) := by decide +kernel
theorem dX7_shiftUp_33 : decode cX7_shiftUp 33 = .ok (.lload_n 3, 1) := by decide +kernel
theorem dX7_shiftUp_34 : decode cX7_shiftUp 34 = .ok (.lor, 1) := by decide +kernel
theorem dX7_shiftUp_35 : decode cX7_shiftUp 35 = .ok (.lstore 6, 2) := by decide +kernel
theorem dX7_shiftUp_37 : decode cX7_shiftUp 37 = .ok (.aload_n 0, 1) := by decide +kernel
theorem dX7_shiftUp_38 : decode cX7_shiftUp 38 = .ok (.getfield 9, 3) := by decide +kernel
theorem dX7_shiftUp_41 : decode cX7_shiftUp 41 = .ok (.iload 5, 2) := by decide +kernel
theorem dX7_shiftUp_43 : decode cX7_shiftUp 43 = .ok (.lload 6, 2) := by decide +kernel
theorem dX7_shiftUp_45 : decode cX7_shiftUp 45 = .ok (.ldc2_w 16, 3) := by decide +kernel
theorem dX7_shiftUp_48 : decode cX7_shiftUp 48 = .ok (.land, 1) := by decide +kernel
theorem dX7_shiftUp_49 : decode cX7_shiftUp 49 = .ok (.l2i, 1) := by decide +kernel
theorem dX7_shiftUp_50 : decode cX7_shiftUp 50 = .ok (.iastore, 1) := by decide +kernel
theorem dX7_shiftUp_51 : decode cX7_shiftUp 51 = .ok (.lload 6, 2) := by decide +kernel
theorem dX7_shiftUp_53 : decode cX7_shiftUp 53 = .ok (.bipush 30, 2) := by decide +kernel
theorem dX7_shiftUp_55 : decode cX7_shiftUp 55 = .ok (.lshr, 1) := by decide +kernel
theorem dX7_shiftUp_56 : decode cX7_shiftUp 56 = .ok (.lstore_n 3, 1) := by decide +kernel
theorem dX7_shiftUp_57 : decode cX7_shiftUp 57 = .ok (.iinc 5 1, 3) := by decide +kernel
theorem dX7_shiftUp_60 : decode cX7_shiftUp 60 = .ok (.goto (-43), 3) := by decide +kernel
theorem dX7_shiftUp_63 : decode cX7_shiftUp 63 = .ok (.aload_n 0, 1) := by decide +kernel
theorem dX7_shiftUp_64 : decode cX7_shiftUp 64 = .ok (.iload_n 2, 1) := by decide +kernel
theorem dX7_shiftUp_65 : decode cX7_shiftUp 65 = .ok (.invokevirtual 18, 3) := by decide +kernel
theorem dX7_shiftUp_68 : decode cX7_shiftUp 68 = .ok (.return_, 1) := by decide +kernel
theorem dX7_shiftDown_0 : decode cX7_shiftDown 0 = .ok (.lconst 1, 1) := by decide +kernel
theorem dX7_shiftDown_1 : decode cX7_shiftDown 1 = .ok (.iload_n 1, 1) := by decide +kernel
theorem dX7_shiftDown_2 : decode cX7_shiftDown 2 = .ok (.lshl, 1) := by decide +kernel
theorem dX7_shiftDown_3 : decode cX7_shiftDown 3 = .ok (.lconst 1, 1) := by decide +kernel
theorem dX7_shiftDown_4 : decode cX7_shiftDown 4 = .ok (.lsub, 1) := by decide +kernel
theorem dX7_shiftDown_5 : decode cX7_shiftDown 5 = .ok (.lstore_n 2, 1) := by decide +kernel
theorem dX7_shiftDown_6 : decode cX7_shiftDown 6 = .ok (.lconst 0, 1) := by decide +kernel
theorem dX7_shiftDown_7 : decode cX7_shiftDown 7 = .ok (.lstore 4, 2) := by decide +kernel
theorem dX7_shiftDown_9 : decode cX7_shiftDown 9 = .ok (.aload_n 0, 1) := by decide +kernel
theorem dX7_shiftDown_10 : decode cX7_shiftDown 10 = .ok (.getfield 22, 3) := by decide +kernel
theorem dX7_shiftDown_13 : decode cX7_shiftDown 13 = .ok (.iconst 1, 1) := by decide +kernel
theorem dX7_shiftDown_14 : decode cX7_shiftDown 14 = .ok (.isub, 1) := by decide +kernel
theorem dX7_shiftDown_15 : decode cX7_shiftDown 15 = .ok (.istore 6, 2) := by decide +kernel
theorem dX7_shiftDown_17 : decode cX7_shiftDown 17 = .ok (.iload 6, 2) := by decide +kernel
theorem dX7_shiftDown_19 : decode cX7_shiftDown 19 = .ok (.ifCond .lt 43, 3) := by decide +kernel
theorem dX7_shiftDown_22 : decode cX7_shiftDown 22 = .ok (.lload 4, 2) := by decide +kernel
theorem dX7_shiftDown_24 : decode cX7_shiftDown 24 = .ok (.bipush 30, 2) := by decide +kernel
theorem dX7_shiftDown_26 : decode cX7_shiftDown 26 = .ok (.lshl, 1) := by decide +kernel
theorem dX7_shiftDown_27 : decode cX7_shiftDown 27 = .ok (.aload_n 0, 1) := by decide +kernel
theorem dX7_shiftDown_28 : decode cX7_shiftDown 28 = .ok (.getfield 9, 3) := by decide +kernel
theorem dX7_shiftDown_31 : decode cX7_shiftDown 31 = .ok (.iload 6, 2) := by decide +kernel
theorem dX7_shiftDown_33 : decode cX7_shiftDown 33 = .ok (.iaload, 1) := by decide +kernel
theorem dX7_shiftDown_34 : decode cX7_shiftDown 34 = .ok (.i2l, 1) := by decide +kernel
theorem dX7_shiftDown_35 : decode cX7_shiftDown 35 = .ok (.lor, 1) := by decide +kernel
theorem dX7_shiftDown_36 : decode cX7_shiftDown 36 = .ok (.lstore 7, 2) := by decide +kernel
theorem dX7_shiftDown_38 : decode cX7_shiftDown 38 = .ok (.aload_n 0, 1) := by decide +kernel
theorem dX7_shiftDown_39 : decode cX7_shiftDown 39 = .ok (.getfield 9, 3) := by decide +kernel
theorem dX7_shiftDown_42 : decode cX7_shiftDown 42 = .ok (.iload 6, 2) := by decide +kernel
theorem dX7_shiftDown_44 : decode cX7_shiftDown 44 = .ok (.lload 7, 2) := by decide +kernel
theorem dX7_shiftDown_46 : decode cX7_shiftDown 46 = .ok (.iload_n 1, 1) := by decide +kernel
theorem dX7_shiftDown_47 : decode cX7_shiftDown 47 = .ok (.lshr, 1) := by decide +kernel
theorem dX7_shiftDown_48 : decode cX7_shiftDown 48 = .ok (.l2i, 1) := by decide +kernel
theorem dX7_shiftDown_49 : decode cX7_shiftDown 49 = .ok (.iastore, 1) := by decide +kernel
theorem dX7_shiftDown_50 : decode cX7_shiftDown 50 = .ok (.lload 7, 2) := by decide +kernel
theorem dX7_shiftDown_52 : decode cX7_shiftDown 52 = .ok (.lload_n 2, 1) := by decide +kernel
theorem dX7_shiftDown_53 : decode cX7_shiftDown 53 = .ok (.land, 1) := by decide +kernel
theorem dX7_shiftDown_54 : decode cX7_shiftDown 54 = .ok (.lstore 4, 2) := by decide +kernel
theorem dX7_shiftDown_56 : decode cX7_shiftDown 56 = .ok (.iinc 6 (-1), 3) := by decide +kernel
theorem dX7_shiftDown_59 : decode cX7_shiftDown 59 = .ok (.goto (-42), 3) := by decide +kernel
theorem dX7_shiftDown_62 : decode cX7_shiftDown 62 = .ok (.aload_n 0, 1) := by decide +kernel
theorem dX7_shiftDown_63 : decode cX7_shiftDown 63 = .ok (.aload_n 0, 1) := by decide +kernel
theorem dX7_shiftDown_64 : decode cX7_shiftDown 64 = .ok (.getfield 22, 3) := by decide +kernel
theorem dX7_shiftDown_67 : decode cX7_shiftDown 67 = .ok (.invokevirtual 18, 3) := by decide +kernel
theorem dX7_shiftDown_70 : decode cX7_shiftDown 70 = .ok (.return_, 1) := by decide +kernel
theorem dX7_digitAt_0 : decode cX7_digitAt 0 = .ok (.iload_n 1, 1) := by decide +kernel
theorem dX7_digitAt_1 : decode cX7_digitAt 1 = .ok (.ifCond .lt 18, 3) := by decide +kernel
theorem dX7_digitAt_4 : decode cX7_digitAt 4 = .ok (.iload_n 1, 1) := by decide +kernel
theorem dX7_digitAt_5 : decode cX7_digitAt 5 = .ok (.bipush 72, 2) := by decide +kernel
theorem dX7_digitAt_7 : decode cX7_digitAt 7 = .ok (.if_icmp .ge 12, 3) := by decide +kernel
theorem dX7_digitAt_10 : decode cX7_digitAt 10 = .ok (.aload_n 0, 1) := by decide +kernel
theorem dX7_digitAt_11 : decode cX7_digitAt 11 = .ok (.getfield 9, 3) := by decide +kernel
theorem dX7_digitAt_14 : decode cX7_digitAt 14 = .ok (.iload_n 1, 1) := by decide +kernel
theorem dX7_digitAt_15 : decode cX7_digitAt 15 = .ok (.iaload, 1) := by decide +kernel
theorem dX7_digitAt_16 : decode cX7_digitAt 16 = .ok (.goto 4, 3) := by decide +kernel
theorem dX7_digitAt_19 : decode cX7_digitAt 19 = .ok (.iconst 0, 1) := by decide +kernel
theorem dX7_digitAt_20 : decode cX7_digitAt 20 = .ok (.ireturn, 1) := by decide +kernel
theorem dX7_guessDigit_0 : decode cX7_guessDigit 0 = .ok (.aload_n 1, 1) := by decide +kernel
theorem dX7_guessDigit_1 : decode cX7_guessDigit 1 = .ok (.aload_n 1, 1) := by decide +kernel
theorem dX7_guessDigit_2 : decode cX7_guessDigit 2 = .ok (.getfield 22, 3) := by decide +kernel
theorem dX7_guessDigit_5 : decode cX7_guessDigit 5 = .ok (.iconst 1, 1) := by decide +kernel
theorem dX7_guessDigit_6 : decode cX7_guessDigit 6 = .ok (.isub, 1) := by decide +kernel
theorem dX7_guessDigit_7 : decode cX7_guessDigit 7 = .ok (.invokevirtual 51, 3) := by decide +kernel
theorem dX7_guessDigit_10 : decode cX7_guessDigit 10 = .ok (.istore_n 3, 1) := by decide +kernel
theorem dX7_guessDigit_11 : decode cX7_guessDigit 11 = .ok (.aload_n 1, 1) := by decide +kernel
theorem dX7_guessDigit_12 : decode cX7_guessDigit 12 = .ok (.aload_n 1, 1) := by decide +kernel
theorem dX7_guessDigit_13 : decode cX7_guessDigit 13 = .ok (.getfield 22, 3) := by decide +kernel
theorem dX7_guessDigit_16 : decode cX7_guessDigit 16 = .ok (.iconst 2, 1) := by decide +kernel
theorem dX7_guessDigit_17 : decode cX7_guessDigit 17 = .ok (.isub, 1) := by decide +kernel
theorem dX7_guessDigit_18 : decode cX7_guessDigit 18 = .ok (.invokevirtual 51, 3) := by decide +kernel
theorem dX7_guessDigit_21 : decode cX7_guessDigit 21 = .ok (.istore 4, 2) := by decide +kernel
theorem dX7_guessDigit_23 : decode cX7_guessDigit 23 = .ok (.iload_n 3, 1) := by decide +kernel
theorem dX7_guessDigit_24 : decode cX7_guessDigit 24 = .ok (.ifCond .ne 5, 3) := by decide +kernel
theorem dX7_guessDigit_27 : decode cX7_guessDigit 27 = .ok (.iconst 0, 1) := by decide +kernel
theorem dX7_guessDigit_28 : decode cX7_guessDigit 28 = .ok (.ireturn, 1) := by decide +kernel
theorem dX7_guessDigit_29 : decode cX7_guessDigit 29 = .ok (.iload_n 2, 1) := by decide +kernel
theorem dX7_guessDigit_30 : decode cX7_guessDigit 30 = .ok (.aload_n 1, 1) := by decide +kernel
theorem dX7_guessDigit_31 : decode cX7_guessDigit 31 = .ok (.getfield 22, 3) := by decide +kernel
theorem dX7_guessDigit_34 : decode cX7_guessDigit 34 = .ok (.iadd, 1) := by decide +kernel
theorem dX7_guessDigit_35 : decode cX7_guessDigit 35 = .ok (.istore 5, 2) := by decide +kernel
theorem dX7_guessDigit_37 : decode cX7_guessDigit 37 = .ok (.aload_n 0, 1) := by decide +kernel
theorem dX7_guessDigit_38 : decode cX7_guessDigit 38 = .ok (.iload 5, 2) := by decide +kernel
theorem dX7_guessDigit_40 : decode cX7_guessDigit 40 = .ok (.invokevirtual 51, 3) := by decide +kernel
theorem dX7_guessDigit_43 : decode cX7_guessDigit 43 = .ok (.i2l, 1) := by decide +kernel
theorem dX7_guessDigit_44 : decode cX7_guessDigit 44 = .ok (.bipush 30, 2) := by decide +kernel
theorem dX7_guessDigit_46 : decode cX7_guessDigit 46 = .ok (.lshl, 1) := by decide +kernel
theorem dX7_guessDigit_47 : decode cX7_guessDigit 47 = .ok (.aload_n 0, 1) := by decide +kernel
theorem dX7_guessDigit_48 : decode cX7_guessDigit 48 = .ok (.iload 5, 2) := by decide +kernel
theorem dX7_guessDigit_50 : decode cX7_guessDigit 50 = .ok (.iconst 1, 1) := by decide +kernel
theorem dX7_guessDigit_51 : decode cX7_guessDigit 51 = .ok (.isub, 1) := by decide +kernel
theorem dX7_guessDigit_52 : decode cX7_guessDigit 52 = .ok (.invokevirtual 51, 3) := by decide +kernel
theorem dX7_guessDigit_55 : decode cX7_guessDigit 55 = .ok (.i2l, 1) := by decide +kernel
theorem dX7_guessDigit_56 : decode cX7_guessDigit 56 = .ok (.lor, 1) := by decide +kernel
theorem dX7_guessDigit_57 : decode cX7_guessDigit 57 = .ok (.lstore 6, 2) := by decide +kernel
theorem dX7_guessDigit_59 : decode cX7_guessDigit 59 = .ok (.lload 6, 2) := by decide +kernel
theorem dX7_guessDigit_61 : decode cX7_guessDigit 61 = .ok (.iload_n 3, 1) := by decide +kernel
theorem dX7_guessDigit_62 : decode cX7_guessDigit 62 = .ok (.i2l, 1) := by decide +kernel
theorem dX7_guessDigit_63 : decode cX7_guessDigit 63 = .ok (.ldiv, 1) := by decide +kernel
theorem dX7_guessDigit_64 : decode cX7_guessDigit 64 = .ok (.lstore 8, 2) := by decide +kernel
theorem dX7_guessDigit_66 : decode cX7_guessDigit 66 = .ok (.lload 6, 2) := by decide +kernel
theorem dX7_guessDigit_68 : decode cX7_guessDigit 68 = .ok (.iload_n 3, 1) := by decide +kernel
theorem dX7_guessDigit_69 : decode cX7_guessDigit 69 = .ok (.i2l, 1) := by decide +kernel
theorem dX7_guessDigit_70 : decode cX7_guessDigit 70 = .ok (.lrem, 1) := by decide +kernel
theorem dX7_guessDigit_71 : decode cX7_guessDigit 71 = .ok (.lstore 10, 2) := by decide +kernel
theorem dX7_guessDigit_73 : decode cX7_guessDigit 73 = .ok (.iconst 0, 1) := by decide +kernel
theorem dX7_guessDigit_74 : decode cX7_guessDigit 74 = .ok (.istore 12, 2) := by decide +kernel
theorem dX7_guessDigit_76 : decode cX7_guessDigit 76 = .ok (.iload 12, 2) := by decide +kernel
theorem dX7_guessDigit_78 : decode cX7_guessDigit 78 = .ok (.iconst 2, 1) := by decide +kernel
theorem dX7_guessDigit_79 : decode cX7_guessDigit 79 = .ok (.if_icmp .ge 65, 3) := by decide +kernel
theorem dX7_guessDigit_82 : decode cX7_guessDigit 82 = .ok (.lload 10, 2) := by decide +kernel
theorem dX7_guessDigit_84 : decode cX7_guessDigit 84 = .ok (.ldc2_w 16, 3) := by decide +kernel
theorem dX7_guessDigit_87 : decode cX7_guessDigit 87 = .ok (.lcmp, 1) := by decide +kernel
theorem dX7_guessDigit_88 : decode cX7_guessDigit 88 = .ok (.ifCond .gt 56, 3) := by decide +kernel
theorem dX7_guessDigit_91 : decode cX7_guessDigit 91 = .ok (.lload 8, 2) := by decide +kernel
theorem dX7_guessDigit_93 : decode cX7_guessDigit 93 = .ok (.ldc2_w 16, 3) := by decide +kernel
theorem dX7_guessDigit_96 : decode cX7_guessDigit 96 = .ok (.lcmp, 1) := by decide +kernel
theorem dX7_guessDigit_97 : decode cX7_guessDigit 97 = .ok (.ifCond .gt 28, 3) := by decide +kernel
theorem dX7_guessDigit_100 : decode cX7_guessDigit 100 = .ok (.lload 8, 2) := by decide +kernel
theorem dX7_guessDigit_102 : decode cX7_guessDigit 102 = .ok (.iload 4, 2) := by decide +kernel
theorem dX7_guessDigit_104 : decode cX7_guessDigit 104 = .ok (.i2l, 1) := by decide +kernel
theorem dX7_guessDigit_105 : decode cX7_guessDigit 105 = .ok (.lmul, 1) := by decide +kernel
theorem dX7_guessDigit_106 : decode cX7_guessDigit 106 = .ok (.lload 10, 2) := by decide +kernel
theorem dX7_guessDigit_108 : decode cX7_guessDigit 108 = .ok (.bipush 30, 2) := by decide +kernel
theorem dX7_guessDigit_110 : decode cX7_guessDigit 110 = .ok (.lshl, 1) := by decide +kernel
theorem dX7_guessDigit_111 : decode cX7_guessDigit 111 = .ok (.aload_n 0, 1) := by decide +kernel
theorem dX7_guessDigit_112 : decode cX7_guessDigit 112 = .ok (.iload 5, 2) := by decide +kernel
theorem dX7_guessDigit_114 : decode cX7_guessDigit 114 = .ok (.iconst 2, 1) := by decide +kernel
theorem dX7_guessDigit_115 : decode cX7_guessDigit 115 = .ok (.isub, 1) := by decide +kernel
theorem dX7_guessDigit_116 : decode cX7_guessDigit 116 = .ok (.invokevirtual 51, 3) := by decide +kernel
theorem dX7_guessDigit_119 : decode cX7_guessDigit 119 = .ok (.i2l, 1) := by decide +kernel
theorem dX7_guessDigit_120 : decode cX7_guessDigit 120 = .ok (.lor, 1) := by decide +kernel
theorem dX7_guessDigit_121 : decode cX7_guessDigit 121 = .ok (.lcmp, 1) := by decide +kernel
theorem dX7_guessDigit_122 : decode cX7_guessDigit 122 = .ok (.ifCond .le 16, 3) := by decide +kernel
theorem dX7_guessDigit_125 : decode cX7_guessDigit 125 = .ok (.lload 8, 2) := by decide +kernel
theorem dX7_guessDigit_127 : decode cX7_guessDigit 127 = .ok (.lconst 1, 1) := by decide +kernel
theorem dX7_guessDigit_128 : decode cX7_guessDigit 128 = .ok (.lsub, 1) := by decide +kernel
theorem dX7_guessDigit_129 : decode cX7_guessDigit 129 = .ok (.lstore 8, 2) := by decide +kernel
theorem dX7_guessDigit_131 : decode cX7_guessDigit 131 = .ok (.lload 10, 2) := by decide +kernel
theorem dX7_guessDigit_133 : decode cX7_guessDigit 133 = .ok (.iload_n 3, 1) := by decide +kernel
theorem dX7_guessDigit_134 : decode cX7_guessDigit 134 = .ok (.i2l, 1) := by decide +kernel
theorem dX7_guessDigit_135 : decode cX7_guessDigit 135 = .ok (.ladd, 1) := by decide +kernel
theorem dX7_guessDigit_136 : decode cX7_guessDigit 136 = .ok (.lstore 10, 2) := by decide +kernel
theorem dX7_guessDigit_138 : decode cX7_guessDigit 138 = .ok (.iinc 12 1, 3) := by decide +kernel
theorem dX7_guessDigit_141 : decode cX7_guessDigit 141 = .ok (.goto (-65), 3) := by decide +kernel
theorem dX7_guessDigit_144 : decode cX7_guessDigit 144 = .ok (.lload 8, 2) := by decide +kernel
theorem dX7_guessDigit_146 : decode cX7_guessDigit 146 = .ok (.l2i, 1) := by decide +kernel
theorem dX7_guessDigit_147 : decode cX7_guessDigit 147 = .ok (.ireturn, 1) := by decide +kernel
theorem dX7_subtractAt_0 : decode cX7_subtractAt 0 = .ok (.lconst 0, 1) := by decide +kernel
theorem dX7_subtractAt_1 : decode cX7_subtractAt 1 = .ok (.lstore 4, 2) := by decide +kernel
theorem dX7_subtractAt_3 : decode cX7_subtractAt 3 = .ok (.iload_n 1, 1) := by decide +kernel
theorem dX7_subtractAt_4 : decode cX7_subtractAt 4 = .ok (.aload_n 2, 1) := by decide +kernel
theorem dX7_subtractAt_5 : decode cX7_subtractAt 5 = .ok (.getfield 22, 3) := by decide +kernel
theorem dX7_subtractAt_8 : decode cX7_subtractAt 8 = .ok (.iadd, 1) := by decide +kernel
theorem dX7_subtractAt_9 : decode cX7_subtractAt 9 = .ok (.bipush 71, 2) := by decide +kernel
theorem dX7_subtractAt_11 : decode cX7_subtractAt 11 = .ok (.invokestatic 47, 3) := by decide +kernel
theorem dX7_subtractAt_14 : decode cX7_subtractAt 14 = .ok (.istore 6, 2) := by decide +kernel
theorem dX7_subtractAt_16 : decode cX7_subtractAt 16 = .ok (.iload_n 1, 1) := by decide +kernel
theorem dX7_subtractAt_17 : decode cX7_subtractAt 17 = .ok (.istore 7, 2) := by decide +kernel
theorem dX7_subtractAt_19 : decode cX7_subtractAt 19 = .ok (.iload 7, 2) := by decide +kernel
theorem dX7_subtractAt_21 : decode cX7_subtractAt 21 = .ok (.iload 6, 2) := by decide +kernel
theorem dX7_subtractAt_23 : decode cX7_subtractAt 23 = .ok (.if_icmp .ge 57, 3) := by decide +kernel
theorem dX7_subtractAt_26 : decode cX7_subtractAt 26 = .ok (.aload_n 0, 1) := by decide +kernel
theorem dX7_subtractAt_27 : decode cX7_subtractAt 27 = .ok (.getfield 9, 3) := by decide +kernel
theorem dX7_subtractAt_30 : decode cX7_subtractAt 30 = .ok (.iload 7, 2) := by decide +kernel
theorem dX7_subtractAt_32 : decode cX7_subtractAt 32 = .ok (.iaload, 1) := by decide +kernel
theorem dX7_subtractAt_33 : decode cX7_subtractAt 33 = .ok (.i2l, 1) := by decide +kernel
theorem dX7_subtractAt_34 : decode cX7_subtractAt 34 = .ok (.aload_n 2, 1) := by decide +kernel
theorem dX7_subtractAt_35 : decode cX7_subtractAt 35 = .ok (.getfield 9, 3) := by decide +kernel
theorem dX7_subtractAt_38 : decode cX7_subtractAt 38 = .ok (.iload 7, 2) := by decide +kernel
theorem dX7_subtractAt_40 : decode cX7_subtractAt 40 = .ok (.iload_n 1, 1) := by decide +kernel
theorem dX7_subtractAt_41 : decode cX7_subtractAt 41 = .ok (.isub, 1) := by decide +kernel
theorem dX7_subtractAt_42 : decode cX7_subtractAt 42 = .ok (.iaload, 1) := by decide +kernel
theorem dX7_subtractAt_43 : decode cX7_subtractAt 43 = .ok (.i2l, 1) := by decide +kernel
theorem dX7_subtractAt_44 : decode cX7_subtractAt 44 = .ok (.iload_n 3, 1) := by decide +kernel
theorem dX7_subtractAt_45 : decode cX7_subtractAt 45 = .ok (.i2l, 1) := by decide +kernel
theorem dX7_subtractAt_46 : decode cX7_subtractAt 46 = .ok (.lmul, 1) := by decide +kernel
theorem dX7_subtractAt_47 : decode cX7_subtractAt 47 = .ok (.lsub, 1) := by decide +kernel
theorem dX7_subtractAt_48 : decode cX7_subtractAt 48 = .ok (.lload 4, 2) := by decide +kernel
theorem dX7_subtractAt_50 : decode cX7_subtractAt 50 = .ok (.ladd, 1) := by decide +kernel
theorem dX7_subtractAt_51 : decode cX7_subtractAt 51 = .ok (.lstore 8, 2) := by decide +kernel
theorem dX7_subtractAt_53 : decode cX7_subtractAt 53 = .ok (.aload_n 0, 1) := by decide +kernel
theorem dX7_subtractAt_54 : decode cX7_subtractAt 54 = .ok (.getfield 9, 3) := by decide +kernel
theorem dX7_subtractAt_57 : decode cX7_subtractAt 57 = .ok (.iload 7, 2) := by decide +kernel
theorem dX7_subtractAt_59 : decode cX7_subtractAt 59 = .ok (.lload 8, 2) := by decide +kernel
theorem dX7_subtractAt_61 : decode cX7_subtractAt 61 = .ok (.ldc2_w 16, 3) := by decide +kernel
theorem dX7_subtractAt_64 : decode cX7_subtractAt 64 = .ok (.land, 1) := by decide +kernel
theorem dX7_subtractAt_65 : decode cX7_subtractAt 65 = .ok (.l2i, 1) := by decide +kernel
theorem dX7_subtractAt_66 : decode cX7_subtractAt 66 = .ok (.iastore, 1) := by decide +kernel
theorem dX7_subtractAt_67 : decode cX7_subtractAt 67 = .ok (.lload 8, 2) := by decide +kernel
theorem dX7_subtractAt_69 : decode cX7_subtractAt 69 = .ok (.bipush 30, 2) := by decide +kernel
theorem dX7_subtractAt_71 : decode cX7_subtractAt 71 = .ok (.lshr, 1) := by decide +kernel
theorem dX7_subtractAt_72 : decode cX7_subtractAt 72 = .ok (.lstore 4, 2) := by decide +kernel
theorem dX7_subtractAt_74 : decode cX7_subtractAt 74 = .ok (.iinc 7 1, 3) := by decide +kernel
theorem dX7_subtractAt_77 : decode cX7_subtractAt 77 = .ok (.goto (-58), 3) := by decide +kernel
theorem dX7_subtractAt_80 : decode cX7_subtractAt 80 = .ok (.aload_n 0, 1) := by decide +kernel
theorem dX7_subtractAt_81 : decode cX7_subtractAt 81 = .ok (.getfield 9, 3) := by decide +kernel
theorem dX7_subtractAt_84 : decode cX7_subtractAt 84 = .ok (.iload 6, 2) := by decide +kernel
theorem dX7_subtractAt_86 : decode cX7_subtractAt 86 = .ok (.iaload, 1) := by decide +kernel
theorem dX7_subtractAt_87 : decode cX7_subtractAt 87 = .ok (.i2l, 1) := by decide +kernel
theorem dX7_subtractAt_88 : decode cX7_subtractAt 88 = .ok (.lload 4, 2) := by decide +kernel
theorem dX7_subtractAt_90 : decode cX7_subtractAt 90 = .ok (.ladd, 1) := by decide +kernel
theorem dX7_subtractAt_91 : decode cX7_subtractAt 91 = .ok (.lstore 7, 2) := by decide +kernel
theorem dX7_subtractAt_93 : decode cX7_subtractAt 93 = .ok (.aload_n 0, 1) := by decide +kernel
theorem dX7_subtractAt_94 : decode cX7_subtractAt 94 = .ok (.getfield 9, 3) := by decide +kernel
theorem dX7_subtractAt_97 : decode cX7_subtractAt 97 = .ok (.iload 6, 2) := by decide +kernel
theorem dX7_subtractAt_99 : decode cX7_subtractAt 99 = .ok (.lload 7, 2) := by decide +kernel
theorem dX7_subtractAt_101 : decode cX7_subtractAt 101 = .ok (.ldc2_w 16, 3) := by decide +kernel
theorem dX7_subtractAt_104 : decode cX7_subtractAt 104 = .ok (.land, 1) := by decide +kernel
theorem dX7_subtractAt_105 : decode cX7_subtractAt 105 = .ok (.l2i, 1) := by decide +kernel
theorem dX7_subtractAt_106 : decode cX7_subtractAt 106 = .ok (.iastore, 1) := by decide +kernel
theorem dX7_subtractAt_107 : decode cX7_subtractAt 107 = .ok (.lload 7, 2) := by decide +kernel
theorem dX7_subtractAt_109 : decode cX7_subtractAt 109 = .ok (.lconst 0, 1) := by decide +kernel
theorem dX7_subtractAt_110 : decode cX7_subtractAt 110 = .ok (.lcmp, 1) := by decide +kernel
theorem dX7_subtractAt_111 : decode cX7_subtractAt 111 = .ok (.ifCond .ge 7, 3) := by decide +kernel
theorem dX7_subtractAt_114 : decode cX7_subtractAt 114 = .ok (.iconst 1, 1) := by decide +kernel
theorem dX7_subtractAt_115 : decode cX7_subtractAt 115 = .ok (.goto 4, 3) := by decide +kernel
theorem dX7_subtractAt_118 : decode cX7_subtractAt 118 = .ok (.iconst 0, 1) := by decide +kernel
theorem dX7_subtractAt_119 : decode cX7_subtractAt 119 = .ok (.ireturn, 1) := by decide +kernel
theorem dX7_addAt_0 : decode cX7_addAt 0 = .ok (.iconst 0, 1) := by decide +kernel
theorem dX7_addAt_1 : decode cX7_addAt 1 = .ok (.istore_n 3, 1) := by decide +kernel
theorem dX7_addAt_2 : decode cX7_addAt 2 = .ok (.iload_n 1, 1) := by decide +kernel
theorem dX7_addAt_3 : decode cX7_addAt 3 = .ok (.aload_n 2, 1) := by decide +kernel
theorem dX7_addAt_4 : decode cX7_addAt 4 = .ok (.getfield 22, 3) := by decide +kernel
theorem dX7_addAt_7 : decode cX7_addAt 7 = .ok (.iadd, 1) := by decide +kernel
theorem dX7_addAt_8 : decode cX7_addAt 8 = .ok (.bipush 71, 2) := by decide +kernel
theorem dX7_addAt_10 : decode cX7_addAt 10 = .ok (.invokestatic 47, 3) := by decide +kernel
theorem dX7_addAt_13 : decode cX7_addAt 13 = .ok (.istore 4, 2) := by decide +kernel
theorem dX7_addAt_15 : decode cX7_addAt 15 = .ok (.iload_n 1, 1) := by decide +kernel
theorem dX7_addAt_16 : decode cX7_addAt 16 = .ok (.istore 5, 2) := by decide +kernel
theorem dX7_addAt_18 : decode cX7_addAt 18 = .ok (.iload 5, 2) := by decide +kernel
theorem dX7_addAt_20 : decode cX7_addAt 20 = .ok (.iload 4, 2) := by decide +kernel
theorem dX7_addAt_22 : decode cX7_addAt 22 = .ok (.if_icmp .ge 48, 3) := by decide +kernel
theorem dX7_addAt_25 : decode cX7_addAt 25 = .ok (.aload_n 0, 1) := by decide +kernel
theorem dX7_addAt_26 : decode cX7_addAt 26 = .ok (.getfield 9, 3) := by decide +kernel
theorem dX7_addAt_29 : decode cX7_addAt 29 = .ok (.iload 5, 2) := by decide +kernel
theorem dX7_addAt_31 : decode cX7_addAt 31 = .ok (.iaload, 1) := by decide +kernel
theorem dX7_addAt_32 : decode cX7_addAt 32 = .ok (.aload_n 2, 1) := by decide +kernel
theorem dX7_addAt_33 : decode cX7_addAt 33 = .ok (.getfield 9, 3) := by decide +kernel
theorem dX7_addAt_36 : decode cX7_addAt 36 = .ok (.iload 5, 2) := by decide +kernel
theorem dX7_addAt_38 : decode cX7_addAt 38 = .ok (.iload_n 1, 1) := by decide +kernel
theorem dX7_addAt_39 : decode cX7_addAt 39 = .ok (.isub, 1) := by decide +kernel
theorem dX7_addAt_40 : decode cX7_addAt 40 = .ok (.iaload, 1) := by decide +kernel
theorem dX7_addAt_41 : decode cX7_addAt 41 = .ok (.iadd, 1) := by decide +kernel
theorem dX7_addAt_42 : decode cX7_addAt 42 = .ok (.iload_n 3, 1) := by decide +kernel
theorem dX7_addAt_43 : decode cX7_addAt 43 = .ok (.iadd, 1) := by decide +kernel
theorem dX7_addAt_44 : decode cX7_addAt 44 = .ok (.istore 6, 2) := by decide +kernel
theorem dX7_addAt_46 : decode cX7_addAt 46 = .ok (.aload_n 0, 1) := by decide +kernel
theorem dX7_addAt_47 : decode cX7_addAt 47 = .ok (.getfield 9, 3) := by decide +kernel
theorem dX7_addAt_50 : decode cX7_addAt 50 = .ok (.iload 5, 2) := by decide +kernel
theorem dX7_addAt_52 : decode cX7_addAt 52 = .ok (.iload 6, 2) := by decide +kernel
theorem dX7_addAt_54 : decode cX7_addAt 54 = .ok (.ldc 50, 2) := by decide +kernel
theorem dX7_addAt_56 : decode cX7_addAt 56 = .ok (.iand, 1) := by decide +kernel
theorem dX7_addAt_57 : decode cX7_addAt 57 = .ok (.iastore, 1) := by decide +kernel
theorem dX7_addAt_58 : decode cX7_addAt 58 = .ok (.iload 6, 2) := by decide +kernel
theorem dX7_addAt_60 : decode cX7_addAt 60 = .ok (.bipush 30, 2) := by decide +kernel
theorem dX7_addAt_62 : decode cX7_addAt 62 = .ok (.iushr, 1) := by decide +kernel
theorem dX7_addAt_63 : decode cX7_addAt 63 = .ok (.istore_n 3, 1) := by decide +kernel
theorem dX7_addAt_64 : decode cX7_addAt 64 = .ok (.iinc 5 1, 3) := by decide +kernel
theorem dX7_addAt_67 : decode cX7_addAt 67 = .ok (.goto (-49), 3) := by decide +kernel
theorem dX7_addAt_70 : decode cX7_addAt 70 = .ok (.aload_n 0, 1) := by decide +kernel
theorem dX7_addAt_71 : decode cX7_addAt 71 = .ok (.getfield 9, 3) := by decide +kernel
theorem dX7_addAt_74 : decode cX7_addAt 74 = .ok (.iload 4, 2) := by decide +kernel
theorem dX7_addAt_76 : decode cX7_addAt 76 = .ok (.aload_n 0, 1) := by decide +kernel
theorem dX7_addAt_77 : decode cX7_addAt 77 = .ok (.getfield 9, 3) := by decide +kernel
theorem dX7_addAt_80 : decode cX7_addAt 80 = .ok (.iload 4, 2) := by decide +kernel
theorem dX7_addAt_82 : decode cX7_addAt 82 = .ok (.iaload, 1) := by decide +kernel
theorem dX7_addAt_83 : decode cX7_addAt 83 = .ok (.iload_n 3, 1) := by decide +kernel
theorem dX7_addAt_84 : decode cX7_addAt 84 = .ok (.iadd, 1) := by decide +kernel
theorem dX7_addAt_85 : decode cX7_addAt 85 = .ok (.ldc 50, 2) := by decide +kernel
theorem dX7_addAt_87 : decode cX7_addAt 87 = .ok (.iand, 1) := by decide +kernel
theorem dX7_addAt_88 : decode cX7_addAt 88 = .ok (.iastore, 1) := by decide +kernel
theorem dX7_addAt_89 : decode cX7_addAt 89 = .ok (.return_, 1) := by decide +kernel
theorem dJ6_compare_7cf53_0 : decode cJ6_compare_7cf53 0 = .ok (.iload_n 0, 1) := by decide +kernel
theorem dJ6_compare_7cf53_1 : decode cJ6_compare_7cf53 1 = .ok (.iload_n 1, 1) := by decide +kernel
theorem dJ6_compare_7cf53_2 : decode cJ6_compare_7cf53 2 = .ok (.if_icmp .ge 7, 3) := by decide +kernel
theorem dJ6_compare_7cf53_5 : decode cJ6_compare_7cf53 5 = .ok (.iconst (-1), 1) := by decide +kernel
theorem dJ6_compare_7cf53_6 : decode cJ6_compare_7cf53 6 = .ok (.goto 13, 3) := by decide +kernel
theorem dJ6_compare_7cf53_9 : decode cJ6_compare_7cf53 9 = .ok (.iload_n 0, 1) := by decide +kernel
theorem dJ6_compare_7cf53_10 : decode cJ6_compare_7cf53 10 = .ok (.iload_n 1, 1) := by decide +kernel
theorem dJ6_compare_7cf53_11 : decode cJ6_compare_7cf53 11 = .ok (.if_icmp .ne 7, 3) := by decide +kernel
theorem dJ6_compare_7cf53_14 : decode cJ6_compare_7cf53 14 = .ok (.iconst 0, 1) := by decide +kernel
theorem dJ6_compare_7cf53_15 : decode cJ6_compare_7cf53 15 = .ok (.goto 4, 3) := by decide +kernel
theorem dJ6_compare_7cf53_18 : decode cJ6_compare_7cf53 18 = .ok (.iconst 1, 1) := by decide +kernel
theorem dJ6_compare_7cf53_19 : decode cJ6_compare_7cf53 19 = .ok (.ireturn, 1) := by decide +kernel
theorem dJ6_bitCount_0f7a4_0 : decode cJ6_bitCount_0f7a4 0 = .ok (.iload_n 0, 1) := by decide +kernel
theorem dJ6_bitCount_0f7a4_1 : decode cJ6_bitCount_0f7a4 1 = .ok (.iload_n 0, 1) := by decide +kernel
theorem dJ6_bitCount_0f7a4_2 : decode cJ6_bitCount_0f7a4 2 = .ok (.iconst 1, 1) := by decide +kernel
theorem dJ6_bitCount_0f7a4_3 : decode cJ6_bitCount_0f7a4 3 = .ok (.iushr, 1) := by decide +kernel
theorem dJ6_bitCount_0f7a4_4 : decode cJ6_bitCount_0f7a4 4 = .ok (.ldc_w 265, 3) := by decide +kernel
theorem dJ6_bitCount_0f7a4_7 : decode cJ6_bitCount_0f7a4 7 = .ok (.iand, 1) := by decide +kernel
theorem dJ6_bitCount_0f7a4_8 : decode cJ6_bitCount_0f7a4 8 = .ok (.isub, 1) := by decide +kernel
theorem dJ6_bitCount_0f7a4_9 : decode cJ6_bitCount_0f7a4 9 = .ok (.istore_n 0, 1) := by decide +kernel
theorem dJ6_bitCount_0f7a4_10 : decode cJ6_bitCount_0f7a4 10 = .ok (.iload_n 0, 1) := by decide +kernel
theorem dJ6_bitCount_0f7a4_11 : decode cJ6_bitCount_0f7a4 11 = .ok (.ldc_w 266, 3) := by decide +kernel
theorem dJ6_bitCount_0f7a4_14 : decode cJ6_bitCount_0f7a4 14 = .ok (.iand, 1) := by decide +kernel
theorem dJ6_bitCount_0f7a4_15 : decode cJ6_bitCount_0f7a4 15 = .ok (.iload_n 0, 1) := by decide +kernel
theorem dJ6_bitCount_0f7a4_16 : decode cJ6_bitCount_0f7a4 16 = .ok (.iconst 2, 1) := by decide +kernel
theorem dJ6_bitCount_0f7a4_17 : decode cJ6_bitCount_0f7a4 17 = .ok (.iushr, 1) := by decide +kernel
theorem dJ6_bitCount_0f7a4_18 : decode cJ6_bitCount_0f7a4 18 = .ok (.ldc_w 266, 3) := by decide +kernel
theorem dJ6_bitCount_0f7a4_21 : decode cJ6_bitCount_0f7a4 21 = .ok (.iand, 1) := by decide +kernel
theorem dJ6_bitCount_0f7a4_22 : decode cJ6_bitCount_0f7a4 22 = .ok (.iadd, 1) := by decide +kernel
theorem dJ6_bitCount_0f7a4_23 : decode cJ6_bitCount_0f7a4 23 = .ok (.istore_n 0, 1) := by decide +kernel
theorem dJ6_bitCount_0f7a4_24 : decode cJ6_bitCount_0f7a4 24 = .ok (.iload_n 0, 1) := by decide +kernel
theorem dJ6_bitCount_0f7a4_25 : decode cJ6_bitCount_0f7a4 25 = .ok (.iload_n 0, 1) := by decide +kernel
theorem dJ6_bitCount_0f7a4_26 : decode cJ6_bitCount_0f7a4 26 = .ok (.iconst 4, 1) := by decide +kernel
theorem dJ6_bitCount_0f7a4_27 : decode cJ6_bitCount_0f7a4 27 = .ok (.iushr, 1) := by decide +kernel
theorem dJ6_bitCount_0f7a4_28 : decode cJ6_bitCount_0f7a4 28 = .ok (.iadd, 1) := by decide +kernel
theorem dJ6_bitCount_0f7a4_29 : decode cJ6_bitCount_0f7a4 29 = .ok (.ldc_w 267, 3) := by decide +kernel
theorem dJ6_bitCount_0f7a4_32 : decode cJ6_bitCount_0f7a4 32 = .ok (.iand, 1) := by decide +kernel
theorem dJ6_bitCount_0f7a4_33 : decode cJ6_bitCount_0f7a4 33 = .ok (.istore_n 0, 1) := by decide +kernel
theorem dJ6_bitCount_0f7a4_34 : decode cJ6_bitCount_0f7a4 34 = .ok (.iload_n 0, 1) := by decide +kernel
theorem dJ6_bitCount_0f7a4_35 : decode cJ6_bitCount_0f7a4 35 = .ok (.iload_n 0, 1) := by decide +kernel
theorem dJ6_bitCount_0f7a4_36 : decode cJ6_bitCount_0f7a4 36 = .ok (.bipush 8, 2) := by decide +kernel
theorem dJ6_bitCount_0f7a4_38 : decode cJ6_bitCount_0f7a4 38 = .ok (.iushr, 1) := by decide +kernel
theorem dJ6_bitCount_0f7a4_39 : decode cJ6_bitCount_0f7a4 39 = .ok (.iadd, 1) := by decide +kernel
theorem dJ6_bitCount_0f7a4_40 : decode cJ6_bitCount_0f7a4 40 = .ok (.istore_n 0, 1) := by decide +kernel
theorem dJ6_bitCount_0f7a4_41 : decode cJ6_bitCount_0f7a4 41 = .ok (.iload_n 0, 1) := by decide +kernel
theorem dJ6_bitCount_0f7a4_42 : decode cJ6_bitCount_0f7a4 42 = .ok (.iload_n 0, 1) := by decide +kernel
theorem dJ6_bitCount_0f7a4_43 : decode cJ6_bitCount_0f7a4 43 = .ok (.bipush 16, 2) := by decide +kernel
theorem dJ6_bitCount_0f7a4_45 : decode cJ6_bitCount_0f7a4 45 = .ok (.iushr, 1) := by decide +kernel
theorem dJ6_bitCount_0f7a4_46 : decode cJ6_bitCount_0f7a4 46 = .ok (.iadd, 1) := by decide +kernel
theorem dJ6_bitCount_0f7a4_47 : decode cJ6_bitCount_0f7a4 47 = .ok (.istore_n 0, 1) := by decide +kernel
theorem dJ6_bitCount_0f7a4_48 : decode cJ6_bitCount_0f7a4 48 = .ok (.iload_n 0, 1) := by decide +kernel
theorem dJ6_bitCount_0f7a4_49 : decode cJ6_bitCount_0f7a4 49 = .ok (.bipush 63, 2) := by decide +kernel
theorem dJ6_bitCount_0f7a4_51 : decode cJ6_bitCount_0f7a4 51 = .ok (.iand, 1) := by decide +kernel
theorem dJ6_bitCount_0f7a4_52 : decode cJ6_bitCount_0f7a4 52 = .ok (.ireturn, 1) := by decide +kernel
theorem dJ7_fill_d0a16_0 : decode cJ7_fill_d0a16 0 = .ok (.iconst 0, 1) := by decide +kernel
theorem dJ7_fill_d0a16_1 : decode cJ7_fill_d0a16 1 = .ok (.istore_n 3, 1) := by decide +kernel
theorem dJ7_fill_d0a16_2 : decode cJ7_fill_d0a16 2 = .ok (.aload_n 0, 1) := by decide +kernel
theorem dJ7_fill_d0a16_3 : decode cJ7_fill_d0a16 3 = .ok (.arraylength, 1) := by decide +kernel
theorem dJ7_fill_d0a16_4 : decode cJ7_fill_d0a16 4 = .ok (.istore 4, 2) := by decide +kernel
theorem dJ7_fill_d0a16_6 : decode cJ7_fill_d0a16 6 = .ok (.iload_n 3, 1) := by decide +kernel
theorem dJ7_fill_d0a16_7 : decode cJ7_fill_d0a16 7 = .ok (.iload 4, 2) := by decide +kernel
theorem dJ7_fill_d0a16_9 : decode cJ7_fill_d0a16 9 = .ok (.if_icmp .ge 13, 3) := by decide +kernel
theorem dJ7_fill_d0a16_12 : decode cJ7_fill_d0a16 12 = .ok (.aload_n 0, 1) := by decide +kernel
theorem dJ7_fill_d0a16_13 : decode cJ7_fill_d0a16 13 = .ok (.iload_n 3, 1) := by decide +kernel
theorem dJ7_fill_d0a16_14 : decode cJ7_fill_d0a16 14 = .ok (.lload_n 1, 1) := by decide +kernel
theorem dJ7_fill_d0a16_15 : decode cJ7_fill_d0a16 15 = .ok (.lastore, 1) := by decide +kernel
theorem dJ7_fill_d0a16_16 : decode cJ7_fill_d0a16 16 = .ok (.iinc 3 1, 3) := by decide +kernel
theorem dJ7_fill_d0a16_19 : decode cJ7_fill_d0a16 19 = .ok (.goto (-13), 3) := by decide +kernel
theorem dJ7_fill_d0a16_22 : decode cJ7_fill_d0a16 22 = .ok (.return_, 1) := by decide +kernel
theorem dJ7_fill_53178_0 : decode cJ7_fill_53178 0 = .ok (.iconst 0, 1) := by decide +kernel
theorem dJ7_fill_53178_1 : decode cJ7_fill_53178 1 = .ok (.istore_n 2, 1) := by decide +kernel
theorem dJ7_fill_53178_2 : decode cJ7_fill_53178 2 = .ok (.aload_n 0, 1) := by decide +kernel
theorem dJ7_fill_53178_3 : decode cJ7_fill_53178 3 = .ok (.arraylength, 1) := by decide +kernel
theorem dJ7_fill_53178_4 : decode cJ7_fill_53178 4 = .ok (.istore_n 3, 1) := by decide +kernel
theorem dJ7_fill_53178_5 : decode cJ7_fill_53178 5 = .ok (.iload_n 2, 1) := by decide +kernel
theorem dJ7_fill_53178_6 : decode cJ7_fill_53178 6 = .ok (.iload_n 3, 1) := by decide +kernel
theorem dJ7_fill_53178_7 : decode cJ7_fill_53178 7 = .ok (.if_icmp .ge 13, 3) := by decide +kernel
theorem dJ7_fill_53178_10 : decode cJ7_fill_53178 10 = .ok (.aload_n 0, 1) := by decide +kernel
theorem dJ7_fill_53178_11 : decode cJ7_fill_53178 11 = .ok (.iload_n 2, 1) := by decide +kernel
theorem dJ7_fill_53178_12 : decode cJ7_fill_53178 12 = .ok (.iload_n 1, 1) := by decide +kernel
theorem dJ7_fill_53178_13 : decode cJ7_fill_53178 13 = .ok (.iastore, 1) := by decide +kernel
theorem dJ7_fill_53178_14 : decode cJ7_fill_53178 14 = .ok (.iinc 2 1, 3) := by decide +kernel
theorem dJ7_fill_53178_17 : decode cJ7_fill_53178 17 = .ok (.goto (-12), 3) := by decide +kernel
theorem dJ7_fill_53178_20 : decode cJ7_fill_53178 20 = .ok (.return_, 1) := by decide +kernel
