theorem dX8_init_0 : decode cX8_init 0 = .ok (.aload_n 0, 1) := by decide +kernel
theorem dX8_init_1 : decode cX8_init 1 = .ok (.invokespecial 1, 3) := by decide +kernel
theorem dX8_init_4 : decode cX8_init 4 = .ok (.aload_n 0, 1) := by decide +kernel
theorem dX8_init_5 : decode cX8_init 5 = .ok (.new 7, 3) := by decide +kernel
theorem dX8_init_8 : decode cX8_init 8 = .ok (.dup, 1) := by decide +kernel
theorem dX8_init_9 : decode cX8_init 9 = .ok (.invokespecial 9, 3) := by decide +kernel
theorem dX8_init_12 : decode cX8_init 12 = .ok (.putfield 10, 3) := by decide +kernel
theorem dX8_init_15 : decode cX8_init 15 = .ok (.aload_n 0, 1) := by decide +kernel
theorem dX8_init_16 : decode cX8_init 16 = .ok (.new 7, 3) := by decide +kernel
theorem dX8_init_19 : decode cX8_init 19 = .ok (.dup, 1) := by decide +kernel
theorem dX8_init_20 : decode cX8_init 20 = .ok (.invokespecial 9, 3) := by decide +kernel
theorem dX8_init_23 : decode cX8_init 23 = .ok (.putfield 16, 3) := by decide +kernel
theorem dX8_init_26 : decode cX8_init 26 = .ok (.aload_n 0, 1) := by decide +kernel
theorem dX8_init_27 : decode cX8_init 27 = .ok (.new 19, 3) := by decide +kernel
theorem dX8_init_30 : decode cX8_init 30 = .ok (.dup, 1) := by decide +kernel
theorem dX8_init_31 : decode cX8_init 31 = .ok (.invokespecial 21, 3) := by decide +kernel
theorem dX8_init_34 : decode cX8_init 34 = .ok (.putfield 22, 3) := by decide +kernel
theorem dX8_init_37 : decode cX8_init 37 = .ok (.aload_n 0, 1) := by decide +kernel
theorem dX8_init_38 : decode cX8_init 38 = .ok (.new 26, 3) := by decide +kernel
theorem dX8_init_41 : decode cX8_init 41 = .ok (.dup, 1) := by decide +kernel
theorem dX8_init_42 : decode cX8_init 42 = .ok (.invokespecial 28, 3) := by decide +kernel
theorem dX8_init_45 : decode cX8_init 45 = .ok (.putfield 29, 3) := by decide +kernel
theorem dX8_init_48 : decode cX8_init 48 = .ok (.aload_n 0, 1) := by decide +kernel
theorem dX8_init_49 : decode cX8_init 49 = .ok (.new 33, 3) := by decide +kernel
theorem dX8_init_52 : decode cX8_init 52 = .ok (.dup, 1) := by decide +kernel
theorem dX8_init_53 : decode cX8_init 53 = .ok (.invokespecial 35, 3) := by decide +kernel
theorem dX8_init_56 : decode cX8_init 56 = .ok (.putfield 36, 3) := by decide +kernel
theorem dX8_init_59 : decode cX8_init 59 = .ok (.aload_n 0, 1) := by decide +kernel
theorem dX8_init_60 : decode cX8_init 60 = .ok (.new 40, 3) := by decide +kernel
theorem dX8_init_63 : decode cX8_init 63 = .ok (.dup, 1) := by decide +kernel
theorem dX8_init_64 : decode cX8_init 64 = .ok (.invokespecial 42, 3) := by decide +kernel
theorem dX8_init_67 : decode cX8_init 67 = .ok (.putfield 43, 3) := by decide +kernel
theorem dX8_init_70 : decode cX8_init 70 = .ok (.aload_n 0, 1) := by decide +kernel
theorem dX8_init_71 : decode cX8_init 71 = .ok (.new 40, 3) := by decide +kernel
theorem dX8_init_74 : decode cX8_init 74 = .ok (.dup, 1) := by decide +kernel
theorem dX8_init_75 : decode cX8_init 75 = .ok (.invokespecial 42, 3) := by decide +kernel
theorem dX8_init_78 : decode cX8_init 78 = .ok (.putfield 47, 3) := by decide +kernel
theorem dX8_init_81 : decode cX8_init 81 = .ok (.aload_n 0, 1) := by decide +kernel
theorem dX8_init_82 : decode cX8_init 82 = .ok (.new 40, 3) := by decide +kernel
theorem dX8_init_85 : decode cX8_init 85 = .ok (.dup, 1) := by decide +kernel
theorem dX8_init_86 : decode cX8_init 86 = .ok (.invokespecial 42, 3) := by decide +kernel
theorem dX8_init_89 : decode cX8_init 89 = .ok (.putfield 50, 3) := by decide +kernel
theorem dX8_init_92 : decode cX8_init 92 = .ok (.aload_n 0, 1) := by decide +kernel
theorem dX8_init_93 : decode cX8_init 93 = .ok (.new 40, 3) := by decide +kernel
theorem dX8_init_96 : decode cX8_init 96 = .ok (.dup, 1) := by decide +kernel
theorem dX8_init_97 : decode cX8_init 97 = .ok (.invokespecial 42, 3) := by decide +kernel
theorem dX8_init_100 : decode cX8_init 100 = .ok (.putfield 53, 3) := by decide +kernel
theorem dX8_init_103 : decode cX8_init 103 = .ok (.aload_n 0, 1) := by decide +kernel
theorem dX8_init_104 : decode cX8_init 104 = .ok (.new 40, 3) := by decide +kernel
theorem dX8_init_107 : decode cX8_init 107 = .ok (.dup, 1) := by decide +kernel
theorem dX8_init_108 : decode cX8_init 108 = .ok (.invokespecial 42, 3) := by decide +kernel
theorem dX8_init_111 : decode cX8_init 111 = .ok (.putfield 56, 3) := by decide +kernel
theorem dX8_init_114 : decode cX8_init 114 = .ok (.aload_n 0, 1) := by decide +kernel
theorem dX8_init_115 : decode cX8_init 115 = .ok (.sipush 250, 3) := by decide +kernel
theorem dX8_init_118 : decode cX8_init 118 = .ok (.newarray .long, 2) := by decide +kernel
theorem dX8_init_120 : decode cX8_init 120 = .ok (.putfield 59, 3) := by decide +kernel
theorem dX8_init_123 : decode cX8_init 123 = .ok (.aload_n 0, 1) := by decide +kernel
theorem dX8_init_124 : decode cX8_init 124 = .ok (.iconst 0, 1) := by decide +kernel
theorem dX8_init_125 : decode cX8_init 125 = .ok (.putfield 63, 3) := by decide +kernel
theorem dX8_init_128 : decode cX8_init 128 = .ok (.aload_n 0, 1) := by decide +kernel
theorem dX8_init_129 : decode cX8_init 129 = .ok (.iconst 0, 1) := by decide +kernel
theorem dX8_init_130 : decode cX8_init 130 = .ok (.putfield 67, 3) := by decide +kernel
theorem dX8_init_133 : decode cX8_init 133 = .ok (.aload_n 0, 1) := by decide +kernel
theorem dX8_init_134 : decode cX8_init 134 = .ok (.iconst 1, 1) := by decide +kernel
theorem dX8_init_135 : decode cX8_init 135 = .ok (.putfield 71, 3) := by decide +kernel
theorem dX8_init_138 : decode cX8_init 138 = .ok (.return_, 1) := by decide +kernel
theorem dX8_set_0 : decode cX8_set 0 = .ok (.iload_n 1, 1) := by decide +kernel
theorem dX8_set_1 : decode cX8_set 1 = .ok (.iload_n 2, 1) := by decide +kernel
theorem dX8_set_2 : decode cX8_set 2 = .ok (.invokestatic 74, 3) := by decide +kernel
theorem dX8_set_5 : decode cX8_set 5 = .ok (.iload_n 2, 1) := by decide +kernel
theorem dX8_set_6 : decode cX8_set 6 = .ok (.ifCond .eq 18, 3) := by decide +kernel
theorem dX8_set_9 : decode cX8_set 9 = .ok (.aload_n 0, 1) := by decide +kernel
theorem dX8_set_10 : decode cX8_set 10 = .ok (.getfield 10, 3) := by decide +kernel
theorem dX8_set_13 : decode cX8_set 13 = .ok (.iload_n 1, 1) := by decide +kernel
theorem dX8_set_14 : decode cX8_set 14 = .ok (.invokevirtual 78, 3) := by decide +kernel
theorem dX8_set_17 : decode cX8_set 17 = .ok (.ifCond .eq 7, 3) := by decide +kernel
theorem dX8_set_20 : decode cX8_set 20 = .ok (.iconst 1, 1) := by decide +kernel
theorem dX8_set_21 : decode cX8_set 21 = .ok (.goto 4, 3) := by decide +kernel
theorem dX8_set_24 : decode cX8_set 24 = .ok (.iconst 0, 1) := by decide +kernel
theorem dX8_set_25 : decode cX8_set 25 = .ok (.istore 4, 2) := by decide +kernel
theorem dX8_set_27 : decode cX8_set 27 = .ok (.iload 4, 2) := by decide +kernel
theorem dX8_set_29 : decode cX8_set 29 = .ok (.ifCond .ne 12, 3) := by decide +kernel
theorem dX8_set_32 : decode cX8_set 32 = .ok (.iload_n 2, 1) := by decide +kernel
theorem dX8_set_33 : decode cX8_set 33 = .ok (.iload_n 3, 1) := by decide +kernel
theorem dX8_set_34 : decode cX8_set 34 = .ok (.i2l, 1) := by decide +kernel
theorem dX8_set_35 : decode cX8_set 35 = .ok (.invokestatic 82, 3) := by decide +kernel
theorem dX8_set_38 : decode cX8_set 38 = .ok (.ifCond .ne 5, 3) := by decide +kernel
theorem dX8_set_41 : decode cX8_set 41 = .ok (.iconst (-1), 1) := by decide +kernel
theorem dX8_set_42 : decode cX8_set 42 = .ok (.ireturn, 1) := by decide +kernel
theorem dX8_set_43 : decode cX8_set 43 = .ok (.aload_n 0, 1) := by decide +kernel
theorem dX8_set_44 : decode cX8_set 44 = .ok (.getfield 10, 3) := by decide +kernel
theorem dX8_set_47 : decode cX8_set 47 = .ok (.getfield 86, 3) := by decide +kernel
theorem dX8_set_50 : decode cX8_set 50 = .ok (.iload_n 2, 1) := by decide +kernel
theorem dX8_set_51 : decode cX8_set 51 = .ok (.aaload, 1) := by decide +kernel
theorem dX8_set_52 : decode cX8_set 52 = .ok (.iload_n 1, 1) := by decide +kernel
theorem dX8_set_53 : decode cX8_set 53 = .ok (.iload_n 3, 1) := by decide +kernel
theorem dX8_set_54 : decode cX8_set 54 = .ok (.iastore, 1) := by decide +kernel
theorem dX8_set_55 : decode cX8_set 55 = .ok (.iconst 0, 1) := by decide +kernel
theorem dX8_set_56 : decode cX8_set 56 = .ok (.ireturn, 1) := by decide +kernel
theorem dX8_get_0 : decode cX8_get 0 = .ok (.iload_n 1, 1) := by decide +kernel
theorem dX8_get_1 : decode cX8_get 1 = .ok (.iload_n 2, 1) := by decide +kernel
theorem dX8_get_2 : decode cX8_get 2 = .ok (.invokestatic 74, 3) := by decide +kernel
theorem dX8_get_5 : decode cX8_get 5 = .ok (.aload_n 0, 1) := by decide +kernel
theorem dX8_get_6 : decode cX8_get 6 = .ok (.getfield 10, 3) := by decide +kernel
theorem dX8_get_9 : decode cX8_get 9 = .ok (.getfield 86, 3) := by decide +kernel
theorem dX8_get_12 : decode cX8_get 12 = .ok (.iload_n 2, 1) := by decide +kernel
theorem dX8_get_13 : decode cX8_get 13 = .ok (.aaload, 1) := by decide +kernel
theorem dX8_get_14 : decode cX8_get 14 = .ok (.iload_n 1, 1) := by decide +kernel
theorem dX8_get_15 : decode cX8_get 15 = .ok (.iaload, 1) := by decide +kernel
theorem dX8_get_16 : decode cX8_get 16 = .ok (.ireturn, 1) := by decide +kernel
theorem dX8_base_0 : decode cX8_base 0 = .ok (.iload_n 1, 1) := by decide +kernel
theorem dX8_base_1 : decode cX8_base 1 = .ok (.iconst 1, 1) := by decide +kernel
theorem dX8_base_2 : decode cX8_base 2 = .ok (.if_icmp .lt 21, 3) := by decide +kernel
theorem dX8_base_5 : decode cX8_base 5 = .ok (.iload_n 1, 1) := by decide +kernel
theorem dX8_base_6 : decode cX8_base 6 = .ok (.sipush 255, 3) := by decide +kernel
theorem dX8_base_9 : decode cX8_base 9 = .ok (.if_icmp .gt 14, 3) := by decide +kernel
theorem dX8_base_12 : decode cX8_base 12 = .ok (.iload_n 2, 1) := by decide +kernel
theorem dX8_base_13 : decode cX8_base 13 = .ok (.iconst 1, 1) := by decide +kernel
theorem dX8_base_14 : decode cX8_base 14 = .ok (.if_icmp .lt 9, 3) := by decide +kernel
theorem dX8_base_17 : decode cX8_base 17 = .ok (.iload_n 2, 1) := by decide +kernel
theorem dX8_base_18 : decode cX8_base 18 = .ok (.ldc 90, 2) := by decide +kernel
theorem dX8_base_20 : decode cX8_base 20 = .ok (.if_icmp .le 11, 3) := by decide +kernel
theorem dX8_base_23 : decode cX8_base 23 = .ok (.new 91, 3) := by decide +kernel
theorem dX8_base_26 : decode cX8_base 26 = .ok (.dup, 1) := by decide +kernel
theorem dX8_base_27 : decode cX8_base 27 = .ok (.invokespecial 93, 3) := by decide +kernel
theorem dX8_base_30 : decode cX8_base 30 = .ok (.athrow, 1) := by decide +kernel
theorem dX8_base_31 : decode cX8_base 31 = .ok (.aload_n 0, 1) := by decide +kernel
theorem dX8_base_32 : decode cX8_base 32 = .ok (.getfield 10, 3) := by decide +kernel
theorem dX8_base_35 : decode cX8_base 35 = .ok (.iload_n 1, 1) := by decide +kernel
theorem dX8_base_36 : decode cX8_base 36 = .ok (.putfield 94, 3) := by decide +kernel
theorem dX8_base_39 : decode cX8_base 39 = .ok (.aload_n 0, 1) := by decide +kernel
theorem dX8_base_40 : decode cX8_base 40 = .ok (.getfield 10, 3) := by decide +kernel
theorem dX8_base_43 : decode cX8_base 43 = .ok (.invokevirtual 97, 3) := by decide +kernel
theorem dX8_base_46 : decode cX8_base 46 = .ok (.aload_n 0, 1) := by decide +kernel
theorem dX8_base_47 : decode cX8_base 47 = .ok (.getfield 29, 3) := by decide +kernel
theorem dX8_base_50 : decode cX8_base 50 = .ok (.aload_n 0, 1) := by decide +kernel
theorem dX8_base_51 : decode cX8_base 51 = .ok (.getfield 10, 3) := by decide +kernel
theorem dX8_base_54 : decode cX8_base 54 = .ok (.aload_n 0, 1) := by decide +kernel
theorem dX8_base_55 : decode cX8_base 55 = .ok (.getfield 43, 3) := by decide +kernel
theorem dX8_base_58 : decode cX8_base 58 = .ok (.invokevirtual 100, 3) := by decide +kernel
theorem dX8_base_61 : decode cX8_base 61 = .ok (.aload_n 0, 1) := by decide +kernel
theorem dX8_base_62 : decode cX8_base 62 = .ok (.getfield 29, 3) := by decide +kernel
theorem dX8_base_65 : decode cX8_base 65 = .ok (.aload_n 0, 1) := by decide +kernel
theorem dX8_base_66 : decode cX8_base 66 = .ok (.getfield 43, 3) := by decide +kernel
theorem dX8_base_69 : decode cX8_base 69 = .ok (.getfield 104, 3) := by decide +kernel
theorem dX8_base_72 : decode cX8_base 72 = .ok (.iload_n 2, 1) := by decide +kernel
theorem dX8_base_73 : decode cX8_base 73 = .ok (.i2l, 1) := by decide +kernel
theorem dX8_base_74 : decode cX8_base 74 = .ok (.invokevirtual 108, 3) := by decide +kernel
theorem dX8_base_77 : decode cX8_base 77 = .ok (.aload_n 0, 1) := by decide +kernel
theorem dX8_base_78 : decode cX8_base 78 = .ok (.getfield 29, 3) := by decide +kernel
theorem dX8_base_81 : decode cX8_base 81 = .ok (.aload_n 0, 1) := by decide +kernel
theorem dX8_base_82 : decode cX8_base 82 = .ok (.getfield 43, 3) := by decide +kernel
theorem dX8_base_85 : decode cX8_base 85 = .ok (.getfield 112, 3) := by decide +kernel
theorem dX8_base_88 : decode cX8_base 88 = .ok (.aload_n 0, 1) := by decide +kernel
theorem dX8_base_89 : decode cX8_base 89 = .ok (.getfield 43, 3) := by decide +kernel
theorem dX8_base_92 : decode cX8_base 92 = .ok (.getfield 104, 3) := by decide +kernel
theorem dX8_base_95 : decode cX8_base 95 = .ok (.invokevirtual 115, 3) := by decide +kernel
theorem dX8_base_98 : decode cX8_base 98 = .ok (.aload_n 0, 1) := by decide +kernel
theorem dX8_base_99 : decode cX8_base 99 = .ok (.getfield 22, 3) := by decide +kernel
theorem dX8_base_102 : decode cX8_base 102 = .ok (.invokevirtual 119, 3) := by decide +kernel
theorem dX8_base_105 : decode cX8_base 105 = .ok (.aload_n 0, 1) := by decide +kernel
theorem dX8_base_106 : decode cX8_base 106 = .ok (.iconst 0, 1) := by decide +kernel
theorem dX8_base_107 : decode cX8_base 107 = .ok (.putfield 63, 3) := by decide +kernel
theorem dX8_base_110 : decode cX8_base 110 = .ok (.aload_n 0, 1) := by decide +kernel
theorem dX8_base_111 : decode cX8_base 111 = .ok (.iconst 1, 1) := by decide +kernel
theorem dX8_base_112 : decode cX8_base 112 = .ok (.putfield 67, 3) := by decide +kernel
theorem dX8_base_115 : decode cX8_base 115 = .ok (.aload_n 0, 1) := by decide +kernel
theorem dX8_base_116 : decode cX8_base 116 = .ok (.iconst 1, 1) := by decide +kernel
theorem dX8_base_117 : decode cX8_base 117 = .ok (.putfield 71, 3) := by decide +kernel
theorem dX8_base_120 : decode cX8_base 120 = .ok (.return_, 1) := by decide +kernel
theorem dX8_members_0 : decode cX8_members 0 = .ok (.aload_n 0, 1) := by decide +kernel
theorem dX8_members_1 : decode cX8_members 1 = .ok (.getfield 67, 3) := by decide +kernel
theorem dX8_members_4 : decode cX8_members 4 = .ok (.ifCond .eq 13, 3) := by decide +kernel
theorem dX8_members_7 : decode cX8_members 7 = .ok (.aload_n 0, 1) := by decide +kernel
theorem dX8_members_8 : decode cX8_members 8 = .ok (.getfield 10, 3) := by decide +kernel
theorem dX8_members_11 : decode cX8_members 11 = .ok (.getfield 94, 3) := by decide +kernel
theorem dX8_members_14 : decode cX8_members 14 = .ok (.goto 4, 3) := by decide +kernel
theorem dX8_members_17 : decode cX8_members 17 = .ok (.iconst (-1), 1) := by decide +kernel
theorem dX8_members_18 : decode cX8_members 18 = .ok (.ireturn, 1) := by decide +kernel
theorem dX8_event_0 : decode cX8_event 0 = .ok (.iload_n 1, 1) := by decide +kernel
theorem dX8_event_1 : decode cX8_event 1 = .ok (.ifCond .lt 20, 3) := by decide +kernel
theorem dX8_event_4 : decode cX8_event 4 = .ok (.iload_n 1, 1) := by decide +kernel
theorem dX8_event_5 : decode cX8_event 5 = .ok (.bipush 9, 2) := by decide +kernel
theorem dX8_event_7 : decode cX8_event 7 = .ok (.if_icmp .ge 14, 3) := by decide +kernel
theorem dX8_event_10 : decode cX8_event 10 = .ok (.iload_n 2, 1) := by decide +kernel
theorem dX8_event_11 : decode cX8_event 11 = .ok (.invokestatic 124, 3) := by decide +kernel
theorem dX8_event_14 : decode cX8_event 14 = .ok (.ifCond .eq 7, 3) := by decide +kernel
theorem dX8_event_17 : decode cX8_event 17 = .ok (.iconst 1, 1) := by decide +kernel
theorem dX8_event_18 : decode cX8_event 18 = .ok (.goto 4, 3) := by decide +kernel
theorem dX8_event_21 : decode cX8_event 21 = .ok (.iconst 0, 1) := by decide +kernel
theorem dX8_event_22 : decode cX8_event 22 = .ok (.istore 6, 2) := by decide +kernel
theorem dX8_event_24 : decode cX8_event 24 = .ok (.aload_n 0, 1) := by decide +kernel
theorem dX8_event_25 : decode cX8_event 25 = .ok (.getfield 67, 3) := by decide +kernel
theorem dX8_event_28 : decode cX8_event 28 = .ok (.ifCond .eq 18, 3) := by decide +kernel
theorem dX8_event_31 : decode cX8_event 31 = .ok (.iload 6, 2) := by decide +kernel
theorem dX8_event_33 : decode cX8_event 33 = .ok (.ifCond .eq 13, 3) := by decide +kernel
theorem dX8_event_36 : decode cX8_event 36 = .ok (.aload_n 0, 1) := by decide +kernel
theorem dX8_event_37 : decode cX8_event 37 = .ok (.getfield 22, 3) := by decide +kernel
theorem dX8_event_40 : decode cX8_event 40 = .ok (.invokevirtual 127, 3) := by decide +kernel
theorem dX8_event_43 : decode cX8_event 43 = .ok (.ifCond .eq 5, 3) := by decide +kernel
theorem dX8_event_46 : decode cX8_event 46 = .ok (.iconst (-1), 1) := by decide +kernel
theorem dX8_event_47 : decode cX8_event 47 = .ok (.ireturn, 1) := by decide +kernel
theorem dX8_event_48 : decode cX8_event 48 = .ok (.aload_n 0, 1) := by decide +kernel
theorem dX8_event_49 : decode cX8_event 49 = .ok (.getfield 22, 3) := by decide +kernel
theorem dX8_event_52 : decode cX8_event 52 = .ok (.iload_n 1, 1) := by decide +kernel
theorem dX8_event_53 : decode cX8_event 53 = .ok (.iload_n 2, 1) := by decide +kernel
theorem dX8_event_54 : decode cX8_event 54 = .ok (.iload_n 3, 1) := by decide +kernel
theorem dX8_event_55 : decode cX8_event 55 = .ok (.iload 4, 2) := by decide +kernel
theorem dX8_event_57 : decode cX8_event 57 = .ok (.iload 5, 2) := by decide +kernel
theorem dX8_event_59 : decode cX8_event 59 = .ok (.invokevirtual 131, 3) := by decide +kernel
theorem dX8_event_62 : decode cX8_event 62 = .ok (.ireturn, 1) := by decide +kernel
theorem dX8_close_0 : decode cX8_close 0 = .ok (.aload_n 0, 1) := by decide +kernel
theorem dX8_close_1 : decode cX8_close 1 = .ok (.getfield 67, 3) := by decide +kernel
theorem dX8_close_4 : decode cX8_close 4 = .ok (.ifCond .eq 13, 3) := by decide +kernel
theorem dX8_close_7 : decode cX8_close 7 = .ok (.aload_n 0, 1) := by decide +kernel
theorem dX8_close_8 : decode cX8_close 8 = .ok (.getfield 63, 3) := by decide +kernel
theorem dX8_close_11 : decode cX8_close 11 = .ok (.sipush 250, 3) := by decide +kernel
theorem dX8_close_14 : decode cX8_close 14 = .ok (.if_icmp .lt 11, 3) := by decide +kernel
theorem dX8_close_17 : decode cX8_close 17 = .ok (.new 135, 3) := by decide +kernel
theorem dX8_close_20 : decode cX8_close 20 = .ok (.dup, 1) := by decide +kernel
theorem dX8_close_21 : decode cX8_close 21 = .ok (.invokespecial 137, 3) := by decide +kernel
theorem dX8_close_24 : decode cX8_close 24 = .ok (.athrow, 1) := by decide +kernel
theorem dX8_close_25 : decode cX8_close 25 = .ok (.aload_n 0, 1) := by decide +kernel
theorem dX8_close_26 : decode cX8_close 26 = .ok (.getfield 22, 3) := by decide +kernel
theorem dX8_close_29 : decode cX8_close 29 = .ok (.invokevirtual 138, 3) := by decide +kernel
theorem dX8_close_32 : decode cX8_close 32 = .ok (.iconst 0, 1) := by decide +kernel
theorem dX8_close_33 : decode cX8_close 33 = .ok (.istore_n 1, 1) := by decide +kernel
theorem dX8_close_34 : decode cX8_close 34 = .ok (.iconst 0, 1) := by decide +kernel
theorem dX8_close_35 : decode cX8_close 35 = .ok (.istore_n 2, 1) := by decide +kernel
theorem dX8_close_36 : decode cX8_close 36 = .ok (.iload_n 2, 1) := by decide +kernel
theorem dX8_close_37 : decode cX8_close 37 = .ok (.aload_n 0, 1) := by decide +kernel
theorem dX8_close_38 : decode cX8_close 38 = .ok (.getfield 22, 3) := by decide +kernel
theorem dX8_close_41 : decode cX8_close 41 = .ok (.getfield 141, 3) := by decide +kernel
theorem dX8_close_44 : decode cX8_close 44 = .ok (.if_icmp .ge 46, 3) := by decide +kernel
theorem dX8_close_47 : decode cX8_close 47 = .ok (.aload_n 0, 1) := by decide +kernel
theorem dX8_close_48 : decode cX8_close 48 = .ok (.getfield 22, 3) := by decide +kernel
theorem dX8_close_51 : decode cX8_close 51 = .ok (.getfield 144, 3) := by decide +kernel
theorem dX8_close_54 : decode cX8_close 54 = .ok (.iload_n 2, 1) := by decide +kernel
theorem dX8_close_55 : decode cX8_close 55 = .ok (.aload_n 0, 1) := by decide +kernel
theorem dX8_close_56 : decode cX8_close 56 = .ok (.aload_n 0, 1) := by decide +kernel
theorem dX8_close_57 : decode cX8_close 57 = .ok (.getfield 22, 3) := by decide +kernel
theorem dX8_close_60 : decode cX8_close 60 = .ok (.getfield 148, 3) := by decide +kernel
theorem dX8_close_63 : decode cX8_close 63 = .ok (.iload_n 2, 1) := by decide +kernel
theorem dX8_close_64 : decode cX8_close 64 = .ok (.iaload, 1) := by decide +kernel
theorem dX8_close_65 : decode cX8_close 65 = .ok (.invokevirtual 151, 3) := by decide +kernel
theorem dX8_close_68 : decode cX8_close 68 = .ok (.iastore, 1) := by decide +kernel
theorem dX8_close_69 : decode cX8_close 69 = .ok (.aload_n 0, 1) := by decide +kernel
theorem dX8_close_70 : decode cX8_close 70 = .ok (.getfield 22, 3) := by decide +kernel
theorem dX8_close_73 : decode cX8_close 73 = .ok (.getfield 144, 3) := by decide +kernel
theorem dX8_close_76 : decode cX8_close 76 = .ok (.iload_n 2, 1) := by decide +kernel
theorem dX8_close_77 : decode cX8_close 77 = .ok (.iaload, 1) := by decide +kernel
theorem dX8_close_78 : decode cX8_close 78 = .ok (.ifCond .ne 6, 3) := by decide +kernel
theorem dX8_close_81 : decode cX8_close 81 = .ok (.iinc 1 1, 3) := by decide +kernel
theorem dX8_close_84 : decode cX8_close 84 = .ok (.iinc 2 1, 3) := by decide +kernel
theorem dX8_close_87 : decode cX8_close 87 = .ok (.goto (-51), 3) := by decide +kernel
theorem dX8_close_90 : decode cX8_close 90 = .ok (.aload_n 0, 1) := by decide +kernel
theorem dX8_close_91 : decode cX8_close 91 = .ok (.getfield 59, 3) := by decide +kernel
theorem dX8_close_94 : decode cX8_close 94 = .ok (.aload_n 0, 1) := by decide +kernel
theorem dX8_close_95 : decode cX8_close 95 = .ok (.getfield 63, 3) := by decide +kernel
theorem dX8_close_98 : decode cX8_close 98 = .ok (.aload_n 0, 1) := by decide +kernel
theorem dX8_close_99 : decode cX8_close 99 = .ok (.invokevirtual 155, 3) := by decide +kernel
theorem dX8_close_102 : decode cX8_close 102 = .ok (.lastore, 1) := by decide +kernel
theorem dX8_close_103 : decode cX8_close 103 = .ok (.aload_n 0, 1) := by decide +kernel
theorem dX8_close_104 : decode cX8_close 104 = .ok (.dup, 1) := by decide +kernel
theorem dX8_close_105 : decode cX8_close 105 = .ok (.getfield 63, 3) := by decide +kernel
theorem dX8_close_108 : decode cX8_close 108 = .ok (.iconst 1, 1) := by decide +kernel
theorem dX8_close_109 : decode cX8_close 109 = .ok (.iadd, 1) := by decide +kernel
theorem dX8_close_110 : decode cX8_close 110 = .ok (.putfield 63, 3) := by decide +kernel
theorem dX8_close_113 : decode cX8_close 113 = .ok (.iload_n 1, 1) := by decide +kernel
theorem dX8_close_114 : decode cX8_close 114 = .ok (.ireturn, 1) := by decide +kernel
theorem dX8_outcome_0 : decode cX8_outcome 0 = .ok (.aload_n 0, 1) := by decide +kernel
theorem dX8_outcome_1 : decode cX8_outcome 1 = .ok (.getfield 22, 3) := by decide +kernel
theorem dX8_outcome_4 : decode cX8_outcome 4 = .ok (.iload_n 1, 1) := by decide +kernel
theorem dX8_outcome_5 : decode cX8_outcome 5 = .ok (.invokevirtual 159, 3) := by decide +kernel
theorem dX8_outcome_8 : decode cX8_outcome 8 = .ok (.ifCond .eq 15, 3) := by decide +kernel
theorem dX8_outcome_11 : decode cX8_outcome 11 = .ok (.aload_n 0, 1) := by decide +kernel
theorem dX8_outcome_12 : decode cX8_outcome 12 = .ok (.getfield 22, 3) := by decide +kernel
theorem dX8_outcome_15 : decode cX8_outcome 15 = .ok (.getfield 144, 3) := by decide +kernel
theorem dX8_outcome_18 : decode cX8_outcome 18 = .ok (.iload_n 1, 1) := by decide +kernel
theorem dX8_outcome_19 : decode cX8_outcome 19 = .ok (.iaload, 1) := by decide +kernel
theorem dX8_outcome_20 : decode cX8_outcome 20 = .ok (.goto 4, 3) := by decide +kernel
theorem dX8_outcome_23 : decode cX8_outcome 23 = .ok (.iconst (-1), 1) := by decide +kernel
theorem dX8_outcome_24 : decode cX8_outcome 24 = .ok (.ireturn, 1) := by decide +kernel
theorem dX8_noted_0 : decode cX8_noted 0 = .ok (.aload_n 0, 1) := by decide +kernel
theorem dX8_noted_1 : decode cX8_noted 1 = .ok (.getfield 22, 3) := by decide +kernel
theorem dX8_noted_4 : decode cX8_noted 4 = .ok (.iload_n 1, 1) := by decide +kernel
theorem dX8_noted_5 : decode cX8_noted 5 = .ok (.invokevirtual 159, 3) := by decide +kernel
theorem dX8_noted_8 : decode cX8_noted 8 = .ok (.ifCond .eq 15, 3) := by decide +kernel
theorem dX8_noted_11 : decode cX8_noted 11 = .ok (.aload_n 0, 1) := by decide +kernel
theorem dX8_noted_12 : decode cX8_noted 12 = .ok (.getfield 22, 3) := by decide +kernel
theorem dX8_noted_15 : decode cX8_noted 15 = .ok (.getfield 148, 3) := by decide +kernel
theorem dX8_noted_18 : decode cX8_noted 18 = .ok (.iload_n 1, 1) := by decide +kernel
theorem dX8_noted_19 : decode cX8_noted 19 = .ok (.iaload, 1) := by decide +kernel
theorem dX8_noted_20 : decode cX8_noted 20 = .ok (.goto 4, 3) := by decide +kernel
theorem dX8_noted_23 : decode cX8_noted 23 = .ok (.iconst (-1), 1) := by decide +kernel
theorem dX8_noted_24 : decode cX8_noted 24 = .ok (.ireturn, 1) := by decide +kernel
theorem dX8_days_0 : decode cX8_days 0 = .ok (.aload_n 0, 1) := by decide +kernel
theorem dX8_days_1 : decode cX8_days 1 = .ok (.getfield 67, 3) := by decide +kernel
theorem dX8_days_4 : decode cX8_days 4 = .ok (.ifCond .eq 10, 3) := by decide +kernel
theorem dX8_days_7 : decode cX8_days 7 = .ok (.aload_n 0, 1) := by decide +kernel
theorem dX8_days_8 : decode cX8_days 8 = .ok (.getfield 63, 3) := by decide +kernel
theorem dX8_days_11 : decode cX8_days 11 = .ok (.goto 4, 3) := by decide +kernel
theorem dX8_days_14 : decode cX8_days 14 = .ok (.iconst (-1), 1) := by decide +kernel
theorem dX8_days_15 : decode cX8_days 15 = .ok (.ireturn, 1) := by decide +kernel
theorem dX8_published_0 : decode cX8_published 0 = .ok (.iload_n 1, 1) := by decide +kernel
theorem dX8_published_1 : decode cX8_published 1 = .ok (.ifCond .lt 20, 3) := by decide +kernel
theorem dX8_published_4 : decode cX8_published 4 = .ok (.iload_n 1, 1) := by decide +kernel
theorem dX8_published_5 : decode cX8_published 5 = .ok (.aload_n 0, 1) := by decide +kernel
theorem dX8_published_6 : decode cX8_published 6 = .ok (.getfield 63, 3) := by decide +kernel
theorem dX8_published_9 : decode cX8_published 9 = .ok (.if_icmp .ge 12, 3) := by decide +kernel
theorem dX8_published_12 : decode cX8_published 12 = .ok (.aload_n 0, 1) := by decide +kernel
theorem dX8_published_13 : decode cX8_published 13 = .ok (.getfield 59, 3) := by decide +kernel
theorem dX8_published_16 : decode cX8_published 16 = .ok (.iload_n 1, 1) := by decide +kernel
theorem dX8_published_17 : decode cX8_published 17 = .ok (.laload, 1) := by decide +kernel
theorem dX8_published_18 : decode cX8_published 18 = .ok (.goto 6, 3) := by decide +kernel
theorem dX8_published_21 : decode cX8_published 21 = .ok (.ldc2_w 162, 3) := by decide +kernel
theorem dX8_published_24 : decode cX8_published 24 = .ok (.lreturn, 1) := by decide +kernel
theorem dX8_level_0 : decode cX8_level 0 = .ok (.aload_n 0, 1) := by decide +kernel
theorem dX8_level_1 : decode cX8_level 1 = .ok (.getfield 67, 3) := by decide +kernel
theorem dX8_level_4 : decode cX8_level 4 = .ok (.ifCond .eq 10, 3) := by decide +kernel
theorem dX8_level_7 : decode cX8_level 7 = .ok (.aload_n 0, 1) := by decide +kernel
theorem dX8_level_8 : decode cX8_level 8 = .ok (.invokevirtual 155, 3) := by decide +kernel
theorem dX8_level_11 : decode cX8_level 11 = .ok (.goto 6, 3) := by decide +kernel
theorem dX8_level_14 : decode cX8_level 14 = .ok (.ldc2_w 162, 3) := by decide +kernel
theorem dX8_level_17 : decode cX8_level 17 = .ok (.lreturn, 1) := by decide +kernel
theorem dX8_weight_0 : decode cX8_weight 0 = .ok (.iload_n 1, 1) := by decide +kernel
theorem dX8_weight_1 : decode cX8_weight 1 = .ok (.invokestatic 124, 3) := by decide +kernel
theorem dX8_weight_4 : decode cX8_weight 4 = .ok (.ifCond .eq 14, 3) := by decide +kernel
theorem dX8_weight_7 : decode cX8_weight 7 = .ok (.aload_n 0, 1) := by decide +kernel
theorem dX8_weight_8 : decode cX8_weight 8 = .ok (.getfield 10, 3) := by decide +kernel
theorem dX8_weight_11 : decode cX8_weight 11 = .ok (.iload_n 1, 1) := by decide +kernel
theorem dX8_weight_12 : decode cX8_weight 12 = .ok (.invokevirtual 78, 3) := by decide +kernel
theorem dX8_weight_15 : decode cX8_weight 15 = .ok (.ifCond .ne 5, 3) := by decide +kernel
theorem dX8_weight_18 : decode cX8_weight 18 = .ok (.iconst (-1), 1) := by decide +kernel
theorem dX8_weight_19 : decode cX8_weight 19 = .ok (.ireturn, 1) := by decide +kernel
theorem dX8_weight_20 : decode cX8_weight 20 = .ok (.aload_n 0, 1) := by decide +kernel
theorem dX8_weight_21 : decode cX8_weight 21 = .ok (.getfield 29, 3) := by decide +kernel
theorem dX8_weight_24 : decode cX8_weight 24 = .ok (.aload_n 0, 1) := by decide +kernel
theorem dX8_weight_25 : decode cX8_weight 25 = .ok (.getfield 10, 3) := by decide +kernel
theorem dX8_weight_28 : decode cX8_weight 28 = .ok (.aload_n 0, 1) := by decide +kernel
theorem dX8_weight_29 : decode cX8_weight 29 = .ok (.getfield 50, 3) := by decide +kernel
theorem dX8_weight_32 : decode cX8_weight 32 = .ok (.invokevirtual 100, 3) := by decide +kernel
theorem dX8_weight_35 : decode cX8_weight 35 = .ok (.aload_n 0, 1) := by decide +kernel
theorem dX8_weight_36 : decode cX8_weight 36 = .ok (.getfield 29, 3) := by decide +kernel
theorem dX8_weight_39 : decode cX8_weight 39 = .ok (.aload_n 0, 1) := by decide +kernel
theorem dX8_weight_40 : decode cX8_weight 40 = .ok (.getfield 10, 3) := by decide +kernel
theorem dX8_weight_43 : decode cX8_weight 43 = .ok (.iload_n 1, 1) := by decide +kernel
theorem dX8_weight_44 : decode cX8_weight 44 = .ok (.ldc 164, 2) := by decide +kernel
theorem dX8_weight_46 : decode cX8_weight 46 = .ok (.aload_n 0, 1) := by decide +kernel
theorem dX8_weight_47 : decode cX8_weight 47 = .ok (.getfield 50, 3) := by decide +kernel
theorem dX8_weight_50 : decode cX8_weight 50 = .ok (.iconst 1, 1) := by decide +kernel
theorem dX8_weight_51 : decode cX8_weight 51 = .ok (.invokevirtual 165, 3) := by decide +kernel
theorem dX8_weight_54 : decode cX8_weight 54 = .ok (.aload_n 0, 1) := by decide +kernel
theorem dX8_weight_55 : decode cX8_weight 55 = .ok (.getfield 29, 3) := by decide +kernel
theorem dX8_weight_58 : decode cX8_weight 58 = .ok (.aload_n 0, 1) := by decide +kernel
theorem dX8_weight_59 : decode cX8_weight 59 = .ok (.getfield 29, 3) := by decide +kernel
theorem dX8_weight_62 : decode cX8_weight 62 = .ok (.getfield 169, 3) := by decide +kernel
theorem dX8_weight_65 : decode cX8_weight 65 = .ok (.aload_n 0, 1) := by decide +kernel
theorem dX8_weight_66 : decode cX8_weight 66 = .ok (.getfield 29, 3) := by decide +kernel
theorem dX8_weight_69 : decode cX8_weight 69 = .ok (.getfield 172, 3) := by decide +kernel
theorem dX8_weight_72 : decode cX8_weight 72 = .ok (.invokevirtual 175, 3) := by decide +kernel
theorem dX8_weight_75 : decode cX8_weight 75 = .ok (.aload_n 0, 1) := by decide +kernel
theorem dX8_weight_76 : decode cX8_weight 76 = .ok (.getfield 29, 3) := by decide +kernel
theorem dX8_weight_79 : decode cX8_weight 79 = .ok (.getfield 178, 3) := by decide +kernel
theorem dX8_weight_82 : decode cX8_weight 82 = .ok (.invokevirtual 181, 3) := by decide +kernel
theorem dX8_weight_85 : decode cX8_weight 85 = .ok (.l2i, 1) := by decide +kernel
theorem dX8_weight_86 : decode cX8_weight 86 = .ok (.ireturn, 1) := by decide +kernel
theorem dX8_print_0 : decode cX8_print 0 = .ok (.iload_n 1, 1) := by decide +kernel
theorem dX8_print_1 : decode cX8_print 1 = .ok (.ifCond .eq 20, 3) := by decide +kernel
theorem dX8_print_4 : decode cX8_print 4 = .ok (.iload_n 1, 1) := by decide +kernel
theorem dX8_print_5 : decode cX8_print 5 = .ok (.iconst 1, 1) := by decide +kernel
theorem dX8_print_6 : decode cX8_print 6 = .ok (.if_icmp .eq 15, 3) := by decide +kernel
theorem dX8_print_9 : decode cX8_print 9 = .ok (.iload_n 1, 1) := by decide +kernel
theorem dX8_print_10 : decode cX8_print 10 = .ok (.iconst 2, 1) := by decide +kernel
theorem dX8_print_11 : decode cX8_print 11 = .ok (.if_icmp .ne 14, 3) := by decide +kernel
theorem dX8_print_14 : decode cX8_print 14 = .ok (.iload_n 2, 1) := by decide +kernel
theorem dX8_print_15 : decode cX8_print 15 = .ok (.invokestatic 124, 3) := by decide +kernel
theorem dX8_print_18 : decode cX8_print 18 = .ok (.ifCond .eq 7, 3) := by decide +kernel
theorem dX8_print_21 : decode cX8_print 21 = .ok (.iconst 1, 1) := by decide +kernel
theorem dX8_print_22 : decode cX8_print 22 = .ok (.goto 4, 3) := by decide +kernel
theorem dX8_print_25 : decode cX8_print 25 = .ok (.iconst 0, 1) := by decide +kernel
theorem dX8_print_26 : decode cX8_print 26 = .ok (.istore_n 3, 1) := by decide +kernel
theorem dX8_print_27 : decode cX8_print 27 = .ok (.aload_n 0, 1) := by decide +kernel
theorem dX8_print_28 : decode cX8_print 28 = .ok (.getfield 67, 3) := by decide +kernel
theorem dX8_print_31 : decode cX8_print 31 = .ok (.ifCond .eq 7, 3) := by decide +kernel
theorem dX8_print_34 : decode cX8_print 34 = .ok (.iload_n 3, 1) := by decide +kernel
theorem dX8_print_35 : decode cX8_print 35 = .ok (.ifCond .ne 5, 3) := by decide +kernel
theorem dX8_print_38 : decode cX8_print 38 = .ok (.iconst (-1), 1) := by decide +kernel
theorem dX8_print_39 : decode cX8_print 39 = .ok (.ireturn, 1) := by decide +kernel
theorem dX8_print_40 : decode cX8_print 40 = .ok (.iload_n 1, 1) := by decide +kernel
theorem dX8_print_41 : decode cX8_print 41 = .ok (.ifCond .ne 31, 3) := by decide +kernel
theorem dX8_print_44 : decode cX8_print 44 = .ok (.aload_n 0, 1) := by decide +kernel
theorem dX8_print_45 : decode cX8_print 45 = .ok (.invokevirtual 186, 3) := by decide +kernel
theorem dX8_print_48 : decode cX8_print 48 = .ok (.aload_n 0, 1) := by decide +kernel
theorem dX8_print_49 : decode cX8_print 49 = .ok (.getfield 29, 3) := by decide +kernel
theorem dX8_print_52 : decode cX8_print 52 = .ok (.aload_n 0, 1) := by decide +kernel
theorem dX8_print_53 : decode cX8_print 53 = .ok (.getfield 56, 3) := by decide +kernel
theorem dX8_print_56 : decode cX8_print 56 = .ok (.getfield 112, 3) := by decide +kernel
theorem dX8_print_59 : decode cX8_print 59 = .ok (.aload_n 0, 1) := by decide +kernel
theorem dX8_print_60 : decode cX8_print 60 = .ok (.getfield 56, 3) := by decide +kernel
theorem dX8_print_63 : decode cX8_print 63 = .ok (.getfield 104, 3) := by decide +kernel
theorem dX8_print_66 : decode cX8_print 66 = .ok (.invokevirtual 115, 3) := by decide +kernel
theorem dX8_print_69 : decode cX8_print 69 = .ok (.goto 47, 3) := by decide +kernel
theorem dX8_print_72 : decode cX8_print 72 = .ok (.iload_n 1, 1) := by decide +kernel
theorem dX8_print_73 : decode cX8_print 73 = .ok (.iconst 1, 1) := by decide +kernel
theorem dX8_print_74 : decode cX8_print 74 = .ok (.if_icmp .ne 17, 3) := by decide +kernel
theorem dX8_print_77 : decode cX8_print 77 = .ok (.aload_n 0, 1) := by decide +kernel
theorem dX8_print_78 : decode cX8_print 78 = .ok (.getfield 56, 3) := by decide +kernel
theorem dX8_print_81 : decode cX8_print 81 = .ok (.aload_n 0, 1) := by decide +kernel
theorem dX8_print_82 : decode cX8_print 82 = .ok (.getfield 43, 3) := by decide +kernel
theorem dX8_print_85 : decode cX8_print 85 = .ok (.invokevirtual 189, 3) := by decide +kernel
theorem dX8_print_88 : decode cX8_print 88 = .ok (.goto 28, 3) := by decide +kernel
theorem dX8_print_91 : decode cX8_print 91 = .ok (.aload_n 0, 1) := by decide +kernel
theorem dX8_print_92 : decode cX8_print 92 = .ok (.getfield 56, 3) := by decide +kernel
theorem dX8_print_95 : decode cX8_print 95 = .ok (.aload_n 0, 1) := by decide +kernel
theorem dX8_print_96 : decode cX8_print 96 = .ok (.getfield 10, 3) := by decide +kernel
theorem dX8_print_99 : decode cX8_print 99 = .ok (.getfield 193, 3) := by decide +kernel
theorem dX8_print_102 : decode cX8_print 102 = .ok (.iload_n 2, 1) := by decide +kernel
theorem dX8_print_103 : decode cX8_print 103 = .ok (.laload, 1) := by decide +kernel
theorem dX8_print_104 : decode cX8_print 104 = .ok (.aload_n 0, 1) := by decide +kernel
theorem dX8_print_105 : decode cX8_print 105 = .ok (.getfield 10, 3) := by decide +kernel
theorem dX8_print_108 : decode cX8_print 108 = .ok (.getfield 196, 3) := by decide +kernel
theorem dX8_print_111 : decode cX8_print 111 = .ok (.iload_n 2, 1) := by decide +kernel
theorem dX8_print_112 : decode cX8_print 112 = .ok (.laload, 1) := by decide +kernel
theorem dX8_print_113 : decode cX8_print 113 = .ok (.invokevirtual 199, 3) := by decide +kernel
theorem dX8_print_116 : decode cX8_print 116 = .ok (.aload_n 0, 1) := by decide +kernel
theorem dX8_print_117 : decode cX8_print 117 = .ok (.getfield 36, 3) := by decide +kernel
theorem dX8_print_120 : decode cX8_print 120 = .ok (.aload_n 0, 1) := by decide +kernel
theorem dX8_print_121 : decode cX8_print 121 = .ok (.getfield 56, 3) := by decide +kernel
theorem dX8_print_124 : decode cX8_print 124 = .ok (.invokevirtual 203, 3) := by decide +kernel
theorem dX8_print_127 : decode cX8_print 127 = .ok (.aload_n 0, 1) := by decide +kernel
theorem dX8_print_128 : decode cX8_print 128 = .ok (.getfield 36, 3) := by decide +kernel
theorem dX8_print_131 : decode cX8_print 131 = .ok (.getfield 206, 3) := by decide +kernel
theorem dX8_print_134 : decode cX8_print 134 = .ok (.ireturn, 1) := by decide +kernel
theorem dX8_character_0 : decode cX8_character 0 = .ok (.iload_n 1, 1) := by decide +kernel
theorem dX8_character_1 : decode cX8_character 1 = .ok (.ifCond .lt 26, 3) := by decide +kernel
theorem dX8_character_4 : decode cX8_character 4 = .ok (.iload_n 1, 1) := by decide +kernel
theorem dX8_character_5 : decode cX8_character 5 = .ok (.aload_n 0, 1) := by decide +kernel
theorem dX8_character_6 : decode cX8_character 6 = .ok (.getfield 36, 3) := by decide +kernel
theorem dX8_character_9 : decode cX8_character 9 = .ok (.getfield 206, 3) := by decide +kernel
theorem dX8_character_12 : decode cX8_character 12 = .ok (.if_icmp .ge 15, 3) := by decide +kernel
theorem dX8_character_15 : decode cX8_character 15 = .ok (.aload_n 0, 1) := by decide +kernel
theorem dX8_character_16 : decode cX8_character 16 = .ok (.getfield 36, 3) := by decide +kernel
theorem dX8_character_19 : decode cX8_character 19 = .ok (.getfield 209, 3) := by decide +kernel
theorem dX8_character_22 : decode cX8_character 22 = .ok (.iload_n 1, 1) := by decide +kernel
theorem dX8_character_23 : decode cX8_character 23 = .ok (.caload, 1) := by decide +kernel
theorem dX8_character_24 : decode cX8_character 24 = .ok (.goto 4, 3) := by decide +kernel
theorem dX8_character_27 : decode cX8_character 27 = .ok (.iconst (-1), 1) := by decide +kernel
theorem dX8_character_28 : decode cX8_character 28 = .ok (.ireturn, 1) := by decide +kernel
theorem dX8_places_0 : decode cX8_places 0 = .ok (.aload_n 0, 1) := by decide +kernel
theorem dX8_places_1 : decode cX8_places 1 = .ok (.getfield 67, 3) := by decide +kernel
theorem dX8_places_4 : decode cX8_places 4 = .ok (.ifCond .eq 12, 3) := by decide +kernel
theorem dX8_places_7 : decode cX8_places 7 = .ok (.iload_n 1, 1) := by decide +kernel
theorem dX8_places_8 : decode cX8_places 8 = .ok (.ifCond .eq 10, 3) := by decide +kernel
theorem dX8_places_11 : decode cX8_places 11 = .ok (.iload_n 1, 1) := by decide +kernel
theorem dX8_places_12 : decode cX8_places 12 = .ok (.iconst 1, 1) := by decide +kernel
theorem dX8_places_13 : decode cX8_places 13 = .ok (.if_icmp .eq 5, 3) := by decide +kernel
theorem dX8_places_16 : decode cX8_places 16 = .ok (.iconst (-1), 1) := by decide +kernel
theorem dX8_places_17 : decode cX8_places 17 = .ok (.ireturn, 1) := by decide +kernel
theorem dX8_places_18 : decode cX8_places 18 = .ok (.iload_n 1, 1) := by decide +kernel
theorem dX8_places_19 : decode cX8_places 19 = .ok (.ifCond .ne 16, 3) := by decide +kernel
theorem dX8_places_22 : decode cX8_places 22 = .ok (.aload_n 0, 1) := by decide +kernel
theorem dX8_places_23 : decode cX8_places 23 = .ok (.getfield 43, 3) := by decide +kernel
theorem dX8_places_26 : decode cX8_places 26 = .ok (.getfield 112, 3) := by decide +kernel
theorem dX8_places_29 : decode cX8_places 29 = .ok (.invokevirtual 213, 3) := by decide +kernel
theorem dX8_places_32 : decode cX8_places 32 = .ok (.goto 13, 3) := by decide +kernel
theorem dX8_places_35 : decode cX8_places 35 = .ok (.aload_n 0, 1) := by decide +kernel
theorem dX8_places_36 : decode cX8_places 36 = .ok (.getfield 43, 3) := by decide +kernel
theorem dX8_places_39 : decode cX8_places 39 = .ok (.getfield 104, 3) := by decide +kernel
theorem dX8_places_42 : decode cX8_places 42 = .ok (.invokevirtual 213, 3) := by decide +kernel
theorem dX8_places_45 : decode cX8_places 45 = .ok (.ireturn, 1) := by decide +kernel
theorem dX8_check_0 : decode cX8_check 0 = .ok (.aload_n 0, 1) := by decide +kernel
theorem dX8_check_1 : decode cX8_check 1 = .ok (.getfield 67, 3) := by decide +kernel
theorem dX8_check_4 : decode cX8_check 4 = .ok (.ifCond .ne 5, 3) := by decide +kernel
theorem dX8_check_7 : decode cX8_check 7 = .ok (.iconst (-1), 1) := by decide +kernel
theorem dX8_check_8 : decode cX8_check 8 = .ok (.ireturn, 1) := by decide +kernel
theorem dX8_check_9 : decode cX8_check 9 = .ok (.aload_n 0, 1) := by decide +kernel
theorem dX8_check_10 : decode cX8_check 10 = .ok (.getfield 71, 3) := by decide +kernel
theorem dX8_check_13 : decode cX8_check 13 = .ok (.ifCond .eq 7, 3) := by decide +kernel
theorem dX8_check_16 : decode cX8_check 16 = .ok (.iconst 1, 1) := by decide +kernel
theorem dX8_check_17 : decode cX8_check 17 = .ok (.goto 4, 3) := by decide +kernel
theorem dX8_check_20 : decode cX8_check 20 = .ok (.iconst 0, 1) := by decide +kernel
theorem dX8_check_21 : decode cX8_check 21 = .ok (.ireturn, 1) := by decide +kernel
theorem dX8_refuseUnknown_0 : decode cX8_refuseUnknown 0 = .ok (.iload_n 0, 1) := by decide +kernel
theorem dX8_refuseUnknown_1 : decode cX8_refuseUnknown 1 = .ok (.invokestatic 124, 3) := by decide +kernel
theorem dX8_refuseUnknown_4 : decode cX8_refuseUnknown 4 = .ok (.ifCond .ne 11, 3) := by decide +kernel
theorem dX8_refuseUnknown_7 : decode cX8_refuseUnknown 7 = .ok (.new 217, 3) := by decide +kernel
theorem dX8_refuseUnknown_10 : decode cX8_refuseUnknown 10 = .ok (.dup, 1) := by decide +kernel
theorem dX8_refuseUnknown_11 : decode cX8_refuseUnknown 11 = .ok (.invokespecial 219, 3) := by decide +kernel
theorem dX8_refuseUnknown_14 : decode cX8_refuseUnknown 14 = .ok (.athrow, 1) := by decide +kernel
theorem dX8_refuseUnknown_15 : decode cX8_refuseUnknown 15 = .ok (.iload_n 1, 1) := by decide +kernel
theorem dX8_refuseUnknown_16 : decode cX8_refuseUnknown 16 = .ok (.ifCond .lt 8, 3) := by decide +kernel
theorem dX8_refuseUnknown_19 : decode cX8_refuseUnknown 19 = .ok (.iload_n 1, 1) := by decide +kernel
theorem dX8_refuseUnknown_20 : decode cX8_refuseUnknown 20 = .ok (.iconst 3, 1) := by decide +kernel
theorem dX8_refuseUnknown_21 : decode cX8_refuseUnknown 21 = .ok (.if_icmp .lt 11, 3) := by decide +kernel
theorem dX8_refuseUnknown_24 : decode cX8_refuseUnknown 24 = .ok (.new 91, 3) := by decide +kernel
theorem dX8_refuseUnknown_27 : decode cX8_refuseUnknown 27 = .ok (.dup, 1) := by decide +kernel
theorem dX8_refuseUnknown_28 : decode cX8_refuseUnknown 28 = .ok (.invokespecial 93, 3) := by decide +kernel
theorem dX8_refuseUnknown_31 : decode cX8_refuseUnknown 31 = .ok (.athrow, 1) := by decide +kernel
theorem dX8_refuseUnknown_32 : decode cX8_refuseUnknown 32 = .ok (.return_, 1) := by decide +kernel
theorem dX8_perform_0 : decode cX8_perform 0 = .ok (.aload_n 0, 1) := by decide +kernel
theorem dX8_perform_1 : decode cX8_perform 1 = .ok (.getfield 22, 3) := by decide +kernel
theorem dX8_perform_4 : decode cX8_perform 4 = .ok (.getfield 220, 3) := by decide +kernel
theorem dX8_perform_7 : decode cX8_perform 7 = .ok (.iload_n 1, 1) := by decide +kernel
theorem dX8_perform_8 : decode cX8_perform 8 = .ok (.iaload, 1) := by decide +kernel
theorem dX8_perform_9 : decode cX8_perform 9 = .ok (.istore_n 2, 1) := by decide +kernel
theorem dX8_perform_10 : decode cX8_perform 10 = .ok (.aload_n 0, 1) := by decide +kernel
theorem dX8_perform_11 : decode cX8_perform 11 = .ok (.getfield 22, 3) := by decide +kernel
theorem dX8_perform_14 : decode cX8_perform 14 = .ok (.getfield 223, 3) := by decide +kernel
theorem dX8_perform_17 : decode cX8_perform 17 = .ok (.iload_n 1, 1) := by decide +kernel
theorem dX8_perform_18 : decode cX8_perform 18 = .ok (.iaload, 1) := by decide +kernel
theorem dX8_perform_19 : decode cX8_perform 19 = .ok (.istore_n 3, 1) := by decide +kernel
theorem dX8_perform_20 : decode cX8_perform 20 = .ok (.aload_n 0, 1) := by decide +kernel
theorem dX8_perform_21 : decode cX8_perform 21 = .ok (.getfield 16, 3) := by decide +kernel
theorem dX8_perform_24 : decode cX8_perform 24 = .ok (.aload_n 0, 1) := by decide +kernel
theorem dX8_perform_25 : decode cX8_perform 25 = .ok (.getfield 10, 3) := by decide +kernel
theorem dX8_perform_28 : decode cX8_perform 28 = .ok (.invokevirtual 226, 3) := by decide +kernel
theorem dX8_perform_31 : decode cX8_perform 31 = .ok (.aload_n 0, 1) := by decide +kernel
theorem dX8_perform_32 : decode cX8_perform 32 = .ok (.getfield 10, 3) := by decide +kernel
theorem dX8_perform_35 : decode cX8_perform 35 = .ok (.iload_n 2, 1) := by decide +kernel
theorem dX8_perform_36 : decode cX8_perform 36 = .ok (.aload_n 0, 1) := by decide +kernel
theorem dX8_perform_37 : decode cX8_perform 37 = .ok (.getfield 22, 3) := by decide +kernel
theorem dX8_perform_40 : decode cX8_perform 40 = .ok (.getfield 229, 3) := by decide +kernel
theorem dX8_perform_43 : decode cX8_perform 43 = .ok (.iload_n 1, 1) := by decide +kernel
theorem dX8_perform_44 : decode cX8_perform 44 = .ok (.iaload, 1) := by decide +kernel
theorem dX8_perform_45 : decode cX8_perform 45 = .ok (.iload_n 3, 1) := by decide +kernel
theorem dX8_perform_46 : decode cX8_perform 46 = .ok (.aload_n 0, 1) := by decide +kernel
theorem dX8_perform_47 : decode cX8_perform 47 = .ok (.getfield 22, 3) := by decide +kernel
theorem dX8_perform_50 : decode cX8_perform 50 = .ok (.getfield 232, 3) := by decide +kernel
theorem dX8_perform_53 : decode cX8_perform 53 = .ok (.iload_n 1, 1) := by decide +kernel
theorem dX8_perform_54 : decode cX8_perform 54 = .ok (.iaload, 1) := by decide +kernel
theorem dX8_perform_55 : decode cX8_perform 55 = .ok (.aload_n 0, 1) := by decide +kernel
theorem dX8_perform_56 : decode cX8_perform 56 = .ok (.getfield 22, 3) := by decide +kernel
theorem dX8_perform_59 : decode cX8_perform 59 = .ok (.getfield 235, 3) := by decide +kernel
theorem dX8_perform_62 : decode cX8_perform 62 = .ok (.iload_n 1, 1) := by decide +kernel
theorem dX8_perform_63 : decode cX8_perform 63 = .ok (.iaload, 1) := by decide +kernel
theorem dX8_perform_64 : decode cX8_perform 64 = .ok (.invokevirtual 238, 3) := by decide +kernel
theorem dX8_perform_67 : decode cX8_perform 67 = .ok (.istore 4, 2) := by decide +kernel
theorem dX8_perform_69 : decode cX8_perform 69 = .ok (.iload 4, 2) := by decide +kernel
theorem dX8_perform_71 : decode cX8_perform 71 = .ok (.ifCond .ne 8, 3) := by decide +kernel
theorem dX8_perform_74 : decode cX8_perform 74 = .ok (.iload_n 2, 1) := by decide +kernel
theorem dX8_perform_75 : decode cX8_perform 75 = .ok (.iconst 3, 1) := by decide +kernel
theorem dX8_perform_76 : decode cX8_perform 76 = .ok (.if_icmp .ne 6, 3) := by decide +kernel
theorem dX8_perform_79 : decode cX8_perform 79 = .ok (.iload 4, 2) := by decide +kernel
theorem dX8_perform_81 : decode cX8_perform 81 = .ok (.ireturn, 1) := by decide +kernel
theorem dX8_perform_82 : decode cX8_perform 82 = .ok (.aload_n 0, 1) := by decide +kernel
theorem dX8_perform_83 : decode cX8_perform 83 = .ok (.invokevirtual 241, 3) := by decide +kernel
theorem dX8_perform_86 : decode cX8_perform 86 = .ok (.aload_n 0, 1) := by decide +kernel
theorem dX8_perform_87 : decode cX8_perform 87 = .ok (.getfield 47, 3) := by decide +kernel
theorem dX8_perform_90 : decode cX8_perform 90 = .ok (.invokevirtual 244, 3) := by decide +kernel
theorem dX8_perform_93 : decode cX8_perform 93 = .ok (.sipush 512, 3) := by decide +kernel
theorem dX8_perform_96 : decode cX8_perform 96 = .ok (.if_icmp .le 16, 3) := by decide +kernel
theorem dX8_perform_99 : decode cX8_perform 99 = .ok (.aload_n 0, 1) := by decide +kernel
theorem dX8_perform_100 : decode cX8_perform 100 = .ok (.getfield 10, 3) := by decide +kernel
theorem dX8_perform_103 : decode cX8_perform 103 = .ok (.aload_n 0, 1) := by decide +kernel
theorem dX8_perform_104 : decode cX8_perform 104 = .ok (.getfield 16, 3) := by decide +kernel
theorem dX8_perform_107 : decode cX8_perform 107 = .ok (.invokevirtual 226, 3) := by decide +kernel
theorem dX8_perform_110 : decode cX8_perform 110 = .ok (.iconst 3, 1) := by decide +kernel
theorem dX8_perform_111 : decode cX8_perform 111 = .ok (.ireturn, 1) := by decide +kernel
theorem dX8_perform_112 : decode cX8_perform 112 = .ok (.aload_n 0, 1) := by decide +kernel
theorem dX8_perform_113 : decode cX8_perform 113 = .ok (.getfield 29, 3) := by decide +kernel
theorem dX8_perform_116 : decode cX8_perform 116 = .ok (.aload_n 0, 1) := by decide +kernel
theorem dX8_perform_117 : decode cX8_perform 117 = .ok (.getfield 53, 3) := by decide +kernel
theorem dX8_perform_120 : decode cX8_perform 120 = .ok (.aload_n 0, 1) := by decide +kernel
theorem dX8_perform_121 : decode cX8_perform 121 = .ok (.getfield 43, 3) := by decide +kernel
theorem dX8_perform_124 : decode cX8_perform 124 = .ok (.aload_n 0, 1) := by decide +kernel
theorem dX8_perform_125 : decode cX8_perform 125 = .ok (.getfield 50, 3) := by decide +kernel
theorem dX8_perform_128 : decode cX8_perform 128 = .ok (.aload_n 0, 1) := by decide +kernel
theorem dX8_perform_129 : decode cX8_perform 129 = .ok (.getfield 47, 3) := by decide +kernel
theorem dX8_perform_132 : decode cX8_perform 132 = .ok (.invokevirtual 249, 3) := by decide +kernel
theorem dX8_perform_135 : decode cX8_perform 135 = .ok (.istore 5, 2) := by decide +kernel
theorem dX8_perform_137 : decode cX8_perform 137 = .ok (.iload 5, 2) := by decide +kernel
theorem dX8_perform_139 : decode cX8_perform 139 = .ok (.ifCond .eq 17, 3) := by decide +kernel
theorem dX8_perform_142 : decode cX8_perform 142 = .ok (.iload_n 2, 1) := by decide +kernel
theorem dX8_perform_143 : decode cX8_perform 143 = .ok (.bipush 8, 2) := by decide +kernel
theorem dX8_perform_145 : decode cX8_perform 145 = .ok (.if_icmp .ne 16, 3) := by decide +kernel
theorem dX8_perform_148 : decode cX8_perform 148 = .ok (.aload_n 0, 1) := by decide +kernel
theorem dX8_perform_149 : decode cX8_perform 149 = .ok (.iload_n 3, 1) := by decide +kernel
theorem dX8_perform_150 : decode cX8_perform 150 = .ok (.invokevirtual 253, 3) := by decide +kernel
theorem dX8_perform_153 : decode cX8_perform 153 = .ok (.ifCond .ne 8, 3) := by decide +kernel
theorem dX8_perform_156 : decode cX8_perform 156 = .ok (.aload_n 0, 1) := by decide +kernel
theorem dX8_perform_157 : decode cX8_perform 157 = .ok (.iconst 0, 1) := by decide +kernel
theorem dX8_perform_158 : decode cX8_perform 158 = .ok (.putfield 71, 3) := by decide +kernel
theorem dX8_perform_161 : decode cX8_perform 161 = .ok (.aload_n 0, 1) := by decide +kernel
theorem dX8_perform_162 : decode cX8_perform 162 = .ok (.getfield 43, 3) := by decide +kernel
theorem dX8_perform_165 : decode cX8_perform 165 = .ok (.aload_n 0, 1) := by decide +kernel
theorem dX8_perform_166 : decode cX8_perform 166 = .ok (.getfield 47, 3) := by decide +kernel
theorem dX8_perform_169 : decode cX8_perform 169 = .ok (.invokevirtual 189, 3) := by decide +kernel
theorem dX8_perform_172 : decode cX8_perform 172 = .ok (.iload 4, 2) := by decide +kernel
theorem dX8_perform_174 : decode cX8_perform 174 = .ok (.ireturn, 1) := by decide +kernel
theorem dX8_findNextDivisor_0 : decode cX8_findNextDivisor 0 = .ok (.aload_n 0, 1) := by decide +kernel
theorem dX8_findNextDivisor_1 : decode cX8_findNextDivisor 1 = .ok (.getfield 29, 3) := by decide +kernel
theorem dX8_findNextDivisor_4 : decode cX8_findNextDivisor 4 = .ok (.aload_n 0, 1) := by decide +kernel
theorem dX8_findNextDivisor_5 : decode cX8_findNextDivisor 5 = .ok (.getfield 16, 3) := by decide +kernel
theorem dX8_findNextDivisor_8 : decode cX8_findNextDivisor 8 = .ok (.aload_n 0, 1) := by decide +kernel
theorem dX8_findNextDivisor_9 : decode cX8_findNextDivisor 9 = .ok (.getfield 53, 3) := by decide +kernel
theorem dX8_findNextDivisor_12 : decode cX8_findNextDivisor 12 = .ok (.invokevirtual 100, 3) := by decide +kernel
theorem dX8_findNextDivisor_15 : decode cX8_findNextDivisor 15 = .ok (.aload_n 0, 1) := by decide +kernel
theorem dX8_findNextDivisor_16 : decode cX8_findNextDivisor 16 = .ok (.getfield 29, 3) := by decide +kernel
theorem dX8_findNextDivisor_19 : decode cX8_findNextDivisor 19 = .ok (.aload_n 0, 1) := by decide +kernel
theorem dX8_findNextDivisor_20 : decode cX8_findNextDivisor 20 = .ok (.getfield 10, 3) := by decide +kernel
theorem dX8_findNextDivisor_23 : decode cX8_findNextDivisor 23 = .ok (.aload_n 0, 1) := by decide +kernel
theorem dX8_findNextDivisor_24 : decode cX8_findNextDivisor 24 = .ok (.getfield 50, 3) := by decide +kernel
theorem dX8_findNextDivisor_27 : decode cX8_findNextDivisor 27 = .ok (.invokevirtual 100, 3) := by decide +kernel
theorem dX8_findNextDivisor_30 : decode cX8_findNextDivisor 30 = .ok (.aload_n 0, 1) := by decide +kernel
theorem dX8_findNextDivisor_31 : decode cX8_findNextDivisor 31 = .ok (.getfield 56, 3) := by decide +kernel
theorem dX8_findNextDivisor_34 : decode cX8_findNextDivisor 34 = .ok (.aload_n 0, 1) := by decide +kernel
theorem dX8_findNextDivisor_35 : decode cX8_findNextDivisor 35 = .ok (.getfield 50, 3) := by decide +kernel
theorem dX8_findNextDivisor_38 : decode cX8_findNextDivisor 38 = .ok (.invokevirtual 189, 3) := by decide +kernel
theorem dX8_findNextDivisor_41 : decode cX8_findNextDivisor 41 = .ok (.aload_n 0, 1) := by decide +kernel
theorem dX8_findNextDivisor_42 : decode cX8_findNextDivisor 42 = .ok (.getfield 29, 3) := by decide +kernel
theorem dX8_findNextDivisor_45 : decode cX8_findNextDivisor 45 = .ok (.aload_n 0, 1) := by decide +kernel
theorem dX8_findNextDivisor_46 : decode cX8_findNextDivisor 46 = .ok (.getfield 56, 3) := by decide +kernel
theorem dX8_findNextDivisor_49 : decode cX8_findNextDivisor 49 = .ok (.getfield 112, 3) := by decide +kernel
theorem dX8_findNextDivisor_52 : decode cX8_findNextDivisor 52 = .ok (.aload_n 0, 1) := by decide +kernel
theorem dX8_findNextDivisor_53 : decode cX8_findNextDivisor 53 = .ok (.getfield 53, 3) := by decide +kernel
theorem dX8_findNextDivisor_56 : decode cX8_findNextDivisor 56 = .ok (.getfield 104, 3) := by decide +kernel
theorem dX8_findNextDivisor_59 : decode cX8_findNextDivisor 59 = .ok (.invokevirtual 256, 3) := by decide +kernel
theorem dX8_findNextDivisor_62 : decode cX8_findNextDivisor 62 = .ok (.aload_n 0, 1) := by decide +kernel
theorem dX8_findNextDivisor_63 : decode cX8_findNextDivisor 63 = .ok (.getfield 29, 3) := by decide +kernel
theorem dX8_findNextDivisor_66 : decode cX8_findNextDivisor 66 = .ok (.aload_n 0, 1) := by decide +kernel
theorem dX8_findNextDivisor_67 : decode cX8_findNextDivisor 67 = .ok (.getfield 56, 3) := by decide +kernel
theorem dX8_findNextDivisor_70 : decode cX8_findNextDivisor 70 = .ok (.getfield 104, 3) := by decide +kernel
theorem dX8_findNextDivisor_73 : decode cX8_findNextDivisor 73 = .ok (.aload_n 0, 1) := by decide +kernel
theorem dX8_findNextDivisor_74 : decode cX8_findNextDivisor 74 = .ok (.getfield 53, 3) := by decide +kernel
theorem dX8_findNextDivisor_77 : decode cX8_findNextDivisor 77 = .ok (.getfield 112, 3) := by decide +kernel
theorem dX8_findNextDivisor_80 : decode cX8_findNextDivisor 80 = .ok (.invokevirtual 256, 3) := by decide +kernel
theorem dX8_findNextDivisor_83 : decode cX8_findNextDivisor 83 = .ok (.aload_n 0, 1) := by decide +kernel
theorem dX8_findNextDivisor_84 : decode cX8_findNextDivisor 84 = .ok (.getfield 29, 3) := by decide +kernel
theorem dX8_findNextDivisor_87 : decode cX8_findNextDivisor 87 = .ok (.aload_n 0, 1) := by decide +kernel
theorem dX8_findNextDivisor_88 : decode cX8_findNextDivisor 88 = .ok (.getfield 56, 3) := by decide +kernel
theorem dX8_findNextDivisor_91 : decode cX8_findNextDivisor 91 = .ok (.getfield 112, 3) := by decide +kernel
theorem dX8_findNextDivisor_94 : decode cX8_findNextDivisor 94 = .ok (.aload_n 0, 1) := by decide +kernel
theorem dX8_findNextDivisor_95 : decode cX8_findNextDivisor 95 = .ok (.getfield 56, 3) := by decide +kernel
theorem dX8_findNextDivisor_98 : decode cX8_findNextDivisor 98 = .ok (.getfield 104, 3) := by decide +kernel
theorem dX8_findNextDivisor_101 : decode cX8_findNextDivisor 101 = .ok (.invokevirtual 115, 3) := by decide +kernel
theorem dX8_findNextDivisor_104 : decode cX8_findNextDivisor 104 = .ok (.aload_n 0, 1) := by decide +kernel
theorem dX8_findNextDivisor_105 : decode cX8_findNextDivisor 105 = .ok (.getfield 47, 3) := by decide +kernel
theorem dX8_findNextDivisor_108 : decode cX8_findNextDivisor 108 = .ok (.aload_n 0, 1) := by decide +kernel
theorem dX8_findNextDivisor_109 : decode cX8_findNextDivisor 109 = .ok (.getfield 43, 3) := by decide +kernel
theorem dX8_findNextDivisor_112 : decode cX8_findNextDivisor 112 = .ok (.invokevirtual 189, 3) := by decide +kernel
theorem dX8_findNextDivisor_115 : decode cX8_findNextDivisor 115 = .ok (.aload_n 0, 1) := by decide +kernel
theorem dX8_findNextDivisor_116 : decode cX8_findNextDivisor 116 = .ok (.getfield 29, 3) := by decide +kernel
theorem dX8_findNextDivisor_119 : decode cX8_findNextDivisor 119 = .ok (.aload_n 0, 1) := by decide +kernel
theorem dX8_findNextDivisor_120 : decode cX8_findNextDivisor 120 = .ok (.getfield 47, 3) := by decide +kernel
theorem dX8_findNextDivisor_123 : decode cX8_findNextDivisor 123 = .ok (.getfield 112, 3) := by decide +kernel
theorem dX8_findNextDivisor_126 : decode cX8_findNextDivisor 126 = .ok (.aload_n 0, 1) := by decide +kernel
theorem dX8_findNextDivisor_127 : decode cX8_findNextDivisor 127 = .ok (.getfield 56, 3) := by decide +kernel
theorem dX8_findNextDivisor_130 : decode cX8_findNextDivisor 130 = .ok (.getfield 104, 3) := by decide +kernel
theorem dX8_findNextDivisor_133 : decode cX8_findNextDivisor 133 = .ok (.invokevirtual 115, 3) := by decide +kernel
theorem dX8_findNextDivisor_136 : decode cX8_findNextDivisor 136 = .ok (.aload_n 0, 1) := by decide +kernel
theorem dX8_findNextDivisor_137 : decode cX8_findNextDivisor 137 = .ok (.getfield 29, 3) := by decide +kernel
theorem dX8_findNextDivisor_140 : decode cX8_findNextDivisor 140 = .ok (.aload_n 0, 1) := by decide +kernel
theorem dX8_findNextDivisor_141 : decode cX8_findNextDivisor 141 = .ok (.getfield 56, 3) := by decide +kernel
theorem dX8_findNextDivisor_144 : decode cX8_findNextDivisor 144 = .ok (.getfield 112, 3) := by decide +kernel
theorem dX8_findNextDivisor_147 : decode cX8_findNextDivisor 147 = .ok (.aload_n 0, 1) := by decide +kernel
theorem dX8_findNextDivisor_148 : decode cX8_findNextDivisor 148 = .ok (.getfield 47, 3) := by decide +kernel
theorem dX8_findNextDivisor_151 : decode cX8_findNextDivisor 151 = .ok (.getfield 104, 3) := by decide +kernel
theorem dX8_findNextDivisor_154 : decode cX8_findNextDivisor 154 = .ok (.invokevirtual 115, 3) := by decide +kernel
theorem dX8_findNextDivisor_157 : decode cX8_findNextDivisor 157 = .ok (.aload_n 0, 1) := by decide +kernel
theorem dX8_findNextDivisor_158 : decode cX8_findNextDivisor 158 = .ok (.getfield 29, 3) := by decide +kernel
theorem dX8_findNextDivisor_161 : decode cX8_findNextDivisor 161 = .ok (.aload_n 0, 1) := by decide +kernel
theorem dX8_findNextDivisor_162 : decode cX8_findNextDivisor 162 = .ok (.getfield 47, 3) := by decide +kernel
theorem dX8_findNextDivisor_165 : decode cX8_findNextDivisor 165 = .ok (.getfield 112, 3) := by decide +kernel
theorem dX8_findNextDivisor_168 : decode cX8_findNextDivisor 168 = .ok (.aload_n 0, 1) := by decide +kernel
theorem dX8_findNextDivisor_169 : decode cX8_findNextDivisor 169 = .ok (.getfield 56, 3) := by decide +kernel
theorem dX8_findNextDivisor_172 : decode cX8_findNextDivisor 172 = .ok (.getfield 112, 3) := by decide +kernel
theorem dX8_findNextDivisor_175 : decode cX8_findNextDivisor 175 = .ok (.invokevirtual 256, 3) := by decide +kernel
theorem dX8_findNextDivisor_178 : decode cX8_findNextDivisor 178 = .ok (.aload_n 0, 1) := by decide +kernel
theorem dX8_findNextDivisor_179 : decode cX8_findNextDivisor 179 = .ok (.getfield 29, 3) := by decide +kernel
theorem dX8_findNextDivisor_182 : decode cX8_findNextDivisor 182 = .ok (.aload_n 0, 1) := by decide +kernel
theorem dX8_findNextDivisor_183 : decode cX8_findNextDivisor 183 = .ok (.getfield 47, 3) := by decide +kernel
theorem dX8_findNextDivisor_186 : decode cX8_findNextDivisor 186 = .ok (.getfield 104, 3) := by decide +kernel
theorem dX8_findNextDivisor_189 : decode cX8_findNextDivisor 189 = .ok (.aload_n 0, 1) := by decide +kernel
theorem dX8_findNextDivisor_190 : decode cX8_findNextDivisor 190 = .ok (.getfield 56, 3) := by decide +kernel
theorem dX8_findNextDivisor_193 : decode cX8_findNextDivisor 193 = .ok (.getfield 104, 3) := by decide +kernel
theorem dX8_findNextDivisor_196 : decode cX8_findNextDivisor 196 = .ok (.invokevirtual 256, 3) := by decide +kernel
theorem dX8_findNextDivisor_199 : decode cX8_findNextDivisor 199 = .ok (.return_, 1) := by decide +kernel
theorem dX8_isCapped_0 : decode cX8_isCapped 0 = .ok (.iconst 1, 1) := by decide +kernel
theorem dX8_isCapped_1 : decode cX8_isCapped 1 = .ok (.istore_n 2, 1) := by decide +kernel
theorem dX8_isCapped_2 : decode cX8_isCapped 2 = .ok (.iconst 0, 1) := by decide +kernel
theorem dX8_isCapped_3 : decode cX8_isCapped 3 = .ok (.istore_n 3, 1) := by decide +kernel
theorem dX8_isCapped_4 : decode cX8_isCapped 4 = .ok (.iload_n 3, 1) := by decide +kernel
theorem dX8_isCapped_5 : decode cX8_isCapped 5 = .ok (.bipush 8, 2) := by decide +kernel
theorem dX8_isCapped_7 : decode cX8_isCapped 7 = .ok (.if_icmp .ge 92, 3) := by decide +kernel
theorem dX8_isCapped_10 : decode cX8_isCapped 10 = .ok (.aload_n 0, 1) := by decide +kernel
theorem dX8_isCapped_11 : decode cX8_isCapped 11 = .ok (.getfield 10, 3) := by decide +kernel
theorem dX8_isCapped_14 : decode cX8_isCapped 14 = .ok (.iload_n 3, 1) := by decide +kernel
theorem dX8_isCapped_15 : decode cX8_isCapped 15 = .ok (.invokevirtual 78, 3) := by decide +kernel
theorem dX8_isCapped_18 : decode cX8_isCapped 18 = .ok (.ifCond .eq 75, 3) := by decide +kernel
theorem dX8_isCapped_21 : decode cX8_isCapped 21 = .ok (.aload_n 0, 1) := by decide +kernel
theorem dX8_isCapped_22 : decode cX8_isCapped 22 = .ok (.getfield 29, 3) := by decide +kernel
theorem dX8_isCapped_25 : decode cX8_isCapped 25 = .ok (.aload_n 0, 1) := by decide +kernel
theorem dX8_isCapped_26 : decode cX8_isCapped 26 = .ok (.getfield 10, 3) := by decide +kernel
theorem dX8_isCapped_29 : decode cX8_isCapped 29 = .ok (.iload_n 3, 1) := by decide +kernel
theorem dX8_isCapped_30 : decode cX8_isCapped 30 = .ok (.bipush 100, 2) := by decide +kernel
theorem dX8_isCapped_32 : decode cX8_isCapped 32 = .ok (.aload_n 0, 1) := by decide +kernel
theorem dX8_isCapped_33 : decode cX8_isCapped 33 = .ok (.getfield 50, 3) := by decide +kernel
theorem dX8_isCapped_36 : decode cX8_isCapped 36 = .ok (.iload_n 1, 1) := by decide +kernel
theorem dX8_isCapped_37 : decode cX8_isCapped 37 = .ok (.invokevirtual 165, 3) := by decide +kernel
theorem dX8_isCapped_40 : decode cX8_isCapped 40 = .ok (.aload_n 0, 1) := by decide +kernel
theorem dX8_isCapped_41 : decode cX8_isCapped 41 = .ok (.getfield 29, 3) := by decide +kernel
theorem dX8_isCapped_44 : decode cX8_isCapped 44 = .ok (.getfield 169, 3) := by decide +kernel
theorem dX8_isCapped_47 : decode cX8_isCapped 47 = .ok (.aload_n 0, 1) := by decide +kernel
theorem dX8_isCapped_48 : decode cX8_isCapped 48 = .ok (.getfield 29, 3) := by decide +kernel
theorem dX8_isCapped_51 : decode cX8_isCapped 51 = .ok (.getfield 172, 3) := by decide +kernel
theorem dX8_isCapped_54 : decode cX8_isCapped 54 = .ok (.invokevirtual 259, 3) := by decide +kernel
theorem dX8_isCapped_57 : decode cX8_isCapped 57 = .ok (.istore 4, 2) := by decide +kernel
theorem dX8_isCapped_59 : decode cX8_isCapped 59 = .ok (.iload_n 2, 1) := by decide +kernel
theorem dX8_isCapped_60 : decode cX8_isCapped 60 = .ok (.ifCond .eq 31, 3) := by decide +kernel
theorem dX8_isCapped_63 : decode cX8_isCapped 63 = .ok (.aload_n 0, 1) := by decide +kernel
theorem dX8_isCapped_64 : decode cX8_isCapped 64 = .ok (.getfield 10, 3) := by decide +kernel
theorem dX8_isCapped_67 : decode cX8_isCapped 67 = .ok (.iload_n 3, 1) := by decide +kernel
theorem dX8_isCapped_68 : decode cX8_isCapped 68 = .ok (.invokevirtual 263, 3) := by decide +kernel
theorem dX8_isCapped_71 : decode cX8_isCapped 71 = .ok (.ifCond .eq 11, 3) := by decide +kernel
theorem dX8_isCapped_74 : decode cX8_isCapped 74 = .ok (.iload 4, 2) := by decide +kernel
theorem dX8_isCapped_76 : decode cX8_isCapped 76 = .ok (.ifCond .gt 15, 3) := by decide +kernel
theorem dX8_isCapped_79 : decode cX8_isCapped 79 = .ok (.goto 8, 3) := by decide +kernel
theorem dX8_isCapped_82 : decode cX8_isCapped 82 = .ok (.iload 4, 2) := by decide +kernel
theorem dX8_isCapped_84 : decode cX8_isCapped 84 = .ok (.ifCond .ne 7, 3) := by decide +kernel
theorem dX8_isCapped_87 : decode cX8_isCapped 87 = .ok (.iconst 1, 1) := by decide +kernel
theorem dX8_isCapped_88 : decode cX8_isCapped 88 = .ok (.goto 4, 3) := by decide +kernel
theorem dX8_isCapped_91 : decode cX8_isCapped 91 = .ok (.iconst 0, 1) := by decide +kernel
theorem dX8_isCapped_92 : decode cX8_isCapped 92 = .ok (.istore_n 2, 1) := by decide +kernel
theorem dX8_isCapped_93 : decode cX8_isCapped 93 = .ok (.iinc 3 1, 3) := by decide +kernel
theorem dX8_isCapped_96 : decode cX8_isCapped 96 = .ok (.goto (-92), 3) := by decide +kernel
theorem dX8_isCapped_99 : decode cX8_isCapped 99 = .ok (.iload_n 2, 1) := by decide +kernel
theorem dX8_isCapped_100 : decode cX8_isCapped 100 = .ok (.ireturn, 1) := by decide +kernel
theorem dX8_exactLevel_0 : decode cX8_exactLevel 0 = .ok (.aload_n 0, 1) := by decide +kernel
theorem dX8_exactLevel_1 : decode cX8_exactLevel 1 = .ok (.getfield 29, 3) := by decide +kernel
theorem dX8_exactLevel_4 : decode cX8_exactLevel 4 = .ok (.aload_n 0, 1) := by decide +kernel
theorem dX8_exactLevel_5 : decode cX8_exactLevel 5 = .ok (.getfield 10, 3) := by decide +kernel
theorem dX8_exactLevel_8 : decode cX8_exactLevel 8 = .ok (.aload_n 0, 1) := by decide +kernel
theorem dX8_exactLevel_9 : decode cX8_exactLevel 9 = .ok (.getfield 56, 3) := by decide +kernel
theorem dX8_exactLevel_12 : decode cX8_exactLevel 12 = .ok (.invokevirtual 100, 3) := by decide +kernel
theorem dX8_exactLevel_15 : decode cX8_exactLevel 15 = .ok (.aload_n 0, 1) := by decide +kernel
theorem dX8_exactLevel_16 : decode cX8_exactLevel 16 = .ok (.getfield 29, 3) := by decide +kernel
theorem dX8_exactLevel_19 : decode cX8_exactLevel 19 = .ok (.aload_n 0, 1) := by decide +kernel
theorem dX8_exactLevel_20 : decode cX8_exactLevel 20 = .ok (.getfield 56, 3) := by decide +kernel
theorem dX8_exactLevel_23 : decode cX8_exactLevel 23 = .ok (.getfield 112, 3) := by decide +kernel
theorem dX8_exactLevel_26 : decode cX8_exactLevel 26 = .ok (.aload_n 0, 1) := by decide +kernel
theorem dX8_exactLevel_27 : decode cX8_exactLevel 27 = .ok (.getfield 43, 3) := by decide +kernel
theorem dX8_exactLevel_30 : decode cX8_exactLevel 30 = .ok (.getfield 104, 3) := by decide +kernel
theorem dX8_exactLevel_33 : decode cX8_exactLevel 33 = .ok (.invokevirtual 256, 3) := by decide +kernel
theorem dX8_exactLevel_36 : decode cX8_exactLevel 36 = .ok (.aload_n 0, 1) := by decide +kernel
theorem dX8_exactLevel_37 : decode cX8_exactLevel 37 = .ok (.getfield 29, 3) := by decide +kernel
theorem dX8_exactLevel_40 : decode cX8_exactLevel 40 = .ok (.aload_n 0, 1) := by decide +kernel
theorem dX8_exactLevel_41 : decode cX8_exactLevel 41 = .ok (.getfield 56, 3) := by decide +kernel
theorem dX8_exactLevel_44 : decode cX8_exactLevel 44 = .ok (.getfield 104, 3) := by decide +kernel
theorem dX8_exactLevel_47 : decode cX8_exactLevel 47 = .ok (.aload_n 0, 1) := by decide +kernel
theorem dX8_exactLevel_48 : decode cX8_exactLevel 48 = .ok (.getfield 43, 3) := by decide +kernel
theorem dX8_exactLevel_51 : decode cX8_exactLevel 51 = .ok (.getfield 112, 3) := by decide +kernel
theorem dX8_exactLevel_54 : decode cX8_exactLevel 54 = .ok (.invokevirtual 256, 3) := by decide +kernel
theorem dX8_exactLevel_57 : decode cX8_exactLevel 57 = .ok (.return_, 1) := by decide +kernel
theorem dX8_roundedLevel_0 : decode cX8_roundedLevel 0 = .ok (.aload_n 0, 1) := by decide +kernel
theorem dX8_roundedLevel_1 : decode cX8_roundedLevel 1 = .ok (.invokevirtual 186, 3) := by decide +kernel
theorem dX8_roundedLevel_4 : decode cX8_roundedLevel 4 = .ok (.aload_n 0, 1) := by decide +kernel
theorem dX8_roundedLevel_5 : decode cX8_roundedLevel 5 = .ok (.getfield 29, 3) := by decide +kernel
theorem dX8_roundedLevel_8 : decode cX8_roundedLevel 8 = .ok (.aload_n 0, 1) := by decide +kernel
theorem dX8_roundedLevel_9 : decode cX8_roundedLevel 9 = .ok (.getfield 56, 3) := by decide +kernel
theorem dX8_roundedLevel_12 : decode cX8_roundedLevel 12 = .ok (.getfield 112, 3) := by decide +kernel
theorem dX8_roundedLevel_15 : decode cX8_roundedLevel 15 = .ok (.ldc2_w 266, 3) := by decide +kernel
theorem dX8_roundedLevel_18 : decode cX8_roundedLevel 18 = .ok (.invokevirtual 108, 3) := by decide +kernel
theorem dX8_roundedLevel_21 : decode cX8_roundedLevel 21 = .ok (.aload_n 0, 1) := by decide +kernel
theorem dX8_roundedLevel_22 : decode cX8_roundedLevel 22 = .ok (.getfield 56, 3) := by decide +kernel
theorem dX8_roundedLevel_25 : decode cX8_roundedLevel 25 = .ok (.getfield 112, 3) := by decide +kernel
theorem dX8_roundedLevel_28 : decode cX8_roundedLevel 28 = .ok (.aload_n 0, 1) := by decide +kernel
theorem dX8_roundedLevel_29 : decode cX8_roundedLevel 29 = .ok (.getfield 56, 3) := by decide +kernel
theorem dX8_roundedLevel_32 : decode cX8_roundedLevel 32 = .ok (.getfield 104, 3) := by decide +kernel
theorem dX8_roundedLevel_35 : decode cX8_roundedLevel 35 = .ok (.invokevirtual 268, 3) := by decide +kernel
theorem dX8_roundedLevel_38 : decode cX8_roundedLevel 38 = .ok (.aload_n 0, 1) := by decide +kernel
theorem dX8_roundedLevel_39 : decode cX8_roundedLevel 39 = .ok (.getfield 29, 3) := by decide +kernel
theorem dX8_roundedLevel_42 : decode cX8_roundedLevel 42 = .ok (.aload_n 0, 1) := by decide +kernel
theorem dX8_roundedLevel_43 : decode cX8_roundedLevel 43 = .ok (.getfield 56, 3) := by decide +kernel
theorem dX8_roundedLevel_46 : decode cX8_roundedLevel 46 = .ok (.getfield 104, 3) := by decide +kernel
theorem dX8_roundedLevel_49 : decode cX8_roundedLevel 49 = .ok (.ldc2_w 272, 3) := by decide +kernel
theorem dX8_roundedLevel_52 : decode cX8_roundedLevel 52 = .ok (.invokevirtual 108, 3) := by decide +kernel
theorem dX8_roundedLevel_55 : decode cX8_roundedLevel 55 = .ok (.aload_n 0, 1) := by decide +kernel
theorem dX8_roundedLevel_56 : decode cX8_roundedLevel 56 = .ok (.getfield 29, 3) := by decide +kernel
theorem dX8_roundedLevel_59 : decode cX8_roundedLevel 59 = .ok (.aload_n 0, 1) := by decide +kernel
theorem dX8_roundedLevel_60 : decode cX8_roundedLevel 60 = .ok (.getfield 56, 3) := by decide +kernel
theorem dX8_roundedLevel_63 : decode cX8_roundedLevel 63 = .ok (.getfield 112, 3) := by decide +kernel
theorem dX8_roundedLevel_66 : decode cX8_roundedLevel 66 = .ok (.aload_n 0, 1) := by decide +kernel
theorem dX8_roundedLevel_67 : decode cX8_roundedLevel 67 = .ok (.getfield 56, 3) := by decide +kernel
theorem dX8_roundedLevel_70 : decode cX8_roundedLevel 70 = .ok (.getfield 104, 3) := by decide +kernel
theorem dX8_roundedLevel_73 : decode cX8_roundedLevel 73 = .ok (.invokevirtual 175, 3) := by decide +kernel
theorem dX8_roundedLevel_76 : decode cX8_roundedLevel 76 = .ok (.aload_n 0, 1) := by decide +kernel
theorem dX8_roundedLevel_77 : decode cX8_roundedLevel 77 = .ok (.getfield 29, 3) := by decide +kernel
theorem dX8_roundedLevel_80 : decode cX8_roundedLevel 80 = .ok (.getfield 178, 3) := by decide +kernel
theorem dX8_roundedLevel_83 : decode cX8_roundedLevel 83 = .ok (.invokevirtual 274, 3) := by decide +kernel
theorem dX8_roundedLevel_86 : decode cX8_roundedLevel 86 = .ok (.ifCond .ne 7, 3) := by decide +kernel
theorem dX8_roundedLevel_89 : decode cX8_roundedLevel 89 = .ok (.ldc2_w 277, 3) := by decide +kernel
theorem dX8_roundedLevel_92 : decode cX8_roundedLevel 92 = .ok (.lreturn, 1) := by decide +kernel
theorem dX8_roundedLevel_93 : decode cX8_roundedLevel 93 = .ok (.aload_n 0, 1) := by decide +kernel
theorem dX8_roundedLevel_94 : decode cX8_roundedLevel 94 = .ok (.getfield 29, 3) := by decide +kernel
theorem dX8_roundedLevel_97 : decode cX8_roundedLevel 97 = .ok (.getfield 178, 3) := by decide +kernel
theorem dX8_roundedLevel_100 : decode cX8_roundedLevel 100 = .ok (.invokevirtual 181, 3) := by decide +kernel
theorem dX8_roundedLevel_103 : decode cX8_roundedLevel 103 = .ok (.ldc2_w 277, 3) := by decide +kernel
theorem dX8_roundedLevel_106 : decode cX8_roundedLevel 106 = .ok (.invokestatic 279, 3) := by decide +kernel
theorem dX8_roundedLevel_109 : decode cX8_roundedLevel 109 = .ok (.lreturn, 1) := by decide +kernel
