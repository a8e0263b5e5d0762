theorem dX12_thrown_0 : decode cX12_thrown 0 = .ok (.aload_n 0, 1) := by decide +kernel
theorem dX12_thrown_1 : decode cX12_thrown 1 = .ok (.getfield 3, 3) := by decide +kernel
theorem dX12_thrown_4 : decode cX12_thrown 4 = .ok (.ireturn, 1) := by decide +kernel
theorem dX12_throwsIf_0 : decode cX12_throwsIf 0 = .ok (.iload_n 1, 1) := by decide +kernel
theorem dX12_throwsIf_1 : decode cX12_throwsIf 1 = .ok (.ifCond .eq 8, 3) := by decide +kernel
theorem dX12_throwsIf_4 : decode cX12_throwsIf 4 = .ok (.aload_n 0, 1) := by decide +kernel
theorem dX12_throwsIf_5 : decode cX12_throwsIf 5 = .ok (.iload_n 2, 1) := by decide +kernel
theorem dX12_throwsIf_6 : decode cX12_throwsIf 6 = .ok (.putfield 3, 3) := by decide +kernel
theorem dX12_throwsIf_9 : decode cX12_throwsIf 9 = .ok (.iload_n 1, 1) := by decide +kernel
theorem dX12_throwsIf_10 : decode cX12_throwsIf 10 = .ok (.ireturn, 1) := by decide +kernel
theorem dX12_in_0 : decode cX12_in 0 = .ok (.iload_n 0, 1) := by decide +kernel
theorem dX12_in_1 : decode cX12_in 1 = .ok (.iload_n 1, 1) := by decide +kernel
theorem dX12_in_2 : decode cX12_in 2 = .ok (.if_icmp .lt 12, 3) := by decide +kernel
theorem dX12_in_5 : decode cX12_in 5 = .ok (.iload_n 0, 1) := by decide +kernel
theorem dX12_in_6 : decode cX12_in 6 = .ok (.iload_n 2, 1) := by decide +kernel
theorem dX12_in_7 : decode cX12_in 7 = .ok (.if_icmp .gt 7, 3) := by decide +kernel
theorem dX12_in_10 : decode cX12_in 10 = .ok (.iconst 1, 1) := by decide +kernel
theorem dX12_in_11 : decode cX12_in 11 = .ok (.goto 4, 3) := by decide +kernel
theorem dX12_in_14 : decode cX12_in 14 = .ok (.iconst 0, 1) := by decide +kernel
theorem dX12_in_15 : decode cX12_in 15 = .ok (.ireturn, 1) := by decide +kernel
theorem dX12_has_0 : decode cX12_has 0 = .ok (.iload_n 0, 1) := by decide +kernel
theorem dX12_has_1 : decode cX12_has 1 = .ok (.iload_n 1, 1) := by decide +kernel
theorem dX12_has_2 : decode cX12_has 2 = .ok (.ishr, 1) := by decide +kernel
theorem dX12_has_3 : decode cX12_has 3 = .ok (.iconst 1, 1) := by decide +kernel
theorem dX12_has_4 : decode cX12_has 4 = .ok (.iand, 1) := by decide +kernel
theorem dX12_has_5 : decode cX12_has 5 = .ok (.iconst 1, 1) := by decide +kernel
theorem dX12_has_6 : decode cX12_has 6 = .ok (.if_icmp .ne 7, 3) := by decide +kernel
theorem dX12_has_9 : decode cX12_has 9 = .ok (.iconst 1, 1) := by decide +kernel
theorem dX12_has_10 : decode cX12_has 10 = .ok (.goto 4, 3) := by decide +kernel
theorem dX12_has_13 : decode cX12_has 13 = .ok (.iconst 0, 1) := by decide +kernel
theorem dX12_has_14 : decode cX12_has 14 = .ok (.ireturn, 1) := by decide +kernel
theorem dX12_init_0 : decode cX12_init 0 = .ok (.aload_n 0, 1) := by decide +kernel
theorem dX12_init_1 : decode cX12_init 1 = .ok (.invokespecial 7, 3) := by decide +kernel
theorem dX12_init_4 : decode cX12_init 4 = .ok (.aload_n 0, 1) := by decide +kernel
theorem dX12_init_5 : decode cX12_init 5 = .ok (.sipush 2429, 3) := by decide +kernel
theorem dX12_init_8 : decode cX12_init 8 = .ok (.newarray .int, 2) := by decide +kernel
theorem dX12_init_10 : decode cX12_init 10 = .ok (.putfield 13, 3) := by decide +kernel
theorem dX12_init_13 : decode cX12_init 13 = .ok (.aload_n 0, 1) := by decide +kernel
theorem dX12_init_14 : decode cX12_init 14 = .ok (.sipush 1580, 3) := by decide +kernel
theorem dX12_init_17 : decode cX12_init 17 = .ok (.newarray .int, 2) := by decide +kernel
theorem dX12_init_19 : decode cX12_init 19 = .ok (.putfield 17, 3) := by decide +kernel
theorem dX12_init_22 : decode cX12_init 22 = .ok (.aload_n 0, 1) := by decide +kernel
theorem dX12_init_23 : decode cX12_init 23 = .ok (.sipush 1580, 3) := by decide +kernel
theorem dX12_init_26 : decode cX12_init 26 = .ok (.newarray .int, 2) := by decide +kernel
theorem dX12_init_28 : decode cX12_init 28 = .ok (.putfield 20, 3) := by decide +kernel
theorem dX12_init_31 : decode cX12_init 31 = .ok (.aload_n 0, 1) := by decide +kernel
theorem dX12_init_32 : decode cX12_init 32 = .ok (.sipush 731, 3) := by decide +kernel
theorem dX12_init_35 : decode cX12_init 35 = .ok (.newarray .int, 2) := by decide +kernel
theorem dX12_init_37 : decode cX12_init 37 = .ok (.putfield 23, 3) := by decide +kernel
theorem dX12_init_40 : decode cX12_init 40 = .ok (.aload_n 0, 1) := by decide +kernel
theorem dX12_init_41 : decode cX12_init 41 = .ok (.sipush 8772, 3) := by decide +kernel
theorem dX12_init_44 : decode cX12_init 44 = .ok (.newarray .int, 2) := by decide +kernel
theorem dX12_init_46 : decode cX12_init 46 = .ok (.putfield 26, 3) := by decide +kernel
theorem dX12_init_49 : decode cX12_init 49 = .ok (.aload_n 0, 1) := by decide +kernel
theorem dX12_init_50 : decode cX12_init 50 = .ok (.sipush 400, 3) := by decide +kernel
theorem dX12_init_53 : decode cX12_init 53 = .ok (.newarray .byte, 2) := by decide +kernel
theorem dX12_init_55 : decode cX12_init 55 = .ok (.putfield 29, 3) := by decide +kernel
theorem dX12_init_58 : decode cX12_init 58 = .ok (.aload_n 0, 1) := by decide +kernel
theorem dX12_init_59 : decode cX12_init 59 = .ok (.iconst (-1), 1) := by decide +kernel
theorem dX12_init_60 : decode cX12_init 60 = .ok (.putfield 33, 3) := by decide +kernel
theorem dX12_init_63 : decode cX12_init 63 = .ok (.aload_n 0, 1) := by decide +kernel
theorem dX12_init_64 : decode cX12_init 64 = .ok (.iconst 5, 1) := by decide +kernel
theorem dX12_init_65 : decode cX12_init 65 = .ok (.newarray .int, 2) := by decide +kernel
theorem dX12_init_67 : decode cX12_init 67 = .ok (.putfield 36, 3) := by decide +kernel
theorem dX12_init_70 : decode cX12_init 70 = .ok (.aload_n 0, 1) := by decide +kernel
theorem dX12_init_71 : decode cX12_init 71 = .ok (.sipush 400, 3) := by decide +kernel
theorem dX12_init_74 : decode cX12_init 74 = .ok (.newarray .int, 2) := by decide +kernel
theorem dX12_init_76 : decode cX12_init 76 = .ok (.putfield 39, 3) := by decide +kernel
theorem dX12_init_79 : decode cX12_init 79 = .ok (.aload_n 0, 1) := by decide +kernel
theorem dX12_init_80 : decode cX12_init 80 = .ok (.ldc 42, 2) := by decide +kernel
theorem dX12_init_82 : decode cX12_init 82 = .ok (.newarray .boolean, 2) := by decide +kernel
theorem dX12_init_84 : decode cX12_init 84 = .ok (.putfield 43, 3) := by decide +kernel
theorem dX12_init_87 : decode cX12_init 87 = .ok (.aload_n 0, 1) := by decide +kernel
theorem dX12_init_88 : decode cX12_init 88 = .ok (.sipush 256, 3) := by decide +kernel
theorem dX12_init_91 : decode cX12_init 91 = .ok (.newarray .boolean, 2) := by decide +kernel
theorem dX12_init_93 : decode cX12_init 93 = .ok (.putfield 47, 3) := by decide +kernel
theorem dX12_init_96 : decode cX12_init 96 = .ok (.aload_n 0, 1) := by decide +kernel
theorem dX12_init_97 : decode cX12_init 97 = .ok (.bipush 8, 2) := by decide +kernel
theorem dX12_init_99 : decode cX12_init 99 = .ok (.newarray .int, 2) := by decide +kernel
theorem dX12_init_101 : decode cX12_init 101 = .ok (.putfield 50, 3) := by decide +kernel
theorem dX12_init_104 : decode cX12_init 104 = .ok (.aload_n 0, 1) := by decide +kernel
theorem dX12_init_105 : decode cX12_init 105 = .ok (.sipush 9216, 3) := by decide +kernel
theorem dX12_init_108 : decode cX12_init 108 = .ok (.newarray .int, 2) := by decide +kernel
theorem dX12_init_110 : decode cX12_init 110 = .ok (.putfield 53, 3) := by decide +kernel
theorem dX12_init_113 : decode cX12_init 113 = .ok (.aload_n 0, 1) := by decide +kernel
theorem dX12_init_114 : decode cX12_init 114 = .ok (.getfield 13, 3) := by decide +kernel
theorem dX12_init_117 : decode cX12_init 117 = .ok (.bipush 10, 2) := by decide +kernel
theorem dX12_init_119 : decode cX12_init 119 = .ok (.iconst 1, 1) := by decide +kernel
theorem dX12_init_120 : decode cX12_init 120 = .ok (.iastore, 1) := by decide +kernel
theorem dX12_init_121 : decode cX12_init 121 = .ok (.return_, 1) := by decide +kernel
theorem dX12_image_0 : decode cX12_image 0 = .ok (.aload_n 0, 1) := by decide +kernel
theorem dX12_image_1 : decode cX12_image 1 = .ok (.iconst 0, 1) := by decide +kernel
theorem dX12_image_2 : decode cX12_image 2 = .ok (.putfield 3, 3) := by decide +kernel
theorem dX12_image_5 : decode cX12_image 5 = .ok (.iconst 0, 1) := by decide +kernel
theorem dX12_image_6 : decode cX12_image 6 = .ok (.istore_n 1, 1) := by decide +kernel
theorem dX12_image_7 : decode cX12_image 7 = .ok (.iload_n 1, 1) := by decide +kernel
theorem dX12_image_8 : decode cX12_image 8 = .ok (.sipush 1580, 3) := by decide +kernel
theorem dX12_image_11 : decode cX12_image 11 = .ok (.if_icmp .ge 21, 3) := by decide +kernel
theorem dX12_image_14 : decode cX12_image 14 = .ok (.aload_n 0, 1) := by decide +kernel
theorem dX12_image_15 : decode cX12_image 15 = .ok (.getfield 17, 3) := by decide +kernel
theorem dX12_image_18 : decode cX12_image 18 = .ok (.iload_n 1, 1) := by decide +kernel
theorem dX12_image_19 : decode cX12_image 19 = .ok (.aload_n 0, 1) := by decide +kernel
theorem dX12_image_20 : decode cX12_image 20 = .ok (.getfield 13, 3) := by decide +kernel
theorem dX12_image_23 : decode cX12_image 23 = .ok (.iload_n 1, 1) := by decide +kernel
theorem dX12_image_24 : decode cX12_image 24 = .ok (.iaload, 1) := by decide +kernel
theorem dX12_image_25 : decode cX12_image 25 = .ok (.iastore, 1) := by decide +kernel
theorem dX12_image_26 : decode cX12_image 26 = .ok (.iinc 1 1, 3) := by decide +kernel
theorem dX12_image_29 : decode cX12_image 29 = .ok (.goto (-22), 3) := by decide +kernel
theorem dX12_image_32 : decode cX12_image 32 = .ok (.aload_n 0, 1) := by decide +kernel
theorem dX12_image_33 : decode cX12_image 33 = .ok (.iconst 1, 1) := by decide +kernel
theorem dX12_image_34 : decode cX12_image 34 = .ok (.putfield 56, 3) := by decide +kernel
theorem dX12_image_37 : decode cX12_image 37 = .ok (.return_, 1) := by decide +kernel
theorem dX12_back_0 : decode cX12_back 0 = .ok (.aload_n 0, 1) := by decide +kernel
theorem dX12_back_1 : decode cX12_back 1 = .ok (.iconst 0, 1) := by decide +kernel
theorem dX12_back_2 : decode cX12_back 2 = .ok (.putfield 3, 3) := by decide +kernel
theorem dX12_back_5 : decode cX12_back 5 = .ok (.aload_n 0, 1) := by decide +kernel
theorem dX12_back_6 : decode cX12_back 6 = .ok (.getfield 56, 3) := by decide +kernel
theorem dX12_back_9 : decode cX12_back 9 = .ok (.ifCond .ne 5, 3) := by decide +kernel
theorem dX12_back_12 : decode cX12_back 12 = .ok (.iconst 0, 1) := by decide +kernel
theorem dX12_back_13 : decode cX12_back 13 = .ok (.ireturn, 1) := by decide +kernel
theorem dX12_back_14 : decode cX12_back 14 = .ok (.iconst 0, 1) := by decide +kernel
theorem dX12_back_15 : decode cX12_back 15 = .ok (.istore_n 1, 1) := by decide +kernel
theorem dX12_back_16 : decode cX12_back 16 = .ok (.iload_n 1, 1) := by decide +kernel
theorem dX12_back_17 : decode cX12_back 17 = .ok (.sipush 1580, 3) := by decide +kernel
theorem dX12_back_20 : decode cX12_back 20 = .ok (.if_icmp .ge 21, 3) := by decide +kernel
theorem dX12_back_23 : decode cX12_back 23 = .ok (.aload_n 0, 1) := by decide +kernel
theorem dX12_back_24 : decode cX12_back 24 = .ok (.getfield 13, 3) := by decide +kernel
theorem dX12_back_27 : decode cX12_back 27 = .ok (.iload_n 1, 1) := by decide +kernel
theorem dX12_back_28 : decode cX12_back 28 = .ok (.aload_n 0, 1) := by decide +kernel
theorem dX12_back_29 : decode cX12_back 29 = .ok (.getfield 17, 3) := by decide +kernel
theorem dX12_back_32 : decode cX12_back 32 = .ok (.iload_n 1, 1) := by decide +kernel
theorem dX12_back_33 : decode cX12_back 33 = .ok (.iaload, 1) := by decide +kernel
theorem dX12_back_34 : decode cX12_back 34 = .ok (.iastore, 1) := by decide +kernel
theorem dX12_back_35 : decode cX12_back 35 = .ok (.iinc 1 1, 3) := by decide +kernel
theorem dX12_back_38 : decode cX12_back 38 = .ok (.goto (-22), 3) := by decide +kernel
theorem dX12_back_41 : decode cX12_back 41 = .ok (.aload_n 0, 1) := by decide +kernel
theorem dX12_back_42 : decode cX12_back 42 = .ok (.iconst 0, 1) := by decide +kernel
theorem dX12_back_43 : decode cX12_back 43 = .ok (.putfield 60, 3) := by decide +kernel
theorem dX12_back_46 : decode cX12_back 46 = .ok (.iconst 1, 1) := by decide +kernel
theorem dX12_back_47 : decode cX12_back 47 = .ok (.ireturn, 1) := by decide +kernel
theorem dX12_remembers_0 : decode cX12_remembers 0 = .ok (.aload_n 0, 1) := by decide +kernel
theorem dX12_remembers_1 : decode cX12_remembers 1 = .ok (.getfield 60, 3) := by decide +kernel
theorem dX12_remembers_4 : decode cX12_remembers 4 = .ok (.bipush 12, 2) := by decide +kernel
theorem dX12_remembers_6 : decode cX12_remembers 6 = .ok (.if_icmp .ne 37, 3) := by decide +kernel
theorem dX12_remembers_9 : decode cX12_remembers 9 = .ok (.iconst 0, 1) := by decide +kernel
theorem dX12_remembers_10 : decode cX12_remembers 10 = .ok (.istore_n 1, 1) := by decide +kernel
theorem dX12_remembers_11 : decode cX12_remembers 11 = .ok (.iload_n 1, 1) := by decide +kernel
theorem dX12_remembers_12 : decode cX12_remembers 12 = .ok (.sipush 8041, 3) := by decide +kernel
theorem dX12_remembers_15 : decode cX12_remembers 15 = .ok (.if_icmp .ge 25, 3) := by decide +kernel
theorem dX12_remembers_18 : decode cX12_remembers 18 = .ok (.aload_n 0, 1) := by decide +kernel
theorem dX12_remembers_19 : decode cX12_remembers 19 = .ok (.getfield 26, 3) := by decide +kernel
theorem dX12_remembers_22 : decode cX12_remembers 22 = .ok (.iload_n 1, 1) := by decide +kernel
theorem dX12_remembers_23 : decode cX12_remembers 23 = .ok (.aload_n 0, 1) := by decide +kernel
theorem dX12_remembers_24 : decode cX12_remembers 24 = .ok (.getfield 26, 3) := by decide +kernel
theorem dX12_remembers_27 : decode cX12_remembers 27 = .ok (.iload_n 1, 1) := by decide +kernel
theorem dX12_remembers_28 : decode cX12_remembers 28 = .ok (.sipush 731, 3) := by decide +kernel
theorem dX12_remembers_31 : decode cX12_remembers 31 = .ok (.iadd, 1) := by decide +kernel
theorem dX12_remembers_32 : decode cX12_remembers 32 = .ok (.iaload, 1) := by decide +kernel
theorem dX12_remembers_33 : decode cX12_remembers 33 = .ok (.iastore, 1) := by decide +kernel
theorem dX12_remembers_34 : decode cX12_remembers 34 = .ok (.iinc 1 1, 3) := by decide +kernel
theorem dX12_remembers_37 : decode cX12_remembers 37 = .ok (.goto (-26), 3) := by decide +kernel
theorem dX12_remembers_40 : decode cX12_remembers 40 = .ok (.goto 13, 3) := by decide +kernel
theorem dX12_remembers_43 : decode cX12_remembers 43 = .ok (.aload_n 0, 1) := by decide +kernel
theorem dX12_remembers_44 : decode cX12_remembers 44 = .ok (.dup, 1) := by decide +kernel
theorem dX12_remembers_45 : decode cX12_remembers 45 = .ok (.getfield 60, 3) := by decide +kernel
theorem dX12_remembers_48 : decode cX12_remembers 48 = .ok (.iconst 1, 1) := by decide +kernel
theorem dX12_remembers_49 : decode cX12_remembers 49 = .ok (.iadd, 1) := by decide +kernel
theorem dX12_remembers_50 : decode cX12_remembers 50 = .ok (.putfield 60, 3) := by decide +kernel
theorem dX12_remembers_53 : decode cX12_remembers 53 = .ok (.iconst 0, 1) := by decide +kernel
theorem dX12_remembers_54 : decode cX12_remembers 54 = .ok (.istore_n 1, 1) := by decide +kernel
theorem dX12_remembers_55 : decode cX12_remembers 55 = .ok (.iload_n 1, 1) := by decide +kernel
theorem dX12_remembers_56 : decode cX12_remembers 56 = .ok (.sipush 731, 3) := by decide +kernel
theorem dX12_remembers_59 : decode cX12_remembers 59 = .ok (.if_icmp .ge 32, 3) := by decide +kernel
theorem dX12_remembers_62 : decode cX12_remembers 62 = .ok (.aload_n 0, 1) := by decide +kernel
theorem dX12_remembers_63 : decode cX12_remembers 63 = .ok (.getfield 26, 3) := by decide +kernel
theorem dX12_remembers_66 : decode cX12_remembers 66 = .ok (.sipush 731, 3) := by decide +kernel
theorem dX12_remembers_69 : decode cX12_remembers 69 = .ok (.aload_n 0, 1) := by decide +kernel
theorem dX12_remembers_70 : decode cX12_remembers 70 = .ok (.getfield 60, 3) := by decide +kernel
theorem dX12_remembers_73 : decode cX12_remembers 73 = .ok (.iconst 1, 1) := by decide +kernel
theorem dX12_remembers_74 : decode cX12_remembers 74 = .ok (.isub, 1) := by decide +kernel
theorem dX12_remembers_75 : decode cX12_remembers 75 = .ok (.imul, 1) := by decide +kernel
theorem dX12_remembers_76 : decode cX12_remembers 76 = .ok (.iload_n 1, 1) := by decide +kernel
theorem dX12_remembers_77 : decode cX12_remembers 77 = .ok (.iadd, 1) := by decide +kernel
theorem dX12_remembers_78 : decode cX12_remembers 78 = .ok (.aload_n 0, 1) := by decide +kernel
theorem dX12_remembers_79 : decode cX12_remembers 79 = .ok (.getfield 13, 3) := by decide +kernel
theorem dX12_remembers_82 : decode cX12_remembers 82 = .ok (.iload_n 1, 1) := by decide +kernel
theorem dX12_remembers_83 : decode cX12_remembers 83 = .ok (.iaload, 1) := by decide +kernel
theorem dX12_remembers_84 : decode cX12_remembers 84 = .ok (.iastore, 1) := by decide +kernel
theorem dX12_remembers_85 : decode cX12_remembers 85 = .ok (.iinc 1 1, 3) := by decide +kernel
theorem dX12_remembers_88 : decode cX12_remembers 88 = .ok (.goto (-33), 3) := by decide +kernel
theorem dX12_remembers_91 : decode cX12_remembers 91 = .ok (.return_, 1) := by decide +kernel
theorem dX12_undo_0 : decode cX12_undo 0 = .ok (.aload_n 0, 1) := by decide +kernel
theorem dX12_undo_1 : decode cX12_undo 1 = .ok (.iconst 0, 1) := by decide +kernel
theorem dX12_undo_2 : decode cX12_undo 2 = .ok (.putfield 3, 3) := by decide +kernel
theorem dX12_undo_5 : decode cX12_undo 5 = .ok (.aload_n 0, 1) := by decide +kernel
theorem dX12_undo_6 : decode cX12_undo 6 = .ok (.getfield 60, 3) := by decide +kernel
theorem dX12_undo_9 : decode cX12_undo 9 = .ok (.ifCond .ne 5, 3) := by decide +kernel
theorem dX12_undo_12 : decode cX12_undo 12 = .ok (.iconst 0, 1) := by decide +kernel
theorem dX12_undo_13 : decode cX12_undo 13 = .ok (.ireturn, 1) := by decide +kernel
theorem dX12_undo_14 : decode cX12_undo 14 = .ok (.aload_n 0, 1) := by decide +kernel
theorem dX12_undo_15 : decode cX12_undo 15 = .ok (.dup, 1) := by decide +kernel
theorem dX12_undo_16 : decode cX12_undo 16 = .ok (.getfield 60, 3) := by decide +kernel
theorem dX12_undo_19 : decode cX12_undo 19 = .ok (.iconst 1, 1) := by decide +kernel
theorem dX12_undo_20 : decode cX12_undo 20 = .ok (.isub, 1) := by decide +kernel
theorem dX12_undo_21 : decode cX12_undo 21 = .ok (.putfield 60, 3) := by decide +kernel
theorem dX12_undo_24 : decode cX12_undo 24 = .ok (.iconst 0, 1) := by decide +kernel
theorem dX12_undo_25 : decode cX12_undo 25 = .ok (.istore_n 1, 1) := by decide +kernel
theorem dX12_undo_26 : decode cX12_undo 26 = .ok (.iload_n 1, 1) := by decide +kernel
theorem dX12_undo_27 : decode cX12_undo 27 = .ok (.sipush 731, 3) := by decide +kernel
theorem dX12_undo_30 : decode cX12_undo 30 = .ok (.if_icmp .ge 30, 3) := by decide +kernel
theorem dX12_undo_33 : decode cX12_undo 33 = .ok (.aload_n 0, 1) := by decide +kernel
theorem dX12_undo_34 : decode cX12_undo 34 = .ok (.getfield 13, 3) := by decide +kernel
theorem dX12_undo_37 : decode cX12_undo 37 = .ok (.iload_n 1, 1) := by decide +kernel
theorem dX12_undo_38 : decode cX12_undo 38 = .ok (.aload_n 0, 1) := by decide +kernel
theorem dX12_undo_39 : decode cX12_undo 39 = .ok (.getfield 26, 3) := by decide +kernel
theorem dX12_undo_42 : decode cX12_undo 42 = .ok (.sipush 731, 3) := by decide +kernel
theorem dX12_undo_45 : decode cX12_undo 45 = .ok (.aload_n 0, 1) := by decide +kernel
theorem dX12_undo_46 : decode cX12_undo 46 = .ok (.getfield 60, 3) := by decide +kernel
theorem dX12_undo_49 : decode cX12_undo 49 = .ok (.imul, 1) := by decide +kernel
theorem dX12_undo_50 : decode cX12_undo 50 = .ok (.iload_n 1, 1) := by decide +kernel
theorem dX12_undo_51 : decode cX12_undo 51 = .ok (.iadd, 1) := by decide +kernel
theorem dX12_undo_52 : decode cX12_undo 52 = .ok (.iaload, 1) := by decide +kernel
theorem dX12_undo_53 : decode cX12_undo 53 = .ok (.iastore, 1) := by decide +kernel
theorem dX12_undo_54 : decode cX12_undo 54 = .ok (.iinc 1 1, 3) := by decide +kernel
theorem dX12_undo_57 : decode cX12_undo 57 = .ok (.goto (-31), 3) := by decide +kernel
theorem dX12_undo_60 : decode cX12_undo 60 = .ok (.iconst 1, 1) := by decide +kernel
theorem dX12_undo_61 : decode cX12_undo 61 = .ok (.ireturn, 1) := by decide +kernel
theorem dX12_memories_0 : decode cX12_memories 0 = .ok (.aload_n 0, 1) := by decide +kernel
theorem dX12_memories_1 : decode cX12_memories 1 = .ok (.getfield 13, 3) := by decide +kernel
theorem dX12_memories_4 : decode cX12_memories 4 = .ok (.iconst 0, 1) := by decide +kernel
theorem dX12_memories_5 : decode cX12_memories 5 = .ok (.iaload, 1) := by decide +kernel
theorem dX12_memories_6 : decode cX12_memories 6 = .ok (.ireturn, 1) := by decide +kernel
theorem dX12_soldiers_0 : decode cX12_soldiers 0 = .ok (.aload_n 0, 1) := by decide +kernel
theorem dX12_soldiers_1 : decode cX12_soldiers 1 = .ok (.getfield 13, 3) := by decide +kernel
theorem dX12_soldiers_4 : decode cX12_soldiers 4 = .ok (.iconst 1, 1) := by decide +kernel
theorem dX12_soldiers_5 : decode cX12_soldiers 5 = .ok (.iaload, 1) := by decide +kernel
theorem dX12_soldiers_6 : decode cX12_soldiers 6 = .ok (.ireturn, 1) := by decide +kernel
theorem dX12_orders_0 : decode cX12_orders 0 = .ok (.aload_n 0, 1) := by decide +kernel
theorem dX12_orders_1 : decode cX12_orders 1 = .ok (.getfield 13, 3) := by decide +kernel
theorem dX12_orders_4 : decode cX12_orders 4 = .ok (.iconst 2, 1) := by decide +kernel
theorem dX12_orders_5 : decode cX12_orders 5 = .ok (.iaload, 1) := by decide +kernel
theorem dX12_orders_6 : decode cX12_orders 6 = .ok (.ireturn, 1) := by decide +kernel
theorem dX12_ofMemory_0 : decode cX12_ofMemory 0 = .ok (.aload_n 0, 1) := by decide +kernel
theorem dX12_ofMemory_1 : decode cX12_ofMemory 1 = .ok (.getfield 13, 3) := by decide +kernel
theorem dX12_ofMemory_4 : decode cX12_ofMemory 4 = .ok (.bipush 13, 2) := by decide +kernel
theorem dX12_ofMemory_6 : decode cX12_ofMemory 6 = .ok (.iconst 3, 1) := by decide +kernel
theorem dX12_ofMemory_7 : decode cX12_ofMemory 7 = .ok (.iload_n 1, 1) := by decide +kernel
theorem dX12_ofMemory_8 : decode cX12_ofMemory 8 = .ok (.imul, 1) := by decide +kernel
theorem dX12_ofMemory_9 : decode cX12_ofMemory 9 = .ok (.iadd, 1) := by decide +kernel
theorem dX12_ofMemory_10 : decode cX12_ofMemory 10 = .ok (.iload_n 2, 1) := by decide +kernel
theorem dX12_ofMemory_11 : decode cX12_ofMemory 11 = .ok (.iadd, 1) := by decide +kernel
theorem dX12_ofMemory_12 : decode cX12_ofMemory 12 = .ok (.iaload, 1) := by decide +kernel
theorem dX12_ofMemory_13 : decode cX12_ofMemory 13 = .ok (.ireturn, 1) := by decide +kernel
theorem dX12_of_0 : decode cX12_of 0 = .ok (.aload_n 0, 1) := by decide +kernel
theorem dX12_of_1 : decode cX12_of 1 = .ok (.getfield 13, 3) := by decide +kernel
theorem dX12_of_4 : decode cX12_of 4 = .ok (.bipush 61, 2) := by decide +kernel
theorem dX12_of_6 : decode cX12_of 6 = .ok (.bipush 23, 2) := by decide +kernel
theorem dX12_of_8 : decode cX12_of 8 = .ok (.iload_n 1, 1) := by decide +kernel
theorem dX12_of_9 : decode cX12_of 9 = .ok (.imul, 1) := by decide +kernel
theorem dX12_of_10 : decode cX12_of 10 = .ok (.iadd, 1) := by decide +kernel
theorem dX12_of_11 : decode cX12_of 11 = .ok (.iload_n 2, 1) := by decide +kernel
theorem dX12_of_12 : decode cX12_of 12 = .ok (.iadd, 1) := by decide +kernel
theorem dX12_of_13 : decode cX12_of 13 = .ok (.iaload, 1) := by decide +kernel
theorem dX12_of_14 : decode cX12_of 14 = .ok (.ireturn, 1) := by decide +kernel
theorem dX12_sets_0 : decode cX12_sets 0 = .ok (.aload_n 0, 1) := by decide +kernel
theorem dX12_sets_1 : decode cX12_sets 1 = .ok (.getfield 13, 3) := by decide +kernel
theorem dX12_sets_4 : decode cX12_sets 4 = .ok (.bipush 61, 2) := by decide +kernel
theorem dX12_sets_6 : decode cX12_sets 6 = .ok (.bipush 23, 2) := by decide +kernel
theorem dX12_sets_8 : decode cX12_sets 8 = .ok (.iload_n 1, 1) := by decide +kernel
theorem dX12_sets_9 : decode cX12_sets 9 = .ok (.imul, 1) := by decide +kernel
theorem dX12_sets_10 : decode cX12_sets 10 = .ok (.iadd, 1) := by decide +kernel
theorem dX12_sets_11 : decode cX12_sets 11 = .ok (.iload_n 2, 1) := by decide +kernel
theorem dX12_sets_12 : decode cX12_sets 12 = .ok (.iadd, 1) := by decide +kernel
theorem dX12_sets_13 : decode cX12_sets 13 = .ok (.iload_n 3, 1) := by decide +kernel
theorem dX12_sets_14 : decode cX12_sets 14 = .ok (.iastore, 1) := by decide +kernel
theorem dX12_sets_15 : decode cX12_sets 15 = .ok (.return_, 1) := by decide +kernel
theorem dX12_ofOrder_0 : decode cX12_ofOrder 0 = .ok (.aload_n 0, 1) := by decide +kernel
theorem dX12_ofOrder_1 : decode cX12_ofOrder 1 = .ok (.getfield 13, 3) := by decide +kernel
theorem dX12_ofOrder_4 : decode cX12_ofOrder 4 = .ok (.sipush 291, 3) := by decide +kernel
theorem dX12_ofOrder_7 : decode cX12_ofOrder 7 = .ok (.iconst 2, 1) := by decide +kernel
theorem dX12_ofOrder_8 : decode cX12_ofOrder 8 = .ok (.iload_n 1, 1) := by decide +kernel
theorem dX12_ofOrder_9 : decode cX12_ofOrder 9 = .ok (.imul, 1) := by decide +kernel
theorem dX12_ofOrder_10 : decode cX12_ofOrder 10 = .ok (.iadd, 1) := by decide +kernel
theorem dX12_ofOrder_11 : decode cX12_ofOrder 11 = .ok (.iload_n 2, 1) := by decide +kernel
theorem dX12_ofOrder_12 : decode cX12_ofOrder 12 = .ok (.iadd, 1) := by decide +kernel
theorem dX12_ofOrder_13 : decode cX12_ofOrder 13 = .ok (.iaload, 1) := by decide +kernel
theorem dX12_ofOrder_14 : decode cX12_ofOrder 14 = .ok (.ireturn, 1) := by decide +kernel
theorem dX12_ofField_0 : decode cX12_ofField 0 = .ok (.aload_n 0, 1) := by decide +kernel
theorem dX12_ofField_1 : decode cX12_ofField 1 = .ok (.getfield 13, 3) := by decide +kernel
theorem dX12_ofField_4 : decode cX12_ofField 4 = .ok (.sipush 311, 3) := by decide +kernel
theorem dX12_ofField_7 : decode cX12_ofField 7 = .ok (.iconst 3, 1) := by decide +kernel
theorem dX12_ofField_8 : decode cX12_ofField 8 = .ok (.iload_n 1, 1) := by decide +kernel
theorem dX12_ofField_9 : decode cX12_ofField 9 = .ok (.imul, 1) := by decide +kernel
theorem dX12_ofField_10 : decode cX12_ofField 10 = .ok (.iadd, 1) := by decide +kernel
theorem dX12_ofField_11 : decode cX12_ofField 11 = .ok (.iload_n 2, 1) := by decide +kernel
theorem dX12_ofField_12 : decode cX12_ofField 12 = .ok (.iadd, 1) := by decide +kernel
theorem dX12_ofField_13 : decode cX12_ofField 13 = .ok (.iaload, 1) := by decide +kernel
theorem dX12_ofField_14 : decode cX12_ofField 14 = .ok (.ireturn, 1) := by decide +kernel
theorem dX12_placeOf_0 : decode cX12_placeOf 0 = .ok (.aload_n 0, 1) := by decide +kernel
theorem dX12_placeOf_1 : decode cX12_placeOf 1 = .ok (.iload_n 1, 1) := by decide +kernel
theorem dX12_placeOf_2 : decode cX12_placeOf 2 = .ok (.iconst 3, 1) := by decide +kernel
theorem dX12_placeOf_3 : decode cX12_placeOf 3 = .ok (.aload_n 0, 1) := by decide +kernel
theorem dX12_placeOf_4 : decode cX12_placeOf 4 = .ok (.iload_n 1, 1) := by decide +kernel
theorem dX12_placeOf_5 : decode cX12_placeOf 5 = .ok (.iconst 1, 1) := by decide +kernel
theorem dX12_placeOf_6 : decode cX12_placeOf 6 = .ok (.invokevirtual 63, 3) := by decide +kernel
theorem dX12_placeOf_9 : decode cX12_placeOf 9 = .ok (.iadd, 1) := by decide +kernel
theorem dX12_placeOf_10 : decode cX12_placeOf 10 = .ok (.invokevirtual 63, 3) := by decide +kernel
theorem dX12_placeOf_13 : decode cX12_placeOf 13 = .ok (.ireturn, 1) := by decide +kernel
theorem dX12_noMemory_0 : decode cX12_noMemory 0 = .ok (.iload_n 1, 1) := by decide +kernel
theorem dX12_noMemory_1 : decode cX12_noMemory 1 = .ok (.iconst 0, 1) := by decide +kernel
theorem dX12_noMemory_2 : decode cX12_noMemory 2 = .ok (.aload_n 0, 1) := by decide +kernel
theorem dX12_noMemory_3 : decode cX12_noMemory 3 = .ok (.invokevirtual 67, 3) := by decide +kernel
theorem dX12_noMemory_6 : decode cX12_noMemory 6 = .ok (.iconst 1, 1) := by decide +kernel
theorem dX12_noMemory_7 : decode cX12_noMemory 7 = .ok (.isub, 1) := by decide +kernel
theorem dX12_noMemory_8 : decode cX12_noMemory 8 = .ok (.invokestatic 71, 3) := by decide +kernel
theorem dX12_noMemory_11 : decode cX12_noMemory 11 = .ok (.ifCond .ne 7, 3) := by decide +kernel
theorem dX12_noMemory_14 : decode cX12_noMemory 14 = .ok (.iconst 1, 1) := by decide +kernel
theorem dX12_noMemory_15 : decode cX12_noMemory 15 = .ok (.goto 4, 3) := by decide +kernel
theorem dX12_noMemory_18 : decode cX12_noMemory 18 = .ok (.iconst 0, 1) := by decide +kernel
theorem dX12_noMemory_19 : decode cX12_noMemory 19 = .ok (.ireturn, 1) := by decide +kernel
theorem dX12_noSoldier_0 : decode cX12_noSoldier 0 = .ok (.iload_n 1, 1) := by decide +kernel
theorem dX12_noSoldier_1 : decode cX12_noSoldier 1 = .ok (.iconst 0, 1) := by decide +kernel
theorem dX12_noSoldier_2 : decode cX12_noSoldier 2 = .ok (.aload_n 0, 1) := by decide +kernel
theorem dX12_noSoldier_3 : decode cX12_noSoldier 3 = .ok (.invokevirtual 75, 3) := by decide +kernel
theorem dX12_noSoldier_6 : decode cX12_noSoldier 6 = .ok (.iconst 1, 1) := by decide +kernel
theorem dX12_noSoldier_7 : decode cX12_noSoldier 7 = .ok (.isub, 1) := by decide +kernel
theorem dX12_noSoldier_8 : decode cX12_noSoldier 8 = .ok (.invokestatic 71, 3) := by decide +kernel
theorem dX12_noSoldier_11 : decode cX12_noSoldier 11 = .ok (.ifCond .ne 7, 3) := by decide +kernel
theorem dX12_noSoldier_14 : decode cX12_noSoldier 14 = .ok (.iconst 1, 1) := by decide +kernel
theorem dX12_noSoldier_15 : decode cX12_noSoldier 15 = .ok (.goto 4, 3) := by decide +kernel
theorem dX12_noSoldier_18 : decode cX12_noSoldier 18 = .ok (.iconst 0, 1) := by decide +kernel
theorem dX12_noSoldier_19 : decode cX12_noSoldier 19 = .ok (.ireturn, 1) := by decide +kernel
theorem dX12_noSide_0 : decode cX12_noSide 0 = .ok (.iload_n 0, 1) := by decide +kernel
theorem dX12_noSide_1 : decode cX12_noSide 1 = .ok (.iconst 0, 1) := by decide +kernel
theorem dX12_noSide_2 : decode cX12_noSide 2 = .ok (.iconst 1, 1) := by decide +kernel
theorem dX12_noSide_3 : decode cX12_noSide 3 = .ok (.invokestatic 71, 3) := by decide +kernel
theorem dX12_noSide_6 : decode cX12_noSide 6 = .ok (.ifCond .ne 7, 3) := by decide +kernel
theorem dX12_noSide_9 : decode cX12_noSide 9 = .ok (.iconst 1, 1) := by decide +kernel
theorem dX12_noSide_10 : decode cX12_noSide 10 = .ok (.goto 4, 3) := by decide +kernel
theorem dX12_noSide_13 : decode cX12_noSide 13 = .ok (.iconst 0, 1) := by decide +kernel
theorem dX12_noSide_14 : decode cX12_noSide 14 = .ok (.ireturn, 1) := by decide +kernel
theorem dX12_firstOf_0 : decode cX12_firstOf 0 = .ok (.iconst 0, 1) := by decide +kernel
theorem dX12_firstOf_1 : decode cX12_firstOf 1 = .ok (.istore_n 3, 1) := by decide +kernel
theorem dX12_firstOf_2 : decode cX12_firstOf 2 = .ok (.iconst 0, 1) := by decide +kernel
theorem dX12_firstOf_3 : decode cX12_firstOf 3 = .ok (.istore 4, 2) := by decide +kernel
theorem dX12_firstOf_5 : decode cX12_firstOf 5 = .ok (.iload 4, 2) := by decide +kernel
theorem dX12_firstOf_7 : decode cX12_firstOf 7 = .ok (.aload_n 0, 1) := by decide +kernel
theorem dX12_firstOf_8 : decode cX12_firstOf 8 = .ok (.iload_n 1, 1) := by decide +kernel
theorem dX12_firstOf_9 : decode cX12_firstOf 9 = .ok (.bipush 9, 2) := by decide +kernel
theorem dX12_firstOf_11 : decode cX12_firstOf 11 = .ok (.invokevirtual 63, 3) := by decide +kernel
theorem dX12_firstOf_14 : decode cX12_firstOf 14 = .ok (.if_icmp .ge 30, 3) := by decide +kernel
theorem dX12_firstOf_17 : decode cX12_firstOf 17 = .ok (.iload 4, 2) := by decide +kernel
theorem dX12_firstOf_19 : decode cX12_firstOf 19 = .ok (.iload_n 2, 1) := by decide +kernel
theorem dX12_firstOf_20 : decode cX12_firstOf 20 = .ok (.if_icmp .ge 24, 3) := by decide +kernel
theorem dX12_firstOf_23 : decode cX12_firstOf 23 = .ok (.iload_n 3, 1) := by decide +kernel
theorem dX12_firstOf_24 : decode cX12_firstOf 24 = .ok (.iconst 1, 1) := by decide +kernel
theorem dX12_firstOf_25 : decode cX12_firstOf 25 = .ok (.aload_n 0, 1) := by decide +kernel
theorem dX12_firstOf_26 : decode cX12_firstOf 26 = .ok (.iload_n 1, 1) := by decide +kernel
theorem dX12_firstOf_27 : decode cX12_firstOf 27 = .ok (.bipush 10, 2) := by decide +kernel
theorem dX12_firstOf_29 : decode cX12_firstOf 29 = .ok (.iload 4, 2) := by decide +kernel
theorem dX12_firstOf_31 : decode cX12_firstOf 31 = .ok (.iadd, 1) := by decide +kernel
theorem dX12_firstOf_32 : decode cX12_firstOf 32 = .ok (.invokevirtual 63, 3) := by decide +kernel
theorem dX12_firstOf_35 : decode cX12_firstOf 35 = .ok (.ishl, 1) := by decide +kernel
theorem dX12_firstOf_36 : decode cX12_firstOf 36 = .ok (.ior, 1) := by decide +kernel
theorem dX12_firstOf_37 : decode cX12_firstOf 37 = .ok (.istore_n 3, 1) := by decide +kernel
theorem dX12_firstOf_38 : decode cX12_firstOf 38 = .ok (.iinc 4 1, 3) := by decide +kernel
theorem dX12_firstOf_41 : decode cX12_firstOf 41 = .ok (.goto (-36), 3) := by decide +kernel
theorem dX12_firstOf_44 : decode cX12_firstOf 44 = .ok (.iload_n 3, 1) := by decide +kernel
theorem dX12_firstOf_45 : decode cX12_firstOf 45 = .ok (.ireturn, 1) := by decide +kernel
theorem dX12_knownOf_0 : decode cX12_knownOf 0 = .ok (.aload_n 0, 1) := by decide +kernel
theorem dX12_knownOf_1 : decode cX12_knownOf 1 = .ok (.iload_n 1, 1) := by decide +kernel
theorem dX12_knownOf_2 : decode cX12_knownOf 2 = .ok (.bipush 12, 2) := by decide +kernel
theorem dX12_knownOf_4 : decode cX12_knownOf 4 = .ok (.invokevirtual 78, 3) := by decide +kernel
theorem dX12_knownOf_7 : decode cX12_knownOf 7 = .ok (.ireturn, 1) := by decide +kernel
theorem dX12_usable_0 : decode cX12_usable 0 = .ok (.iconst 0, 1) := by decide +kernel
theorem dX12_usable_1 : decode cX12_usable 1 = .ok (.istore_n 2, 1) := by decide +kernel
theorem dX12_usable_2 : decode cX12_usable 2 = .ok (.iconst 0, 1) := by decide +kernel
theorem dX12_usable_3 : decode cX12_usable 3 = .ok (.istore_n 3, 1) := by decide +kernel
theorem dX12_usable_4 : decode cX12_usable 4 = .ok (.iload_n 3, 1) := by decide +kernel
theorem dX12_usable_5 : decode cX12_usable 5 = .ok (.aload_n 0, 1) := by decide +kernel
theorem dX12_usable_6 : decode cX12_usable 6 = .ok (.invokevirtual 67, 3) := by decide +kernel
theorem dX12_usable_9 : decode cX12_usable 9 = .ok (.if_icmp .ge 40, 3) := by decide +kernel
theorem dX12_usable_12 : decode cX12_usable 12 = .ok (.iload_n 2, 1) := by decide +kernel
theorem dX12_usable_13 : decode cX12_usable 13 = .ok (.iload_n 1, 1) := by decide +kernel
theorem dX12_usable_14 : decode cX12_usable 14 = .ok (.iload_n 3, 1) := by decide +kernel
theorem dX12_usable_15 : decode cX12_usable 15 = .ok (.invokestatic 81, 3) := by decide +kernel
theorem dX12_usable_18 : decode cX12_usable 18 = .ok (.ifCond .eq 22, 3) := by decide +kernel
theorem dX12_usable_21 : decode cX12_usable 21 = .ok (.aload_n 0, 1) := by decide +kernel
theorem dX12_usable_22 : decode cX12_usable 22 = .ok (.iload_n 3, 1) := by decide +kernel
theorem dX12_usable_23 : decode cX12_usable 23 = .ok (.iconst 1, 1) := by decide +kernel
theorem dX12_usable_24 : decode cX12_usable 24 = .ok (.invokevirtual 85, 3) := by decide +kernel
theorem dX12_usable_27 : decode cX12_usable 27 = .ok (.iload_n 2, 1) := by decide +kernel
theorem dX12_usable_28 : decode cX12_usable 28 = .ok (.iconst (-1), 1) := by decide +kernel
theorem dX12_usable_29 : decode cX12_usable 29 = .ok (.ixor, 1) := by decide +kernel
theorem dX12_usable_30 : decode cX12_usable 30 = .ok (.iand, 1) := by decide +kernel
theorem dX12_usable_31 : decode cX12_usable 31 = .ok (.ifCond .ne 9, 3) := by decide +kernel
theorem dX12_usable_34 : decode cX12_usable 34 = .ok (.iconst 1, 1) := by decide +kernel
theorem dX12_usable_35 : decode cX12_usable 35 = .ok (.iload_n 3, 1) := by decide +kernel
theorem dX12_usable_36 : decode cX12_usable 36 = .ok (.ishl, 1) := by decide +kernel
theorem dX12_usable_37 : decode cX12_usable 37 = .ok (.goto 4, 3) := by decide +kernel
theorem dX12_usable_40 : decode cX12_usable 40 = .ok (.iconst 0, 1) := by decide +kernel
theorem dX12_usable_41 : decode cX12_usable 41 = .ok (.ior, 1) := by decide +kernel
theorem dX12_usable_42 : decode cX12_usable 42 = .ok (.istore_n 2, 1) := by decide +kernel
theorem dX12_usable_43 : decode cX12_usable 43 = .ok (.iinc 3 1, 3) := by decide +kernel
theorem dX12_usable_46 : decode cX12_usable 46 = .ok (.goto (-42), 3) := by decide +kernel
theorem dX12_usable_49 : decode cX12_usable 49 = .ok (.iload_n 2, 1) := by decide +kernel
theorem dX12_usable_50 : decode cX12_usable 50 = .ok (.ireturn, 1) := by decide +kernel
theorem dX12_usableOf_0 : decode cX12_usableOf 0 = .ok (.aload_n 0, 1) := by decide +kernel
theorem dX12_usableOf_1 : decode cX12_usableOf 1 = .ok (.aload_n 0, 1) := by decide +kernel
theorem dX12_usableOf_2 : decode cX12_usableOf 2 = .ok (.iload_n 1, 1) := by decide +kernel
theorem dX12_usableOf_3 : decode cX12_usableOf 3 = .ok (.invokevirtual 88, 3) := by decide +kernel
theorem dX12_usableOf_6 : decode cX12_usableOf 6 = .ok (.invokevirtual 92, 3) := by decide +kernel
theorem dX12_usableOf_9 : decode cX12_usableOf 9 = .ok (.ireturn, 1) := by decide +kernel
theorem dX12_draw_0 : decode cX12_draw 0 = .ok (.aload_n 0, 1) := by decide +kernel
theorem dX12_draw_1 : decode cX12_draw 1 = .ok (.getfield 13, 3) := by decide +kernel
theorem dX12_draw_4 : decode cX12_draw 4 = .ok (.bipush 10, 2) := by decide +kernel
theorem dX12_draw_6 : decode cX12_draw 6 = .ok (.ldc 95, 2) := by decide +kernel
theorem dX12_draw_8 : decode cX12_draw 8 = .ok (.aload_n 0, 1) := by decide +kernel
theorem dX12_draw_9 : decode cX12_draw 9 = .ok (.getfield 13, 3) := by decide +kernel
theorem dX12_draw_12 : decode cX12_draw 12 = .ok (.bipush 10, 2) := by decide +kernel
theorem dX12_draw_14 : decode cX12_draw 14 = .ok (.iaload, 1) := by decide +kernel
theorem dX12_draw_15 : decode cX12_draw 15 = .ok (.imul, 1) := by decide +kernel
theorem dX12_draw_16 : decode cX12_draw 16 = .ok (.sipush 12345, 3) := by decide +kernel
theorem dX12_draw_19 : decode cX12_draw 19 = .ok (.iadd, 1) := by decide +kernel
theorem dX12_draw_20 : decode cX12_draw 20 = .ok (.iastore, 1) := by decide +kernel
theorem dX12_draw_21 : decode cX12_draw 21 = .ok (.aload_n 0, 1) := by decide +kernel
theorem dX12_draw_22 : decode cX12_draw 22 = .ok (.getfield 13, 3) := by decide +kernel
theorem dX12_draw_25 : decode cX12_draw 25 = .ok (.bipush 10, 2) := by decide +kernel
theorem dX12_draw_27 : decode cX12_draw 27 = .ok (.iaload, 1) := by decide +kernel
theorem dX12_draw_28 : decode cX12_draw 28 = .ok (.bipush 16, 2) := by decide +kernel
theorem dX12_draw_30 : decode cX12_draw 30 = .ok (.ishr, 1) := by decide +kernel
theorem dX12_draw_31 : decode cX12_draw 31 = .ok (.sipush 32767, 3) := by decide +kernel
theorem dX12_draw_34 : decode cX12_draw 34 = .ok (.iand, 1) := by decide +kernel
theorem dX12_draw_35 : decode cX12_draw 35 = .ok (.iload_n 1, 1) := by decide +kernel
theorem dX12_draw_36 : decode cX12_draw 36 = .ok (.irem, 1) := by decide +kernel
theorem dX12_draw_37 : decode cX12_draw 37 = .ok (.ireturn, 1) := by decide +kernel
theorem dX12_feed_0 : decode cX12_feed 0 = .ok (.aload_n 0, 1) := by decide +kernel
theorem dX12_feed_1 : decode cX12_feed 1 = .ok (.iconst 0, 1) := by decide +kernel
theorem dX12_feed_2 : decode cX12_feed 2 = .ok (.putfield 3, 3) := by decide +kernel
theorem dX12_feed_5 : decode cX12_feed 5 = .ok (.aload_n 0, 1) := by decide +kernel
theorem dX12_feed_6 : decode cX12_feed 6 = .ok (.getfield 96, 3) := by decide +kernel
theorem dX12_feed_9 : decode cX12_feed 9 = .ok (.bipush 20, 2) := by decide +kernel
theorem dX12_feed_11 : decode cX12_feed 11 = .ok (.iadd, 1) := by decide +kernel
theorem dX12_feed_12 : decode cX12_feed 12 = .ok (.sipush 400, 3) := by decide +kernel
theorem dX12_feed_15 : decode cX12_feed 15 = .ok (.if_icmp .le 5, 3) := by decide +kernel
theorem dX12_feed_18 : decode cX12_feed 18 = .ok (.iconst (-1), 1) := by decide +kernel
theorem dX12_feed_19 : decode cX12_feed 19 = .ok (.ireturn, 1) := by decide +kernel
theorem dX12_feed_20 : decode cX12_feed 20 = .ok (.aload_n 0, 1) := by decide +kernel
theorem dX12_feed_21 : decode cX12_feed 21 = .ok (.getfield 36, 3) := by decide +kernel
theorem dX12_feed_24 : decode cX12_feed 24 = .ok (.iconst 0, 1) := by decide +kernel
theorem dX12_feed_25 : decode cX12_feed 25 = .ok (.iload_n 1, 1) := by decide +kernel
theorem dX12_feed_26 : decode cX12_feed 26 = .ok (.iastore, 1) := by decide +kernel
theorem dX12_feed_27 : decode cX12_feed 27 = .ok (.aload_n 0, 1) := by decide +kernel
theorem dX12_feed_28 : decode cX12_feed 28 = .ok (.getfield 36, 3) := by decide +kernel
theorem dX12_feed_31 : decode cX12_feed 31 = .ok (.iconst 1, 1) := by decide +kernel
theorem dX12_feed_32 : decode cX12_feed 32 = .ok (.iload_n 2, 1) := by decide +kernel
theorem dX12_feed_33 : decode cX12_feed 33 = .ok (.iastore, 1) := by decide +kernel
theorem dX12_feed_34 : decode cX12_feed 34 = .ok (.aload_n 0, 1) := by decide +kernel
theorem dX12_feed_35 : decode cX12_feed 35 = .ok (.getfield 36, 3) := by decide +kernel
theorem dX12_feed_38 : decode cX12_feed 38 = .ok (.iconst 2, 1) := by decide +kernel
theorem dX12_feed_39 : decode cX12_feed 39 = .ok (.iload_n 3, 1) := by decide +kernel
theorem dX12_feed_40 : decode cX12_feed 40 = .ok (.iastore, 1) := by decide +kernel
theorem dX12_feed_41 : decode cX12_feed 41 = .ok (.aload_n 0, 1) := by decide +kernel
theorem dX12_feed_42 : decode cX12_feed 42 = .ok (.getfield 36, 3) := by decide +kernel
theorem dX12_feed_45 : decode cX12_feed 45 = .ok (.iconst 3, 1) := by decide +kernel
theorem dX12_feed_46 : decode cX12_feed 46 = .ok (.iload 4, 2) := by decide +kernel
theorem dX12_feed_48 : decode cX12_feed 48 = .ok (.iastore, 1) := by decide +kernel
theorem dX12_feed_49 : decode cX12_feed 49 = .ok (.aload_n 0, 1) := by decide +kernel
theorem dX12_feed_50 : decode cX12_feed 50 = .ok (.getfield 36, 3) := by decide +kernel
theorem dX12_feed_53 : decode cX12_feed 53 = .ok (.iconst 4, 1) := by decide +kernel
theorem dX12_feed_54 : decode cX12_feed 54 = .ok (.iload 5, 2) := by decide +kernel
theorem dX12_feed_56 : decode cX12_feed 56 = .ok (.iastore, 1) := by decide +kernel
theorem dX12_feed_57 : decode cX12_feed 57 = .ok (.iconst 0, 1) := by decide +kernel
theorem dX12_feed_58 : decode cX12_feed 58 = .ok (.istore 6, 2) := by decide +kernel
theorem dX12_feed_60 : decode cX12_feed 60 = .ok (.iload 6, 2) := by decide +kernel
theorem dX12_feed_62 : decode cX12_feed 62 = .ok (.bipush 20, 2) := by decide +kernel
theorem dX12_feed_64 : decode cX12_feed 64 = .ok (.if_icmp .ge 42, 3) := by decide +kernel
theorem dX12_feed_67 : decode cX12_feed 67 = .ok (.aload_n 0, 1) := by decide +kernel
theorem dX12_feed_68 : decode cX12_feed 68 = .ok (.getfield 29, 3) := by decide +kernel
theorem dX12_feed_71 : decode cX12_feed 71 = .ok (.aload_n 0, 1) := by decide +kernel
theorem dX12_feed_72 : decode cX12_feed 72 = .ok (.getfield 96, 3) := by decide +kernel
theorem dX12_feed_75 : decode cX12_feed 75 = .ok (.iload 6, 2) := by decide +kernel
theorem dX12_feed_77 : decode cX12_feed 77 = .ok (.iadd, 1) := by decide +kernel
theorem dX12_feed_78 : decode cX12_feed 78 = .ok (.aload_n 0, 1) := by decide +kernel
theorem dX12_feed_79 : decode cX12_feed 79 = .ok (.getfield 36, 3) := by decide +kernel
theorem dX12_feed_82 : decode cX12_feed 82 = .ok (.iload 6, 2) := by decide +kernel
theorem dX12_feed_84 : decode cX12_feed 84 = .ok (.iconst 4, 1) := by decide +kernel
theorem dX12_feed_85 : decode cX12_feed 85 = .ok (.idiv, 1) := by decide +kernel
theorem dX12_feed_86 : decode cX12_feed 86 = .ok (.iaload, 1) := by decide +kernel
theorem dX12_feed_87 : decode cX12_feed 87 = .ok (.bipush 24, 2) := by decide +kernel
theorem dX12_feed_89 : decode cX12_feed 89 = .ok (.bipush 8, 2) := by decide +kernel
theorem dX12_feed_91 : decode cX12_feed 91 = .ok (.iload 6, 2) := by decide +kernel
theorem dX12_feed_93 : decode cX12_feed 93 = .ok (.iconst 4, 1) := by decide +kernel
theorem dX12_feed_94 : decode cX12_feed 94 = .ok (.irem, 1) := by decide +kernel
theorem dX12_feed_95 : decode cX12_feed 95 = .ok (.imul, 1) := by decide +kernel
theorem dX12_feed_96 : decode cX12_feed 96 = .ok (.isub, 1) := by decide +kernel
theorem dX12_feed_97 : decode cX12_feed 97 = .ok (.ishr, 1) := by decide +kernel
theorem dX12_feed_98 : decode cX12_feed 98 = .ok (.i2b, 1) := by decide +kernel
theorem dX12_feed_99 : decode cX12_feed 99 = .ok (.bastore, 1) := by decide +kernel
theorem dX12_feed_100 : decode cX12_feed 100 = .ok (.iinc 6 1, 3) := by decide +kernel
theorem dX12_feed_103 : decode cX12_feed 103 = .ok (.goto (-43), 3) := by decide +kernel
theorem dX12_feed_106 : decode cX12_feed 106 = .ok (.aload_n 0, 1) := by decide +kernel
theorem dX12_feed_107 : decode cX12_feed 107 = .ok (.dup, 1) := by decide +kernel
theorem dX12_feed_108 : decode cX12_feed 108 = .ok (.getfield 96, 3) := by decide +kernel
theorem dX12_feed_111 : decode cX12_feed 111 = .ok (.bipush 20, 2) := by decide +kernel
theorem dX12_feed_113 : decode cX12_feed 113 = .ok (.iadd, 1) := by decide +kernel
theorem dX12_feed_114 : decode cX12_feed 114 = .ok (.putfield 96, 3) := by decide +kernel
theorem dX12_feed_117 : decode cX12_feed 117 = .ok (.aload_n 0, 1) := by decide +kernel
theorem dX12_feed_118 : decode cX12_feed 118 = .ok (.getfield 96, 3) := by decide +kernel
theorem dX12_feed_121 : decode cX12_feed 121 = .ok (.ireturn, 1) := by decide +kernel
theorem dX12_end_0 : decode cX12_end 0 = .ok (.aload_n 0, 1) := by decide +kernel
theorem dX12_end_1 : decode cX12_end 1 = .ok (.iconst 0, 1) := by decide +kernel
theorem dX12_end_2 : decode cX12_end 2 = .ok (.putfield 3, 3) := by decide +kernel
theorem dX12_end_5 : decode cX12_end 5 = .ok (.iload_n 1, 1) := by decide +kernel
theorem dX12_end_6 : decode cX12_end 6 = .ok (.ifCond .lt 11, 3) := by decide +kernel
theorem dX12_end_9 : decode cX12_end 9 = .ok (.iload_n 1, 1) := by decide +kernel
theorem dX12_end_10 : decode cX12_end 10 = .ok (.aload_n 0, 1) := by decide +kernel
theorem dX12_end_11 : decode cX12_end 11 = .ok (.getfield 96, 3) := by decide +kernel
theorem dX12_end_14 : decode cX12_end 14 = .ok (.if_icmp .le 5, 3) := by decide +kernel
theorem dX12_end_17 : decode cX12_end 17 = .ok (.iconst 0, 1) := by decide +kernel
theorem dX12_end_18 : decode cX12_end 18 = .ok (.ireturn, 1) := by decide +kernel
theorem dX12_end_19 : decode cX12_end 19 = .ok (.aload_n 0, 1) := by decide +kernel
theorem dX12_end_20 : decode cX12_end 20 = .ok (.iload_n 1, 1) := by decide +kernel
theorem dX12_end_21 : decode cX12_end 21 = .ok (.putfield 96, 3) := by decide +kernel
theorem dX12_end_24 : decode cX12_end 24 = .ok (.iconst 1, 1) := by decide +kernel
theorem dX12_end_25 : decode cX12_end 25 = .ok (.ireturn, 1) := by decide +kernel
theorem dX12_isAt_0 : decode cX12_isAt 0 = .ok (.aload_n 0, 1) := by decide +kernel
theorem dX12_isAt_1 : decode cX12_isAt 1 = .ok (.getfield 99, 3) := by decide +kernel
theorem dX12_isAt_4 : decode cX12_isAt 4 = .ok (.aload_n 0, 1) := by decide +kernel
theorem dX12_isAt_5 : decode cX12_isAt 5 = .ok (.getfield 102, 3) := by decide +kernel
theorem dX12_isAt_8 : decode cX12_isAt 8 = .ok (.if_icmp .ge 33, 3) := by decide +kernel
theorem dX12_isAt_11 : decode cX12_isAt 11 = .ok (.aload_n 0, 1) := by decide +kernel
theorem dX12_isAt_12 : decode cX12_isAt 12 = .ok (.getfield 29, 3) := by decide +kernel
theorem dX12_isAt_15 : decode cX12_isAt 15 = .ok (.aload_n 0, 1) := by decide +kernel
theorem dX12_isAt_16 : decode cX12_isAt 16 = .ok (.getfield 99, 3) := by decide +kernel
theorem dX12_isAt_19 : decode cX12_isAt 19 = .ok (.baload, 1) := by decide +kernel
theorem dX12_isAt_20 : decode cX12_isAt 20 = .ok (.iload_n 1, 1) := by decide +kernel
theorem dX12_isAt_21 : decode cX12_isAt 21 = .ok (.if_icmp .lt 20, 3) := by decide +kernel
theorem dX12_isAt_24 : decode cX12_isAt 24 = .ok (.aload_n 0, 1) := by decide +kernel
theorem dX12_isAt_25 : decode cX12_isAt 25 = .ok (.getfield 29, 3) := by decide +kernel
theorem dX12_isAt_28 : decode cX12_isAt 28 = .ok (.aload_n 0, 1) := by decide +kernel
theorem dX12_isAt_29 : decode cX12_isAt 29 = .ok (.getfield 99, 3) := by decide +kernel
theorem dX12_isAt_32 : decode cX12_isAt 32 = .ok (.baload, 1) := by decide +kernel
theorem dX12_isAt_33 : decode cX12_isAt 33 = .ok (.iload_n 2, 1) := by decide +kernel
theorem dX12_isAt_34 : decode cX12_isAt 34 = .ok (.if_icmp .gt 7, 3) := by decide +kernel
theorem dX12_isAt_37 : decode cX12_isAt 37 = .ok (.iconst 1, 1) := by decide +kernel
theorem dX12_isAt_38 : decode cX12_isAt 38 = .ok (.goto 4, 3) := by decide +kernel
theorem dX12_isAt_41 : decode cX12_isAt 41 = .ok (.iconst 0, 1) := by decide +kernel
theorem dX12_isAt_42 : decode cX12_isAt 42 = .ok (.ireturn, 1) := by decide +kernel
theorem dX12_blanks_0 : decode cX12_blanks 0 = .ok (.aload_n 0, 1) := by decide +kernel
theorem dX12_blanks_1 : decode cX12_blanks 1 = .ok (.bipush 32, 2) := by decide +kernel
theorem dX12_blanks_3 : decode cX12_blanks 3 = .ok (.bipush 32, 2) := by decide +kernel
theorem dX12_blanks_5 : decode cX12_blanks 5 = .ok (.invokevirtual 105, 3) := by decide +kernel
theorem dX12_blanks_8 : decode cX12_blanks 8 = .ok (.ifCond .eq 16, 3) := by decide +kernel
theorem dX12_blanks_11 : decode cX12_blanks 11 = .ok (.aload_n 0, 1) := by decide +kernel
theorem dX12_blanks_12 : decode cX12_blanks 12 = .ok (.dup, 1) := by decide +kernel
theorem dX12_blanks_13 : decode cX12_blanks 13 = .ok (.getfield 99, 3) := by decide +kernel
theorem dX12_blanks_16 : decode cX12_blanks 16 = .ok (.iconst 1, 1) := by decide +kernel
theorem dX12_blanks_17 : decode cX12_blanks 17 = .ok (.iadd, 1) := by decide +kernel
theorem dX12_blanks_18 : decode cX12_blanks 18 = .ok (.putfield 99, 3) := by decide +kernel
theorem dX12_blanks_21 : decode cX12_blanks 21 = .ok (.goto (-21), 3) := by decide +kernel
theorem dX12_blanks_24 : decode cX12_blanks 24 = .ok (.aload_n 0, 1) := by decide +kernel
theorem dX12_blanks_25 : decode cX12_blanks 25 = .ok (.aload_n 0, 1) := by decide +kernel
theorem dX12_blanks_26 : decode cX12_blanks 26 = .ok (.getfield 99, 3) := by decide +kernel
theorem dX12_blanks_29 : decode cX12_blanks 29 = .ok (.putfield 108, 3) := by decide +kernel
theorem dX12_blanks_32 : decode cX12_blanks 32 = .ok (.return_, 1) := by decide +kernel
theorem dX12_letters_0 : decode cX12_letters 0 = .ok (.aload_n 0, 1) := by decide +kernel
theorem dX12_letters_1 : decode cX12_letters 1 = .ok (.invokevirtual 111, 3) := by decide +kernel
theorem dX12_letters_4 : decode cX12_letters 4 = .ok (.aload_n 0, 1) := by decide +kernel
theorem dX12_letters_5 : decode cX12_letters 5 = .ok (.bipush 97, 2) := by decide +kernel
theorem dX12_letters_7 : decode cX12_letters 7 = .ok (.bipush 122, 2) := by decide +kernel
theorem dX12_letters_9 : decode cX12_letters 9 = .ok (.invokevirtual 105, 3) := by decide +kernel
theorem dX12_letters_12 : decode cX12_letters 12 = .ok (.ifCond .eq 16, 3) := by decide +kernel
theorem dX12_letters_15 : decode cX12_letters 15 = .ok (.aload_n 0, 1) := by decide +kernel
theorem dX12_letters_16 : decode cX12_letters 16 = .ok (.dup, 1) := by decide +kernel
theorem dX12_letters_17 : decode cX12_letters 17 = .ok (.getfield 99, 3) := by decide +kernel
theorem dX12_letters_20 : decode cX12_letters 20 = .ok (.iconst 1, 1) := by decide +kernel
theorem dX12_letters_21 : decode cX12_letters 21 = .ok (.iadd, 1) := by decide +kernel
theorem dX12_letters_22 : decode cX12_letters 22 = .ok (.putfield 99, 3) := by decide +kernel
theorem dX12_letters_25 : decode cX12_letters 25 = .ok (.goto (-21), 3) := by decide +kernel
theorem dX12_letters_28 : decode cX12_letters 28 = .ok (.return_, 1) := by decide +kernel
theorem dX12_isWord_0 : decode cX12_isWord 0 = .ok (.aload_n 0, 1) := by decide +kernel
theorem dX12_isWord_1 : decode cX12_isWord 1 = .ok (.getfield 99, 3) := by decide +kernel
theorem dX12_isWord_4 : decode cX12_isWord 4 = .ok (.aload_n 0, 1) := by decide +kernel
theorem dX12_isWord_5 : decode cX12_isWord 5 = .ok (.getfield 108, 3) := by decide +kernel
theorem dX12_isWord_8 : decode cX12_isWord 8 = .ok (.isub, 1) := by decide +kernel
theorem dX12_isWord_9 : decode cX12_isWord 9 = .ok (.aload_n 1, 1) := by decide +kernel
theorem dX12_isWord_10 : decode cX12_isWord 10 = .ok (.invokevirtual 114, 3) := by decide +kernel
theorem dX12_isWord_13 : decode cX12_isWord 13 = .ok (.if_icmp .ne 7, 3) := by decide +kernel
theorem dX12_isWord_16 : decode cX12_isWord 16 = .ok (.iconst 1, 1) := by decide +kernel
theorem dX12_isWord_17 : decode cX12_isWord 17 = .ok (.goto 4, 3) := by decide +kernel
theorem dX12_isWord_20 : decode cX12_isWord 20 = .ok (.iconst 0, 1) := by decide +kernel
theorem dX12_isWord_21 : decode cX12_isWord 21 = .ok (.istore_n 2, 1) := by decide +kernel
theorem dX12_isWord_22 : decode cX12_isWord 22 = .ok (.iconst 0, 1) := by decide +kernel
theorem dX12_isWord_23 : decode cX12_isWord 23 = .ok (.istore_n 3, 1) := by decide +kernel
theorem dX12_isWord_24 : decode cX12_isWord 24 = .ok (.iload_n 2, 1) := by decide +kernel
theorem dX12_isWord_25 : decode cX12_isWord 25 = .ok (.ifCond .eq 42, 3) := by decide +kernel
theorem dX12_isWord_28 : decode cX12_isWord 28 = .ok (.iload_n 3, 1) := by decide +kernel
theorem dX12_isWord_29 : decode cX12_isWord 29 = .ok (.aload_n 1, 1) := by decide +kernel
theorem dX12_isWord_30 : decode cX12_isWord 30 = .ok (.invokevirtual 114, 3) := by decide +kernel
theorem dX12_isWord_33 : decode cX12_isWord 33 = .ok (.if_icmp .ge 34, 3) := by decide +kernel
theorem dX12_isWord_36 : decode cX12_isWord 36 = .ok (.aload_n 0, 1) := by decide +kernel
theorem dX12_isWord_37 : decode cX12_isWord 37 = .ok (.getfield 29, 3) := by decide +kernel
theorem dX12_isWord_40 : decode cX12_isWord 40 = .ok (.aload_n 0, 1) := by decide +kernel
theorem dX12_isWord_41 : decode cX12_isWord 41 = .ok (.getfield 108, 3) := by decide +kernel
theorem dX12_isWord_44 : decode cX12_isWord 44 = .ok (.iload_n 3, 1) := by decide +kernel
theorem dX12_isWord_45 : decode cX12_isWord 45 = .ok (.iadd, 1) := by decide +kernel
theorem dX12_isWord_46 : decode cX12_isWord 46 = .ok (.baload, 1) := by decide +kernel
theorem dX12_isWord_47 : decode cX12_isWord 47 = .ok (.aload_n 1, 1) := by decide +kernel
theorem dX12_isWord_48 : decode cX12_isWord 48 = .ok (.iload_n 3, 1) := by decide +kernel
theorem dX12_isWord_49 : decode cX12_isWord 49 = .ok (.invokevirtual 119, 3) := by decide +kernel
theorem dX12_isWord_52 : decode cX12_isWord 52 = .ok (.if_icmp .ne 7, 3) := by decide +kernel
theorem dX12_isWord_55 : decode cX12_isWord 55 = .ok (.iconst 1, 1) := by decide +kernel
theorem dX12_isWord_56 : decode cX12_isWord 56 = .ok (.goto 4, 3) := by decide +kernel
theorem dX12_isWord_59 : decode cX12_isWord 59 = .ok (.iconst 0, 1) := by decide +kernel
theorem dX12_isWord_60 : decode cX12_isWord 60 = .ok (.istore_n 2, 1) := by decide +kernel
theorem dX12_isWord_61 : decode cX12_isWord 61 = .ok (.iinc 3 1, 3) := by decide +kernel
theorem dX12_isWord_64 : decode cX12_isWord 64 = .ok (.goto (-40), 3) := by decide +kernel
theorem dX12_isWord_67 : decode cX12_isWord 67 = .ok (.iload_n 2, 1) := by decide +kernel
theorem dX12_isWord_68 : decode cX12_isWord 68 = .ok (.ireturn, 1) := by decide +kernel
theorem dX12_passes_0 : decode cX12_passes 0 = .ok (.aload_n 0, 1) := by decide +kernel
theorem dX12_passes_1 : decode cX12_passes 1 = .ok (.invokevirtual 123, 3) := by decide +kernel
theorem dX12_passes_4 : decode cX12_passes 4 = .ok (.aload_n 0, 1) := by decide +kernel
theorem dX12_passes_5 : decode cX12_passes 5 = .ok (.aload_n 1, 1) := by decide +kernel
theorem dX12_passes_6 : decode cX12_passes 6 = .ok (.invokevirtual 126, 3) := by decide +kernel
theorem dX12_passes_9 : decode cX12_passes 9 = .ok (.ifCond .eq 5, 3) := by decide +kernel
theorem dX12_passes_12 : decode cX12_passes 12 = .ok (.iconst 1, 1) := by decide +kernel
theorem dX12_passes_13 : decode cX12_passes 13 = .ok (.ireturn, 1) := by decide +kernel
theorem dX12_passes_14 : decode cX12_passes 14 = .ok (.aload_n 0, 1) := by decide +kernel
theorem dX12_passes_15 : decode cX12_passes 15 = .ok (.aload_n 0, 1) := by decide +kernel
theorem dX12_passes_16 : decode cX12_passes 16 = .ok (.getfield 108, 3) := by decide +kernel
theorem dX12_passes_19 : decode cX12_passes 19 = .ok (.putfield 99, 3) := by decide +kernel
theorem dX12_passes_22 : decode cX12_passes 22 = .ok (.iconst 0, 1) := by decide +kernel
theorem dX12_passes_23 : decode cX12_passes 23 = .ok (.ireturn, 1) := by decide +kernel
theorem dX12_sign_0 : decode cX12_sign 0 = .ok (.aload_n 0, 1) := by decide +kernel
theorem dX12_sign_1 : decode cX12_sign 1 = .ok (.invokevirtual 111, 3) := by decide +kernel
theorem dX12_sign_4 : decode cX12_sign 4 = .ok (.aload_n 0, 1) := by decide +kernel
theorem dX12_sign_5 : decode cX12_sign 5 = .ok (.iload_n 1, 1) := by decide +kernel
theorem dX12_sign_6 : decode cX12_sign 6 = .ok (.iload_n 1, 1) := by decide +kernel
theorem dX12_sign_7 : decode cX12_sign 7 = .ok (.invokevirtual 105, 3) := by decide +kernel
theorem dX12_sign_10 : decode cX12_sign 10 = .ok (.ifCond .ne 5, 3) := by decide +kernel
theorem dX12_sign_13 : decode cX12_sign 13 = .ok (.iconst 0, 1) := by decide +kernel
theorem dX12_sign_14 : decode cX12_sign 14 = .ok (.ireturn, 1) := by decide +kernel
theorem dX12_sign_15 : decode cX12_sign 15 = .ok (.aload_n 0, 1) := by decide +kernel
theorem dX12_sign_16 : decode cX12_sign 16 = .ok (.dup, 1) := by decide +kernel
theorem dX12_sign_17 : decode cX12_sign 17 = .ok (.getfield 99, 3) := by decide +kernel
theorem dX12_sign_20 : decode cX12_sign 20 = .ok (.iconst 1, 1) := by decide +kernel
theorem dX12_sign_21 : decode cX12_sign 21 = .ok (.iadd, 1) := by decide +kernel
theorem dX12_sign_22 : decode cX12_sign 22 = .ok (.putfield 99, 3) := by decide +kernel
theorem dX12_sign_25 : decode cX12_sign 25 = .ok (.iconst 1, 1) := by decide +kernel
theorem dX12_sign_26 : decode cX12_sign 26 = .ok (.ireturn, 1) := by decide +kernel
theorem dX12_number_0 : decode cX12_number 0 = .ok (.aload_n 0, 1) := by decide +kernel
theorem dX12_number_1 : decode cX12_number 1 = .ok (.invokevirtual 111, 3) := by decide +kernel
theorem dX12_number_4 : decode cX12_number 4 = .ok (.iconst 0, 1) := by decide +kernel
theorem dX12_number_5 : decode cX12_number 5 = .ok (.istore_n 3, 1) := by decide +kernel
theorem dX12_number_6 : decode cX12_number 6 = .ok (.aload_n 0, 1) := by decide +kernel
theorem dX12_number_7 : decode cX12_number 7 = .ok (.bipush 48, 2) := by decide +kernel
theorem dX12_number_9 : decode cX12_number 9 = .ok (.bipush 57, 2) := by decide +kernel
theorem dX12_number_11 : decode cX12_number 11 = .ok (.invokevirtual 105, 3) := by decide +kernel
theorem dX12_number_14 : decode cX12_number 14 = .ok (.ifCond .eq 51, 3) := by decide +kernel
theorem dX12_number_17 : decode cX12_number 17 = .ok (.aload_n 0, 1) := by decide +kernel
theorem dX12_number_18 : decode cX12_number 18 = .ok (.getfield 99, 3) := by decide +kernel
theorem dX12_number_21 : decode cX12_number 21 = .ok (.aload_n 0, 1) := by decide +kernel
theorem dX12_number_22 : decode cX12_number 22 = .ok (.getfield 108, 3) := by decide +kernel
theorem dX12_number_25 : decode cX12_number 25 = .ok (.isub, 1) := by decide +kernel
theorem dX12_number_26 : decode cX12_number 26 = .ok (.iconst 3, 1) := by decide +kernel
theorem dX12_number_27 : decode cX12_number 27 = .ok (.if_icmp .ge 23, 3) := by decide +kernel
theorem dX12_number_30 : decode cX12_number 30 = .ok (.bipush 10, 2) := by decide +kernel
theorem dX12_number_32 : decode cX12_number 32 = .ok (.iload_n 3, 1) := by decide +kernel
theorem dX12_number_33 : decode cX12_number 33 = .ok (.imul, 1) := by decide +kernel
theorem dX12_number_34 : decode cX12_number 34 = .ok (.aload_n 0, 1) := by decide +kernel
theorem dX12_number_35 : decode cX12_number 35 = .ok (.getfield 29, 3) := by decide +kernel
theorem dX12_number_38 : decode cX12_number 38 = .ok (.aload_n 0, 1) := by decide +kernel
theorem dX12_number_39 : decode cX12_number 39 = .ok (.getfield 99, 3) := by decide +kernel
theorem dX12_number_42 : decode cX12_number 42 = .ok (.baload, 1) := by decide +kernel
theorem dX12_number_43 : decode cX12_number 43 = .ok (.iadd, 1) := by decide +kernel
theorem dX12_number_44 : decode cX12_number 44 = .ok (.bipush 48, 2) := by decide +kernel
theorem dX12_number_46 : decode cX12_number 46 = .ok (.isub, 1) := by decide +kernel
theorem dX12_number_47 : decode cX12_number 47 = .ok (.goto 4, 3) := by decide +kernel
theorem dX12_number_50 : decode cX12_number 50 = .ok (.iload_n 3, 1) := by decide +kernel
theorem dX12_number_51 : decode cX12_number 51 = .ok (.istore_n 3, 1) := by decide +kernel
theorem dX12_number_52 : decode cX12_number 52 = .ok (.aload_n 0, 1) := by decide +kernel
theorem dX12_number_53 : decode cX12_number 53 = .ok (.dup, 1) := by decide +kernel
theorem dX12_number_54 : decode cX12_number 54 = .ok (.getfield 99, 3) := by decide +kernel
theorem dX12_number_57 : decode cX12_number 57 = .ok (.iconst 1, 1) := by decide +kernel
theorem dX12_number_58 : decode cX12_number 58 = .ok (.iadd, 1) := by decide +kernel
theorem dX12_number_59 : decode cX12_number 59 = .ok (.putfield 99, 3) := by decide +kernel
theorem dX12_number_62 : decode cX12_number 62 = .ok (.goto (-56), 3) := by decide +kernel
theorem dX12_number_65 : decode cX12_number 65 = .ok (.aload_n 0, 1) := by decide +kernel
theorem dX12_number_66 : decode cX12_number 66 = .ok (.getfield 99, 3) := by decide +kernel
theorem dX12_number_69 : decode cX12_number 69 = .ok (.aload_n 0, 1) := by decide +kernel
theorem dX12_number_70 : decode cX12_number 70 = .ok (.getfield 108, 3) := by decide +kernel
theorem dX12_number_73 : decode cX12_number 73 = .ok (.if_icmp .eq 26, 3) := by decide +kernel
theorem dX12_number_76 : decode cX12_number 76 = .ok (.aload_n 0, 1) := by decide +kernel
theorem dX12_number_77 : decode cX12_number 77 = .ok (.getfield 99, 3) := by decide +kernel
theorem dX12_number_80 : decode cX12_number 80 = .ok (.aload_n 0, 1) := by decide +kernel
theorem dX12_number_81 : decode cX12_number 81 = .ok (.getfield 108, 3) := by decide +kernel
theorem dX12_number_84 : decode cX12_number 84 = .ok (.isub, 1) := by decide +kernel
theorem dX12_number_85 : decode cX12_number 85 = .ok (.iconst 3, 1) := by decide +kernel
theorem dX12_number_86 : decode cX12_number 86 = .ok (.if_icmp .gt 13, 3) := by decide +kernel
theorem dX12_number_89 : decode cX12_number 89 = .ok (.iload_n 3, 1) := by decide +kernel
theorem dX12_number_90 : decode cX12_number 90 = .ok (.iload_n 1, 1) := by decide +kernel
theorem dX12_number_91 : decode cX12_number 91 = .ok (.if_icmp .lt 8, 3) := by decide +kernel
theorem dX12_number_94 : decode cX12_number 94 = .ok (.iload_n 3, 1) := by decide +kernel
theorem dX12_number_95 : decode cX12_number 95 = .ok (.iload_n 2, 1) := by decide +kernel
theorem dX12_number_96 : decode cX12_number 96 = .ok (.if_icmp .le 7, 3) := by decide +kernel
theorem dX12_number_99 : decode cX12_number 99 = .ok (.iconst (-1), 1) := by decide +kernel
theorem dX12_number_100 : decode cX12_number 100 = .ok (.goto 4, 3) := by decide +kernel
theorem dX12_number_103 : decode cX12_number 103 = .ok (.iload_n 3, 1) := by decide +kernel
theorem dX12_number_104 : decode cX12_number 104 = .ok (.ireturn, 1) := by decide +kernel
theorem dX12_isFigure_0 : decode cX12_isFigure 0 = .ok (.aload_n 0, 1) := by decide +kernel
theorem dX12_isFigure_1 : decode cX12_isFigure 1 = .ok (.invokevirtual 111, 3) := by decide +kernel
theorem dX12_isFigure_4 : decode cX12_isFigure 4 = .ok (.aload_n 0, 1) := by decide +kernel
theorem dX12_isFigure_5 : decode cX12_isFigure 5 = .ok (.bipush 48, 2) := by decide +kernel
theorem dX12_isFigure_7 : decode cX12_isFigure 7 = .ok (.bipush 57, 2) := by decide +kernel
theorem dX12_isFigure_9 : decode cX12_isFigure 9 = .ok (.invokevirtual 105, 3) := by decide +kernel
theorem dX12_isFigure_12 : decode cX12_isFigure 12 = .ok (.ireturn, 1) := by decide +kernel
theorem dX12_fault_0 : decode cX12_fault 0 = .ok (.aload_n 0, 1) := by decide +kernel
theorem dX12_fault_1 : decode cX12_fault 1 = .ok (.iconst 0, 1) := by decide +kernel
theorem dX12_fault_2 : decode cX12_fault 2 = .ok (.putfield 3, 3) := by decide +kernel
theorem dX12_fault_5 : decode cX12_fault 5 = .ok (.aload_n 0, 1) := by decide +kernel
theorem dX12_fault_6 : decode cX12_fault 6 = .ok (.getfield 33, 3) := by decide +kernel
theorem dX12_fault_9 : decode cX12_fault 9 = .ok (.ireturn, 1) := by decide +kernel
theorem dX12_uses_0 : decode cX12_uses 0 = .ok (.aload_n 0, 1) := by decide +kernel
theorem dX12_uses_1 : decode cX12_uses 1 = .ok (.iconst 0, 1) := by decide +kernel
theorem dX12_uses_2 : decode cX12_uses 2 = .ok (.putfield 3, 3) := by decide +kernel
theorem dX12_uses_5 : decode cX12_uses 5 = .ok (.aload_n 0, 1) := by decide +kernel
theorem dX12_uses_6 : decode cX12_uses 6 = .ok (.aload_n 0, 1) := by decide +kernel
theorem dX12_uses_7 : decode cX12_uses 7 = .ok (.getfield 96, 3) := by decide +kernel
theorem dX12_uses_10 : decode cX12_uses 10 = .ok (.putfield 102, 3) := by decide +kernel
theorem dX12_uses_13 : decode cX12_uses 13 = .ok (.aload_n 0, 1) := by decide +kernel
theorem dX12_uses_14 : decode cX12_uses 14 = .ok (.iconst 0, 1) := by decide +kernel
theorem dX12_uses_15 : decode cX12_uses 15 = .ok (.putfield 96, 3) := by decide +kernel
theorem dX12_uses_18 : decode cX12_uses 18 = .ok (.aload_n 0, 1) := by decide +kernel
theorem dX12_uses_19 : decode cX12_uses 19 = .ok (.iconst 0, 1) := by decide +kernel
theorem dX12_uses_20 : decode cX12_uses 20 = .ok (.putfield 99, 3) := by decide +kernel
theorem dX12_uses_23 : decode cX12_uses 23 = .ok (.return_, 1) := by decide +kernel
theorem dX12_memoryTold_0 : decode cX12_memoryTold 0 = .ok (.aload_n 0, 1) := by decide +kernel
theorem dX12_memoryTold_1 : decode cX12_memoryTold 1 = .ok (.iconst 0, 1) := by decide +kernel
theorem dX12_memoryTold_2 : decode cX12_memoryTold 2 = .ok (.aload_n 0, 1) := by decide +kernel
theorem dX12_memoryTold_3 : decode cX12_memoryTold 3 = .ok (.invokevirtual 67, 3) := by decide +kernel
theorem dX12_memoryTold_6 : decode cX12_memoryTold 6 = .ok (.iconst 1, 1) := by decide +kernel
theorem dX12_memoryTold_7 : decode cX12_memoryTold 7 = .ok (.isub, 1) := by decide +kernel
theorem dX12_memoryTold_8 : decode cX12_memoryTold 8 = .ok (.invokevirtual 130, 3) := by decide +kernel
theorem dX12_memoryTold_11 : decode cX12_memoryTold 11 = .ok (.ireturn, 1) := by decide +kernel
theorem dX12_soldierTold_0 : decode cX12_soldierTold 0 = .ok (.aload_n 0, 1) := by decide +kernel
theorem dX12_soldierTold_1 : decode cX12_soldierTold 1 = .ok (.iconst 0, 1) := by decide +kernel
theorem dX12_soldierTold_2 : decode cX12_soldierTold 2 = .ok (.aload_n 0, 1) := by decide +kernel
theorem dX12_soldierTold_3 : decode cX12_soldierTold 3 = .ok (.invokevirtual 75, 3) := by decide +kernel
theorem dX12_soldierTold_6 : decode cX12_soldierTold 6 = .ok (.iconst 1, 1) := by decide +kernel
theorem dX12_soldierTold_7 : decode cX12_soldierTold 7 = .ok (.isub, 1) := by decide +kernel
theorem dX12_soldierTold_8 : decode cX12_soldierTold 8 = .ok (.invokevirtual 130, 3) := by decide +kernel
theorem dX12_soldierTold_11 : decode cX12_soldierTold 11 = .ok (.ireturn, 1) := by decide +kernel
theorem dX12_memoriesTold_0 : decode cX12_memoriesTold 0 = .ok (.iconst 0, 1) := by decide +kernel
theorem dX12_memoriesTold_1 : decode cX12_memoriesTold 1 = .ok (.istore_n 1, 1) := by decide +kernel
theorem dX12_memoriesTold_2 : decode cX12_memoriesTold 2 = .ok (.aload_n 0, 1) := by decide +kernel
theorem dX12_memoriesTold_3 : decode cX12_memoriesTold 3 = .ok (.invokevirtual 133, 3) := by decide +kernel
theorem dX12_memoriesTold_6 : decode cX12_memoriesTold 6 = .ok (.istore_n 2, 1) := by decide +kernel
theorem dX12_memoriesTold_7 : decode cX12_memoriesTold 7 = .ok (.iload_n 2, 1) := by decide +kernel
theorem dX12_memoriesTold_8 : decode cX12_memoriesTold 8 = .ok (.ifCond .ge 5, 3) := by decide +kernel
theorem dX12_memoriesTold_11 : decode cX12_memoriesTold 11 = .ok (.iconst (-1), 1) := by decide +kernel
theorem dX12_memoriesTold_12 : decode cX12_memoriesTold 12 = .ok (.ireturn, 1) := by decide +kernel
theorem dX12_memoriesTold_13 : decode cX12_memoriesTold 13 = .ok (.iload_n 1, 1) := by decide +kernel
theorem dX12_memoriesTold_14 : decode cX12_memoriesTold 14 = .ok (.iconst 1, 1) := by decide +kernel
theorem dX12_memoriesTold_15 : decode cX12_memoriesTold 15 = .ok (.iload_n 2, 1) := by decide +kernel
theorem dX12_memoriesTold_16 : decode cX12_memoriesTold 16 = .ok (.ishl, 1) := by decide +kernel
theorem dX12_memoriesTold_17 : decode cX12_memoriesTold 17 = .ok (.ior, 1) := by decide +kernel
theorem dX12_memoriesTold_18 : decode cX12_memoriesTold 18 = .ok (.istore_n 1, 1) := by decide +kernel
theorem dX12_memoriesTold_19 : decode cX12_memoriesTold 19 = .ok (.aload_n 0, 1) := by decide +kernel
theorem dX12_memoriesTold_20 : decode cX12_memoriesTold 20 = .ok (.invokevirtual 136, 3) := by decide +kernel
theorem dX12_memoriesTold_23 : decode cX12_memoriesTold 23 = .ok (.ifCond .ne (-21), 3) := by decide +kernel
theorem dX12_memoriesTold_26 : decode cX12_memoriesTold 26 = .ok (.iload_n 1, 1) := by decide +kernel
theorem dX12_memoriesTold_27 : decode cX12_memoriesTold 27 = .ok (.ireturn, 1) := by decide +kernel
theorem dX12_readMemory_0 : decode cX12_readMemory 0 = .ok (.aload_n 0, 1) := by decide +kernel
theorem dX12_readMemory_1 : decode cX12_readMemory 1 = .ok (.invokevirtual 67, 3) := by decide +kernel
theorem dX12_readMemory_4 : decode cX12_readMemory 4 = .ok (.istore_n 1, 1) := by decide +kernel
theorem dX12_readMemory_5 : decode cX12_readMemory 5 = .ok (.iload_n 1, 1) := by decide +kernel
theorem dX12_readMemory_6 : decode cX12_readMemory 6 = .ok (.bipush 16, 2) := by decide +kernel
theorem dX12_readMemory_8 : decode cX12_readMemory 8 = .ok (.if_icmp .ne 5, 3) := by decide +kernel
theorem dX12_readMemory_11 : decode cX12_readMemory 11 = .ok (.iconst 0, 1) := by decide +kernel
theorem dX12_readMemory_12 : decode cX12_readMemory 12 = .ok (.ireturn, 1) := by decide +kernel
theorem dX12_readMemory_13 : decode cX12_readMemory 13 = .ok (.aload_n 0, 1) := by decide +kernel
theorem dX12_readMemory_14 : decode cX12_readMemory 14 = .ok (.iconst 1, 1) := by decide +kernel
theorem dX12_readMemory_15 : decode cX12_readMemory 15 = .ok (.bipush 99, 2) := by decide +kernel
theorem dX12_readMemory_17 : decode cX12_readMemory 17 = .ok (.invokevirtual 130, 3) := by decide +kernel
theorem dX12_readMemory_20 : decode cX12_readMemory 20 = .ok (.istore_n 2, 1) := by decide +kernel
theorem dX12_readMemory_21 : decode cX12_readMemory 21 = .ok (.iload_n 2, 1) := by decide +kernel
theorem dX12_readMemory_22 : decode cX12_readMemory 22 = .ok (.ifCond .ge 5, 3) := by decide +kernel
theorem dX12_readMemory_25 : decode cX12_readMemory 25 = .ok (.iconst 0, 1) := by decide +kernel
theorem dX12_readMemory_26 : decode cX12_readMemory 26 = .ok (.ireturn, 1) := by decide +kernel
theorem dX12_readMemory_27 : decode cX12_readMemory 27 = .ok (.aload_n 0, 1) := by decide +kernel
theorem dX12_readMemory_28 : decode cX12_readMemory 28 = .ok (.ldc 140, 2) := by decide +kernel
theorem dX12_readMemory_30 : decode cX12_readMemory 30 = .ok (.invokevirtual 142, 3) := by decide +kernel
theorem dX12_readMemory_33 : decode cX12_readMemory 33 = .ok (.ifCond .eq 10, 3) := by decide +kernel
theorem dX12_readMemory_36 : decode cX12_readMemory 36 = .ok (.aload_n 0, 1) := by decide +kernel
theorem dX12_readMemory_37 : decode cX12_readMemory 37 = .ok (.invokevirtual 145, 3) := by decide +kernel
theorem dX12_readMemory_40 : decode cX12_readMemory 40 = .ok (.goto 4, 3) := by decide +kernel
theorem dX12_readMemory_43 : decode cX12_readMemory 43 = .ok (.iconst 0, 1) := by decide +kernel
theorem dX12_readMemory_44 : decode cX12_readMemory 44 = .ok (.istore_n 3, 1) := by decide +kernel
theorem dX12_readMemory_45 : decode cX12_readMemory 45 = .ok (.iload_n 3, 1) := by decide +kernel
theorem dX12_readMemory_46 : decode cX12_readMemory 46 = .ok (.ifCond .ge 5, 3) := by decide +kernel
theorem dX12_readMemory_49 : decode cX12_readMemory 49 = .ok (.iconst 0, 1) := by decide +kernel
theorem dX12_readMemory_50 : decode cX12_readMemory 50 = .ok (.ireturn, 1) := by decide +kernel
theorem dX12_readMemory_51 : decode cX12_readMemory 51 = .ok (.aload_n 0, 1) := by decide +kernel
theorem dX12_readMemory_52 : decode cX12_readMemory 52 = .ok (.getfield 13, 3) := by decide +kernel
theorem dX12_readMemory_55 : decode cX12_readMemory 55 = .ok (.bipush 13, 2) := by decide +kernel
theorem dX12_readMemory_57 : decode cX12_readMemory 57 = .ok (.iconst 3, 1) := by decide +kernel
theorem dX12_readMemory_58 : decode cX12_readMemory 58 = .ok (.iload_n 1, 1) := by decide +kernel
theorem dX12_readMemory_59 : decode cX12_readMemory 59 = .ok (.imul, 1) := by decide +kernel
theorem dX12_readMemory_60 : decode cX12_readMemory 60 = .ok (.iadd, 1) := by decide +kernel
theorem dX12_readMemory_61 : decode cX12_readMemory 61 = .ok (.iload_n 2, 1) := by decide +kernel
theorem dX12_readMemory_62 : decode cX12_readMemory 62 = .ok (.iastore, 1) := by decide +kernel
theorem dX12_readMemory_63 : decode cX12_readMemory 63 = .ok (.aload_n 0, 1) := by decide +kernel
theorem dX12_readMemory_64 : decode cX12_readMemory 64 = .ok (.getfield 13, 3) := by decide +kernel
theorem dX12_readMemory_67 : decode cX12_readMemory 67 = .ok (.bipush 13, 2) := by decide +kernel
theorem dX12_readMemory_69 : decode cX12_readMemory 69 = .ok (.iconst 3, 1) := by decide +kernel
theorem dX12_readMemory_70 : decode cX12_readMemory 70 = .ok (.iload_n 1, 1) := by decide +kernel
theorem dX12_readMemory_71 : decode cX12_readMemory 71 = .ok (.imul, 1) := by decide +kernel
theorem dX12_readMemory_72 : decode cX12_readMemory 72 = .ok (.iadd, 1) := by decide +kernel
theorem dX12_readMemory_73 : decode cX12_readMemory 73 = .ok (.iconst 1, 1) := by decide +kernel
theorem dX12_readMemory_74 : decode cX12_readMemory 74 = .ok (.iadd, 1) := by decide +kernel
theorem dX12_readMemory_75 : decode cX12_readMemory 75 = .ok (.iload_n 3, 1) := by decide +kernel
theorem dX12_readMemory_76 : decode cX12_readMemory 76 = .ok (.iastore, 1) := by decide +kernel
theorem dX12_readMemory_77 : decode cX12_readMemory 77 = .ok (.aload_n 0, 1) := by decide +kernel
theorem dX12_readMemory_78 : decode cX12_readMemory 78 = .ok (.getfield 13, 3) := by decide +kernel
theorem dX12_readMemory_81 : decode cX12_readMemory 81 = .ok (.bipush 13, 2) := by decide +kernel
theorem dX12_readMemory_83 : decode cX12_readMemory 83 = .ok (.iconst 3, 1) := by decide +kernel
theorem dX12_readMemory_84 : decode cX12_readMemory 84 = .ok (.iload_n 1, 1) := by decide +kernel
theorem dX12_readMemory_85 : decode cX12_readMemory 85 = .ok (.imul, 1) := by decide +kernel
theorem dX12_readMemory_86 : decode cX12_readMemory 86 = .ok (.iadd, 1) := by decide +kernel
theorem dX12_readMemory_87 : decode cX12_readMemory 87 = .ok (.iconst 2, 1) := by decide +kernel
theorem dX12_readMemory_88 : decode cX12_readMemory 88 = .ok (.iadd, 1) := by decide +kernel
theorem dX12_readMemory_89 : decode cX12_readMemory 89 = .ok (.iconst 0, 1) := by decide +kernel
theorem dX12_readMemory_90 : decode cX12_readMemory 90 = .ok (.iastore, 1) := by decide +kernel
theorem dX12_readMemory_91 : decode cX12_readMemory 91 = .ok (.aload_n 0, 1) := by decide +kernel
theorem dX12_readMemory_92 : decode cX12_readMemory 92 = .ok (.getfield 13, 3) := by decide +kernel
theorem dX12_readMemory_95 : decode cX12_readMemory 95 = .ok (.iconst 0, 1) := by decide +kernel
theorem dX12_readMemory_96 : decode cX12_readMemory 96 = .ok (.dup2, 1) := by decide +kernel
theorem dX12_readMemory_97 : decode cX12_readMemory 97 = .ok (.iaload, 1) := by decide +kernel
theorem dX12_readMemory_98 : decode cX12_readMemory 98 = .ok (.iconst 1, 1) := by decide +kernel
theorem dX12_readMemory_99 : decode cX12_readMemory 99 = .ok (.iadd, 1) := by decide +kernel
theorem dX12_readMemory_100 : decode cX12_readMemory 100 = .ok (.iastore, 1) := by decide +kernel
theorem dX12_readMemory_101 : decode cX12_readMemory 101 = .ok (.iconst 1, 1) := by decide +kernel
theorem dX12_readMemory_102 : decode cX12_readMemory 102 = .ok (.ireturn, 1) := by decide +kernel
theorem dX12_readSoldier_0 : decode cX12_readSoldier 0 = .ok (.aload_n 0, 1) := by decide +kernel
theorem dX12_readSoldier_1 : decode cX12_readSoldier 1 = .ok (.invokevirtual 75, 3) := by decide +kernel
theorem dX12_readSoldier_4 : decode cX12_readSoldier 4 = .ok (.istore_n 1, 1) := by decide +kernel
theorem dX12_readSoldier_5 : decode cX12_readSoldier 5 = .ok (.iload_n 1, 1) := by decide +kernel
theorem dX12_readSoldier_6 : decode cX12_readSoldier 6 = .ok (.bipush 10, 2) := by decide +kernel
theorem dX12_readSoldier_8 : decode cX12_readSoldier 8 = .ok (.if_icmp .ne 5, 3) := by decide +kernel
theorem dX12_readSoldier_11 : decode cX12_readSoldier 11 = .ok (.iconst 0, 1) := by decide +kernel
theorem dX12_readSoldier_12 : decode cX12_readSoldier 12 = .ok (.ireturn, 1) := by decide +kernel
theorem dX12_readSoldier_13 : decode cX12_readSoldier 13 = .ok (.iconst 0, 1) := by decide +kernel
theorem dX12_readSoldier_14 : decode cX12_readSoldier 14 = .ok (.istore_n 2, 1) := by decide +kernel
theorem dX12_readSoldier_15 : decode cX12_readSoldier 15 = .ok (.iload_n 2, 1) := by decide +kernel
theorem dX12_readSoldier_16 : decode cX12_readSoldier 16 = .ok (.bipush 23, 2) := by decide +kernel
theorem dX12_readSoldier_18 : decode cX12_readSoldier 18 = .ok (.if_icmp .ge 16, 3) := by decide +kernel
theorem dX12_readSoldier_21 : decode cX12_readSoldier 21 = .ok (.aload_n 0, 1) := by decide +kernel
theorem dX12_readSoldier_22 : decode cX12_readSoldier 22 = .ok (.iload_n 1, 1) := by decide +kernel
theorem dX12_readSoldier_23 : decode cX12_readSoldier 23 = .ok (.iload_n 2, 1) := by decide +kernel
theorem dX12_readSoldier_24 : decode cX12_readSoldier 24 = .ok (.iconst 0, 1) := by decide +kernel
theorem dX12_readSoldier_25 : decode cX12_readSoldier 25 = .ok (.invokevirtual 148, 3) := by decide +kernel
theorem dX12_readSoldier_28 : decode cX12_readSoldier 28 = .ok (.iinc 2 1, 3) := by decide +kernel
theorem dX12_readSoldier_31 : decode cX12_readSoldier 31 = .ok (.goto (-16), 3) := by decide +kernel
theorem dX12_readSoldier_34 : decode cX12_readSoldier 34 = .ok (.aload_n 0, 1) := by decide +kernel
theorem dX12_readSoldier_35 : decode cX12_readSoldier 35 = .ok (.iconst 0, 1) := by decide +kernel
theorem dX12_readSoldier_36 : decode cX12_readSoldier 36 = .ok (.iconst 1, 1) := by decide +kernel
theorem dX12_readSoldier_37 : decode cX12_readSoldier 37 = .ok (.invokevirtual 130, 3) := by decide +kernel
theorem dX12_readSoldier_40 : decode cX12_readSoldier 40 = .ok (.istore_n 2, 1) := by decide +kernel
theorem dX12_readSoldier_41 : decode cX12_readSoldier 41 = .ok (.iload_n 2, 1) := by decide +kernel
theorem dX12_readSoldier_42 : decode cX12_readSoldier 42 = .ok (.ifCond .ge 5, 3) := by decide +kernel
theorem dX12_readSoldier_45 : decode cX12_readSoldier 45 = .ok (.iconst 0, 1) := by decide +kernel
theorem dX12_readSoldier_46 : decode cX12_readSoldier 46 = .ok (.ireturn, 1) := by decide +kernel
theorem dX12_readSoldier_47 : decode cX12_readSoldier 47 = .ok (.aload_n 0, 1) := by decide +kernel
theorem dX12_readSoldier_48 : decode cX12_readSoldier 48 = .ok (.iload_n 1, 1) := by decide +kernel
theorem dX12_readSoldier_49 : decode cX12_readSoldier 49 = .ok (.iconst 0, 1) := by decide +kernel
theorem dX12_readSoldier_50 : decode cX12_readSoldier 50 = .ok (.iload_n 2, 1) := by decide +kernel
theorem dX12_readSoldier_51 : decode cX12_readSoldier 51 = .ok (.invokevirtual 148, 3) := by decide +kernel
theorem dX12_readSoldier_54 : decode cX12_readSoldier 54 = .ok (.iconst 0, 1) := by decide +kernel
theorem dX12_readSoldier_55 : decode cX12_readSoldier 55 = .ok (.istore_n 3, 1) := by decide +kernel
theorem dX12_readSoldier_56 : decode cX12_readSoldier 56 = .ok (.aload_n 0, 1) := by decide +kernel
theorem dX12_readSoldier_57 : decode cX12_readSoldier 57 = .ok (.iconst 0, 1) := by decide +kernel
theorem dX12_readSoldier_58 : decode cX12_readSoldier 58 = .ok (.bipush 7, 2) := by decide +kernel
theorem dX12_readSoldier_60 : decode cX12_readSoldier 60 = .ok (.invokevirtual 130, 3) := by decide +kernel
theorem dX12_readSoldier_63 : decode cX12_readSoldier 63 = .ok (.istore 4, 2) := by decide +kernel
theorem dX12_readSoldier_65 : decode cX12_readSoldier 65 = .ok (.iload 4, 2) := by decide +kernel
theorem dX12_readSoldier_67 : decode cX12_readSoldier 67 = .ok (.ifCond .lt 9, 3) := by decide +kernel
theorem dX12_readSoldier_70 : decode cX12_readSoldier 70 = .ok (.iload_n 3, 1) := by decide +kernel
theorem dX12_readSoldier_71 : decode cX12_readSoldier 71 = .ok (.bipush 6, 2) := by decide +kernel
theorem dX12_readSoldier_73 : decode cX12_readSoldier 73 = .ok (.if_icmp .ne 5, 3) := by decide +kernel
theorem dX12_readSoldier_76 : decode cX12_readSoldier 76 = .ok (.iconst 0, 1) := by decide +kernel
theorem dX12_readSoldier_77 : decode cX12_readSoldier 77 = .ok (.ireturn, 1) := by decide +kernel
theorem dX12_readSoldier_78 : decode cX12_readSoldier 78 = .ok (.aload_n 0, 1) := by decide +kernel
theorem dX12_readSoldier_79 : decode cX12_readSoldier 79 = .ok (.iload_n 1, 1) := by decide +kernel
theorem dX12_readSoldier_80 : decode cX12_readSoldier 80 = .ok (.iconst 3, 1) := by decide +kernel
theorem dX12_readSoldier_81 : decode cX12_readSoldier 81 = .ok (.iload_n 3, 1) := by decide +kernel
theorem dX12_readSoldier_82 : decode cX12_readSoldier 82 = .ok (.iadd, 1) := by decide +kernel
theorem dX12_readSoldier_83 : decode cX12_readSoldier 83 = .ok (.iload 4, 2) := by decide +kernel
theorem dX12_readSoldier_85 : decode cX12_readSoldier 85 = .ok (.invokevirtual 148, 3) := by decide +kernel
theorem dX12_readSoldier_88 : decode cX12_readSoldier 88 = .ok (.iinc 3 1, 3) := by decide +kernel
theorem dX12_readSoldier_91 : decode cX12_readSoldier 91 = .ok (.aload_n 0, 1) := by decide +kernel
theorem dX12_readSoldier_92 : decode cX12_readSoldier 92 = .ok (.invokevirtual 136, 3) := by decide +kernel
theorem dX12_readSoldier_95 : decode cX12_readSoldier 95 = .ok (.ifCond .ne (-39), 3) := by decide +kernel
theorem dX12_readSoldier_98 : decode cX12_readSoldier 98 = .ok (.aload_n 0, 1) := by decide +kernel
theorem dX12_readSoldier_99 : decode cX12_readSoldier 99 = .ok (.iload_n 1, 1) := by decide +kernel
theorem dX12_readSoldier_100 : decode cX12_readSoldier 100 = .ok (.iconst 2, 1) := by decide +kernel
theorem dX12_readSoldier_101 : decode cX12_readSoldier 101 = .ok (.iload_n 3, 1) := by decide +kernel
theorem dX12_readSoldier_102 : decode cX12_readSoldier 102 = .ok (.invokevirtual 148, 3) := by decide +kernel
theorem dX12_readSoldier_105 : decode cX12_readSoldier 105 = .ok (.aload_n 0, 1) := by decide +kernel
theorem dX12_readSoldier_106 : decode cX12_readSoldier 106 = .ok (.getfield 13, 3) := by decide +kernel
theorem dX12_readSoldier_109 : decode cX12_readSoldier 109 = .ok (.iconst 1, 1) := by decide +kernel
theorem dX12_readSoldier_110 : decode cX12_readSoldier 110 = .ok (.dup2, 1) := by decide +kernel
theorem dX12_readSoldier_111 : decode cX12_readSoldier 111 = .ok (.iaload, 1) := by decide +kernel
theorem dX12_readSoldier_112 : decode cX12_readSoldier 112 = .ok (.iconst 1, 1) := by decide +kernel
theorem dX12_readSoldier_113 : decode cX12_readSoldier 113 = .ok (.iadd, 1) := by decide +kernel
theorem dX12_readSoldier_114 : decode cX12_readSoldier 114 = .ok (.iastore, 1) := by decide +kernel
theorem dX12_readSoldier_115 : decode cX12_readSoldier 115 = .ok (.iconst 1, 1) := by decide +kernel
theorem dX12_readSoldier_116 : decode cX12_readSoldier 116 = .ok (.ireturn, 1) := by decide +kernel
theorem dX12_appends_0 : decode cX12_appends 0 = .ok (.aload_n 0, 1) := by decide +kernel
theorem dX12_appends_1 : decode cX12_appends 1 = .ok (.iload_n 1, 1) := by decide +kernel
theorem dX12_appends_2 : decode cX12_appends 2 = .ok (.bipush 10, 2) := by decide +kernel
theorem dX12_appends_4 : decode cX12_appends 4 = .ok (.aload_n 0, 1) := by decide +kernel
theorem dX12_appends_5 : decode cX12_appends 5 = .ok (.iload_n 1, 1) := by decide +kernel
theorem dX12_appends_6 : decode cX12_appends 6 = .ok (.bipush 9, 2) := by decide +kernel
theorem dX12_appends_8 : decode cX12_appends 8 = .ok (.invokevirtual 63, 3) := by decide +kernel
theorem dX12_appends_11 : decode cX12_appends 11 = .ok (.iadd, 1) := by decide +kernel
theorem dX12_appends_12 : decode cX12_appends 12 = .ok (.iload_n 2, 1) := by decide +kernel
theorem dX12_appends_13 : decode cX12_appends 13 = .ok (.invokevirtual 148, 3) := by decide +kernel
theorem dX12_appends_16 : decode cX12_appends 16 = .ok (.aload_n 0, 1) := by decide +kernel
theorem dX12_appends_17 : decode cX12_appends 17 = .ok (.iload_n 1, 1) := by decide +kernel
theorem dX12_appends_18 : decode cX12_appends 18 = .ok (.bipush 9, 2) := by decide +kernel
theorem dX12_appends_20 : decode cX12_appends 20 = .ok (.aload_n 0, 1) := by decide +kernel
theorem dX12_appends_21 : decode cX12_appends 21 = .ok (.iload_n 1, 1) := by decide +kernel
theorem dX12_appends_22 : decode cX12_appends 22 = .ok (.bipush 9, 2) := by decide +kernel
theorem dX12_appends_24 : decode cX12_appends 24 = .ok (.invokevirtual 63, 3) := by decide +kernel
theorem dX12_appends_27 : decode cX12_appends 27 = .ok (.iconst 1, 1) := by decide +kernel
theorem dX12_appends_28 : decode cX12_appends 28 = .ok (.iadd, 1) := by decide +kernel
theorem dX12_appends_29 : decode cX12_appends 29 = .ok (.invokevirtual 148, 3) := by decide +kernel
theorem dX12_appends_32 : decode cX12_appends 32 = .ok (.return_, 1) := by decide +kernel
theorem dX12_readKnows_0 : decode cX12_readKnows 0 = .ok (.aload_n 0, 1) := by decide +kernel
theorem dX12_readKnows_1 : decode cX12_readKnows 1 = .ok (.invokevirtual 152, 3) := by decide +kernel
theorem dX12_readKnows_4 : decode cX12_readKnows 4 = .ok (.istore_n 1, 1) := by decide +kernel
theorem dX12_readKnows_5 : decode cX12_readKnows 5 = .ok (.iload_n 1, 1) := by decide +kernel
theorem dX12_readKnows_6 : decode cX12_readKnows 6 = .ok (.ifCond .ge 5, 3) := by decide +kernel
theorem dX12_readKnows_9 : decode cX12_readKnows 9 = .ok (.iconst 0, 1) := by decide +kernel
theorem dX12_readKnows_10 : decode cX12_readKnows 10 = .ok (.ireturn, 1) := by decide +kernel
theorem dX12_readKnows_11 : decode cX12_readKnows 11 = .ok (.aload_n 0, 1) := by decide +kernel
theorem dX12_readKnows_12 : decode cX12_readKnows 12 = .ok (.invokevirtual 133, 3) := by decide +kernel
theorem dX12_readKnows_15 : decode cX12_readKnows 15 = .ok (.istore_n 2, 1) := by decide +kernel
theorem dX12_readKnows_16 : decode cX12_readKnows 16 = .ok (.iload_n 2, 1) := by decide +kernel
theorem dX12_readKnows_17 : decode cX12_readKnows 17 = .ok (.ifCond .lt 27, 3) := by decide +kernel
theorem dX12_readKnows_20 : decode cX12_readKnows 20 = .ok (.aload_n 0, 1) := by decide +kernel
theorem dX12_readKnows_21 : decode cX12_readKnows 21 = .ok (.iload_n 1, 1) := by decide +kernel
theorem dX12_readKnows_22 : decode cX12_readKnows 22 = .ok (.invokevirtual 88, 3) := by decide +kernel
theorem dX12_readKnows_25 : decode cX12_readKnows 25 = .ok (.iload_n 2, 1) := by decide +kernel
theorem dX12_readKnows_26 : decode cX12_readKnows 26 = .ok (.invokestatic 81, 3) := by decide +kernel
theorem dX12_readKnows_29 : decode cX12_readKnows 29 = .ok (.ifCond .ne 15, 3) := by decide +kernel
theorem dX12_readKnows_32 : decode cX12_readKnows 32 = .ok (.aload_n 0, 1) := by decide +kernel
theorem dX12_readKnows_33 : decode cX12_readKnows 33 = .ok (.iload_n 1, 1) := by decide +kernel
theorem dX12_readKnows_34 : decode cX12_readKnows 34 = .ok (.bipush 9, 2) := by decide +kernel
theorem dX12_readKnows_36 : decode cX12_readKnows 36 = .ok (.invokevirtual 63, 3) := by decide +kernel
theorem dX12_readKnows_39 : decode cX12_readKnows 39 = .ok (.bipush 12, 2) := by decide +kernel
theorem dX12_readKnows_41 : decode cX12_readKnows 41 = .ok (.if_icmp .ne 5, 3) := by decide +kernel
theorem dX12_readKnows_44 : decode cX12_readKnows 44 = .ok (.iconst 0, 1) := by decide +kernel
theorem dX12_readKnows_45 : decode cX12_readKnows 45 = .ok (.ireturn, 1) := by decide +kernel
theorem dX12_readKnows_46 : decode cX12_readKnows 46 = .ok (.aload_n 0, 1) := by decide +kernel
theorem dX12_readKnows_47 : decode cX12_readKnows 47 = .ok (.iload_n 1, 1) := by decide +kernel
theorem dX12_readKnows_48 : decode cX12_readKnows 48 = .ok (.iload_n 2, 1) := by decide +kernel
theorem dX12_readKnows_49 : decode cX12_readKnows 49 = .ok (.invokevirtual 155, 3) := by decide +kernel
theorem dX12_readKnows_52 : decode cX12_readKnows 52 = .ok (.aload_n 0, 1) := by decide +kernel
theorem dX12_readKnows_53 : decode cX12_readKnows 53 = .ok (.invokevirtual 136, 3) := by decide +kernel
theorem dX12_readKnows_56 : decode cX12_readKnows 56 = .ok (.ifCond .ne (-45), 3) := by decide +kernel
theorem dX12_readKnows_59 : decode cX12_readKnows 59 = .ok (.iconst 1, 1) := by decide +kernel
theorem dX12_readKnows_60 : decode cX12_readKnows 60 = .ok (.ireturn, 1) := by decide +kernel
theorem dX12_readBook_0 : decode cX12_readBook 0 = .ok (.aload_n 0, 1) := by decide +kernel
theorem dX12_readBook_1 : decode cX12_readBook 1 = .ok (.invokevirtual 152, 3) := by decide +kernel
theorem dX12_readBook_4 : decode cX12_readBook 4 = .ok (.istore_n 1, 1) := by decide +kernel
theorem dX12_readBook_5 : decode cX12_readBook 5 = .ok (.iload_n 1, 1) := by decide +kernel
theorem dX12_readBook_6 : decode cX12_readBook 6 = .ok (.ifCond .ge 7, 3) := by decide +kernel
theorem dX12_readBook_9 : decode cX12_readBook 9 = .ok (.iconst (-1), 1) := by decide +kernel
theorem dX12_readBook_10 : decode cX12_readBook 10 = .ok (.goto 7, 3) := by decide +kernel
theorem dX12_readBook_13 : decode cX12_readBook 13 = .ok (.aload_n 0, 1) := by decide +kernel
theorem dX12_readBook_14 : decode cX12_readBook 14 = .ok (.invokevirtual 145, 3) := by decide +kernel
theorem dX12_readBook_17 : decode cX12_readBook 17 = .ok (.istore_n 2, 1) := by decide +kernel
theorem dX12_readBook_18 : decode cX12_readBook 18 = .ok (.iload_n 2, 1) := by decide +kernel
theorem dX12_readBook_19 : decode cX12_readBook 19 = .ok (.ifCond .lt 19, 3) := by decide +kernel
theorem dX12_readBook_22 : decode cX12_readBook 22 = .ok (.aload_n 0, 1) := by decide +kernel
theorem dX12_readBook_23 : decode cX12_readBook 23 = .ok (.iload_n 1, 1) := by decide +kernel
theorem dX12_readBook_24 : decode cX12_readBook 24 = .ok (.bipush 22, 2) := by decide +kernel
theorem dX12_readBook_26 : decode cX12_readBook 26 = .ok (.aload_n 0, 1) := by decide +kernel
theorem dX12_readBook_27 : decode cX12_readBook 27 = .ok (.iload_n 1, 1) := by decide +kernel
theorem dX12_readBook_28 : decode cX12_readBook 28 = .ok (.bipush 22, 2) := by decide +kernel
theorem dX12_readBook_30 : decode cX12_readBook 30 = .ok (.invokevirtual 63, 3) := by decide +kernel
theorem dX12_readBook_33 : decode cX12_readBook 33 = .ok (.iload_n 2, 1) := by decide +kernel
theorem dX12_readBook_34 : decode cX12_readBook 34 = .ok (.ior, 1) := by decide +kernel
theorem dX12_readBook_35 : decode cX12_readBook 35 = .ok (.invokevirtual 148, 3) := by decide +kernel
theorem dX12_readBook_38 : decode cX12_readBook 38 = .ok (.iload_n 2, 1) := by decide +kernel
theorem dX12_readBook_39 : decode cX12_readBook 39 = .ok (.ifCond .lt 7, 3) := by decide +kernel
theorem dX12_readBook_42 : decode cX12_readBook 42 = .ok (.iconst 1, 1) := by decide +kernel
theorem dX12_readBook_43 : decode cX12_readBook 43 = .ok (.goto 4, 3) := by decide +kernel
theorem dX12_readBook_46 : decode cX12_readBook 46 = .ok (.iconst 0, 1) := by decide +kernel
theorem dX12_readBook_47 : decode cX12_readBook 47 = .ok (.ireturn, 1) := by decide +kernel
theorem dX12_readOrder_0 : decode cX12_readOrder 0 = .ok (.aload_n 0, 1) := by decide +kernel
theorem dX12_readOrder_1 : decode cX12_readOrder 1 = .ok (.invokevirtual 159, 3) := by decide +kernel
theorem dX12_readOrder_4 : decode cX12_readOrder 4 = .ok (.bipush 10, 2) := by decide +kernel
theorem dX12_readOrder_6 : decode cX12_readOrder 6 = .ok (.if_icmp .ne 5, 3) := by decide +kernel
theorem dX12_readOrder_9 : decode cX12_readOrder 9 = .ok (.iconst 0, 1) := by decide +kernel
theorem dX12_readOrder_10 : decode cX12_readOrder 10 = .ok (.ireturn, 1) := by decide +kernel
theorem dX12_readOrder_11 : decode cX12_readOrder 11 = .ok (.aload_n 0, 1) := by decide +kernel
theorem dX12_readOrder_12 : decode cX12_readOrder 12 = .ok (.invokevirtual 152, 3) := by decide +kernel
theorem dX12_readOrder_15 : decode cX12_readOrder 15 = .ok (.istore_n 1, 1) := by decide +kernel
theorem dX12_readOrder_16 : decode cX12_readOrder 16 = .ok (.iload_n 1, 1) := by decide +kernel
theorem dX12_readOrder_17 : decode cX12_readOrder 17 = .ok (.ifCond .ge 7, 3) := by decide +kernel
theorem dX12_readOrder_20 : decode cX12_readOrder 20 = .ok (.iconst (-1), 1) := by decide +kernel
theorem dX12_readOrder_21 : decode cX12_readOrder 21 = .ok (.goto 7, 3) := by decide +kernel
theorem dX12_readOrder_24 : decode cX12_readOrder 24 = .ok (.aload_n 0, 1) := by decide +kernel
theorem dX12_readOrder_25 : decode cX12_readOrder 25 = .ok (.invokevirtual 145, 3) := by decide +kernel
theorem dX12_readOrder_28 : decode cX12_readOrder 28 = .ok (.istore_n 2, 1) := by decide +kernel
theorem dX12_readOrder_29 : decode cX12_readOrder 29 = .ok (.iload_n 2, 1) := by decide +kernel
theorem dX12_readOrder_30 : decode cX12_readOrder 30 = .ok (.ifCond .ge 5, 3) := by decide +kernel
theorem dX12_readOrder_33 : decode cX12_readOrder 33 = .ok (.iconst 0, 1) := by decide +kernel
theorem dX12_readOrder_34 : decode cX12_readOrder 34 = .ok (.ireturn, 1) := by decide +kernel
theorem dX12_readOrder_35 : decode cX12_readOrder 35 = .ok (.aload_n 0, 1) := by decide +kernel
theorem dX12_readOrder_36 : decode cX12_readOrder 36 = .ok (.getfield 13, 3) := by decide +kernel
theorem dX12_readOrder_39 : decode cX12_readOrder 39 = .ok (.sipush 291, 3) := by decide +kernel
theorem dX12_readOrder_42 : decode cX12_readOrder 42 = .ok (.iconst 2, 1) := by decide +kernel
theorem dX12_readOrder_43 : decode cX12_readOrder 43 = .ok (.aload_n 0, 1) := by decide +kernel
theorem dX12_readOrder_44 : decode cX12_readOrder 44 = .ok (.invokevirtual 159, 3) := by decide +kernel
theorem dX12_readOrder_47 : decode cX12_readOrder 47 = .ok (.imul, 1) := by decide +kernel
theorem dX12_readOrder_48 : decode cX12_readOrder 48 = .ok (.iadd, 1) := by decide +kernel
theorem dX12_readOrder_49 : decode cX12_readOrder 49 = .ok (.iload_n 1, 1) := by decide +kernel
theorem dX12_readOrder_50 : decode cX12_readOrder 50 = .ok (.iastore, 1) := by decide +kernel
theorem dX12_readOrder_51 : decode cX12_readOrder 51 = .ok (.aload_n 0, 1) := by decide +kernel
theorem dX12_readOrder_52 : decode cX12_readOrder 52 = .ok (.getfield 13, 3) := by decide +kernel
theorem dX12_readOrder_55 : decode cX12_readOrder 55 = .ok (.sipush 291, 3) := by decide +kernel
theorem dX12_readOrder_58 : decode cX12_readOrder 58 = .ok (.iconst 2, 1) := by decide +kernel
theorem dX12_readOrder_59 : decode cX12_readOrder 59 = .ok (.aload_n 0, 1) := by decide +kernel
theorem dX12_readOrder_60 : decode cX12_readOrder 60 = .ok (.invokevirtual 159, 3) := by decide +kernel
theorem dX12_readOrder_63 : decode cX12_readOrder 63 = .ok (.imul, 1) := by decide +kernel
theorem dX12_readOrder_64 : decode cX12_readOrder 64 = .ok (.iadd, 1) := by decide +kernel
theorem dX12_readOrder_65 : decode cX12_readOrder 65 = .ok (.iconst 1, 1) := by decide +kernel
theorem dX12_readOrder_66 : decode cX12_readOrder 66 = .ok (.iadd, 1) := by decide +kernel
theorem dX12_readOrder_67 : decode cX12_readOrder 67 = .ok (.iload_n 2, 1) := by decide +kernel
theorem dX12_readOrder_68 : decode cX12_readOrder 68 = .ok (.iastore, 1) := by decide +kernel
theorem dX12_readOrder_69 : decode cX12_readOrder 69 = .ok (.aload_n 0, 1) := by decide +kernel
theorem dX12_readOrder_70 : decode cX12_readOrder 70 = .ok (.getfield 13, 3) := by decide +kernel
theorem dX12_readOrder_73 : decode cX12_readOrder 73 = .ok (.iconst 2, 1) := by decide +kernel
theorem dX12_readOrder_74 : decode cX12_readOrder 74 = .ok (.dup2, 1) := by decide +kernel
theorem dX12_readOrder_75 : decode cX12_readOrder 75 = .ok (.iaload, 1) := by decide +kernel
theorem dX12_readOrder_76 : decode cX12_readOrder 76 = .ok (.iconst 1, 1) := by decide +kernel
theorem dX12_readOrder_77 : decode cX12_readOrder 77 = .ok (.iadd, 1) := by decide +kernel
theorem dX12_readOrder_78 : decode cX12_readOrder 78 = .ok (.iastore, 1) := by decide +kernel
theorem dX12_readOrder_79 : decode cX12_readOrder 79 = .ok (.iconst 1, 1) := by decide +kernel
theorem dX12_readOrder_80 : decode cX12_readOrder 80 = .ok (.ireturn, 1) := by decide +kernel
theorem dX12_readPlan_0 : decode cX12_readPlan 0 = .ok (.aload_n 0, 1) := by decide +kernel
theorem dX12_readPlan_1 : decode cX12_readPlan 1 = .ok (.iconst 0, 1) := by decide +kernel
theorem dX12_readPlan_2 : decode cX12_readPlan 2 = .ok (.iconst 1, 1) := by decide +kernel
theorem dX12_readPlan_3 : decode cX12_readPlan 3 = .ok (.invokevirtual 130, 3) := by decide +kernel
theorem dX12_readPlan_6 : decode cX12_readPlan 6 = .ok (.istore_n 1, 1) := by decide +kernel
theorem dX12_readPlan_7 : decode cX12_readPlan 7 = .ok (.iload_n 1, 1) := by decide +kernel
theorem dX12_readPlan_8 : decode cX12_readPlan 8 = .ok (.ifCond .ge 7, 3) := by decide +kernel
theorem dX12_readPlan_11 : decode cX12_readPlan 11 = .ok (.iconst (-1), 1) := by decide +kernel
theorem dX12_readPlan_12 : decode cX12_readPlan 12 = .ok (.goto 7, 3) := by decide +kernel
theorem dX12_readPlan_15 : decode cX12_readPlan 15 = .ok (.aload_n 0, 1) := by decide +kernel
theorem dX12_readPlan_16 : decode cX12_readPlan 16 = .ok (.invokevirtual 145, 3) := by decide +kernel
theorem dX12_readPlan_19 : decode cX12_readPlan 19 = .ok (.istore_n 2, 1) := by decide +kernel
theorem dX12_readPlan_20 : decode cX12_readPlan 20 = .ok (.iload_n 2, 1) := by decide +kernel
theorem dX12_readPlan_21 : decode cX12_readPlan 21 = .ok (.ifCond .lt 16, 3) := by decide +kernel
theorem dX12_readPlan_24 : decode cX12_readPlan 24 = .ok (.aload_n 0, 1) := by decide +kernel
theorem dX12_readPlan_25 : decode cX12_readPlan 25 = .ok (.getfield 13, 3) := by decide +kernel
theorem dX12_readPlan_28 : decode cX12_readPlan 28 = .ok (.bipush 11, 2) := by decide +kernel
theorem dX12_readPlan_30 : decode cX12_readPlan 30 = .ok (.iload_n 1, 1) := by decide +kernel
theorem dX12_readPlan_31 : decode cX12_readPlan 31 = .ok (.iadd, 1) := by decide +kernel
theorem dX12_readPlan_32 : decode cX12_readPlan 32 = .ok (.dup2, 1) := by decide +kernel
theorem dX12_readPlan_33 : decode cX12_readPlan 33 = .ok (.iaload, 1) := by decide +kernel
theorem dX12_readPlan_34 : decode cX12_readPlan 34 = .ok (.iload_n 2, 1) := by decide +kernel
theorem dX12_readPlan_35 : decode cX12_readPlan 35 = .ok (.ior, 1) := by decide +kernel
theorem dX12_readPlan_36 : decode cX12_readPlan 36 = .ok (.iastore, 1) := by decide +kernel
theorem dX12_readPlan_37 : decode cX12_readPlan 37 = .ok (.iload_n 2, 1) := by decide +kernel
theorem dX12_readPlan_38 : decode cX12_readPlan 38 = .ok (.ifCond .lt 7, 3) := by decide +kernel
theorem dX12_readPlan_41 : decode cX12_readPlan 41 = .ok (.iconst 1, 1) := by decide +kernel
theorem dX12_readPlan_42 : decode cX12_readPlan 42 = .ok (.goto 4, 3) := by decide +kernel
theorem dX12_readPlan_45 : decode cX12_readPlan 45 = .ok (.iconst 0, 1) := by decide +kernel
theorem dX12_readPlan_46 : decode cX12_readPlan 46 = .ok (.ireturn, 1) := by decide +kernel
theorem dX12_readClash_0 : decode cX12_readClash 0 = .ok (.aload_n 0, 1) := by decide +kernel
theorem dX12_readClash_1 : decode cX12_readClash 1 = .ok (.invokevirtual 133, 3) := by decide +kernel
theorem dX12_readClash_4 : decode cX12_readClash 4 = .ok (.istore_n 1, 1) := by decide +kernel
theorem dX12_readClash_5 : decode cX12_readClash 5 = .ok (.iload_n 1, 1) := by decide +kernel
theorem dX12_readClash_6 : decode cX12_readClash 6 = .ok (.ifCond .ge 7, 3) := by decide +kernel
theorem dX12_readClash_9 : decode cX12_readClash 9 = .ok (.iconst (-1), 1) := by decide +kernel
theorem dX12_readClash_10 : decode cX12_readClash 10 = .ok (.goto 7, 3) := by decide +kernel
theorem dX12_readClash_13 : decode cX12_readClash 13 = .ok (.aload_n 0, 1) := by decide +kernel
theorem dX12_readClash_14 : decode cX12_readClash 14 = .ok (.invokevirtual 133, 3) := by decide +kernel
theorem dX12_readClash_17 : decode cX12_readClash 17 = .ok (.istore_n 2, 1) := by decide +kernel
theorem dX12_readClash_18 : decode cX12_readClash 18 = .ok (.iload_n 2, 1) := by decide +kernel
theorem dX12_readClash_19 : decode cX12_readClash 19 = .ok (.ifCond .lt 8, 3) := by decide +kernel
theorem dX12_readClash_22 : decode cX12_readClash 22 = .ok (.iload_n 1, 1) := by decide +kernel
theorem dX12_readClash_23 : decode cX12_readClash 23 = .ok (.iload_n 2, 1) := by decide +kernel
theorem dX12_readClash_24 : decode cX12_readClash 24 = .ok (.if_icmp .ne 5, 3) := by decide +kernel
theorem dX12_readClash_27 : decode cX12_readClash 27 = .ok (.iconst 0, 1) := by decide +kernel
theorem dX12_readClash_28 : decode cX12_readClash 28 = .ok (.ireturn, 1) := by decide +kernel
theorem dX12_readClash_29 : decode cX12_readClash 29 = .ok (.aload_n 0, 1) := by decide +kernel
theorem dX12_readClash_30 : decode cX12_readClash 30 = .ok (.getfield 13, 3) := by decide +kernel
theorem dX12_readClash_33 : decode cX12_readClash 33 = .ok (.bipush 13, 2) := by decide +kernel
theorem dX12_readClash_35 : decode cX12_readClash 35 = .ok (.iconst 3, 1) := by decide +kernel
theorem dX12_readClash_36 : decode cX12_readClash 36 = .ok (.iload_n 1, 1) := by decide +kernel
theorem dX12_readClash_37 : decode cX12_readClash 37 = .ok (.imul, 1) := by decide +kernel
theorem dX12_readClash_38 : decode cX12_readClash 38 = .ok (.iadd, 1) := by decide +kernel
theorem dX12_readClash_39 : decode cX12_readClash 39 = .ok (.iconst 2, 1) := by decide +kernel
theorem dX12_readClash_40 : decode cX12_readClash 40 = .ok (.iadd, 1) := by decide +kernel
theorem dX12_readClash_41 : decode cX12_readClash 41 = .ok (.dup2, 1) := by decide +kernel
theorem dX12_readClash_42 : decode cX12_readClash 42 = .ok (.iaload, 1) := by decide +kernel
theorem dX12_readClash_43 : decode cX12_readClash 43 = .ok (.iconst 1, 1) := by decide +kernel
theorem dX12_readClash_44 : decode cX12_readClash 44 = .ok (.iload_n 2, 1) := by decide +kernel
theorem dX12_readClash_45 : decode cX12_readClash 45 = .ok (.ishl, 1) := by decide +kernel
theorem dX12_readClash_46 : decode cX12_readClash 46 = .ok (.ior, 1) := by decide +kernel
theorem dX12_readClash_47 : decode cX12_readClash 47 = .ok (.iastore, 1) := by decide +kernel
theorem dX12_readClash_48 : decode cX12_readClash 48 = .ok (.aload_n 0, 1) := by decide +kernel
theorem dX12_readClash_49 : decode cX12_readClash 49 = .ok (.getfield 13, 3) := by decide +kernel
theorem dX12_readClash_52 : decode cX12_readClash 52 = .ok (.bipush 13, 2) := by decide +kernel
theorem dX12_readClash_54 : decode cX12_readClash 54 = .ok (.iconst 3, 1) := by decide +kernel
theorem dX12_readClash_55 : decode cX12_readClash 55 = .ok (.iload_n 2, 1) := by decide +kernel
theorem dX12_readClash_56 : decode cX12_readClash 56 = .ok (.imul, 1) := by decide +kernel
theorem dX12_readClash_57 : decode cX12_readClash 57 = .ok (.iadd, 1) := by decide +kernel
theorem dX12_readClash_58 : decode cX12_readClash 58 = .ok (.iconst 2, 1) := by decide +kernel
theorem dX12_readClash_59 : decode cX12_readClash 59 = .ok (.iadd, 1) := by decide +kernel
theorem dX12_readClash_60 : decode cX12_readClash 60 = .ok (.dup2, 1) := by decide +kernel
theorem dX12_readClash_61 : decode cX12_readClash 61 = .ok (.iaload, 1) := by decide +kernel
theorem dX12_readClash_62 : decode cX12_readClash 62 = .ok (.iconst 1, 1) := by decide +kernel
theorem dX12_readClash_63 : decode cX12_readClash 63 = .ok (.iload_n 1, 1) := by decide +kernel
theorem dX12_readClash_64 : decode cX12_readClash 64 = .ok (.ishl, 1) := by decide +kernel
theorem dX12_readClash_65 : decode cX12_readClash 65 = .ok (.ior, 1) := by decide +kernel
theorem dX12_readClash_66 : decode cX12_readClash 66 = .ok (.iastore, 1) := by decide +kernel
theorem dX12_readClash_67 : decode cX12_readClash 67 = .ok (.iconst 1, 1) := by decide +kernel
theorem dX12_readClash_68 : decode cX12_readClash 68 = .ok (.ireturn, 1) := by decide +kernel
theorem dX12_readWarLine_0 : decode cX12_readWarLine 0 = .ok (.aload_n 0, 1) := by decide +kernel
theorem dX12_readWarLine_1 : decode cX12_readWarLine 1 = .ok (.ldc 162, 2) := by decide +kernel
theorem dX12_readWarLine_3 : decode cX12_readWarLine 3 = .ok (.invokevirtual 126, 3) := by decide +kernel
theorem dX12_readWarLine_6 : decode cX12_readWarLine 6 = .ok (.ifCond .eq 8, 3) := by decide +kernel
theorem dX12_readWarLine_9 : decode cX12_readWarLine 9 = .ok (.aload_n 0, 1) := by decide +kernel
theorem dX12_readWarLine_10 : decode cX12_readWarLine 10 = .ok (.invokevirtual 164, 3) := by decide +kernel
theorem dX12_readWarLine_13 : decode cX12_readWarLine 13 = .ok (.ireturn, 1) := by decide +kernel
theorem dX12_readWarLine_14 : decode cX12_readWarLine 14 = .ok (.aload_n 0, 1) := by decide +kernel
theorem dX12_readWarLine_15 : decode cX12_readWarLine 15 = .ok (.ldc 167, 2) := by decide +kernel
theorem dX12_readWarLine_17 : decode cX12_readWarLine 17 = .ok (.invokevirtual 126, 3) := by decide +kernel
theorem dX12_readWarLine_20 : decode cX12_readWarLine 20 = .ok (.ifCond .eq 8, 3) := by decide +kernel
theorem dX12_readWarLine_23 : decode cX12_readWarLine 23 = .ok (.aload_n 0, 1) := by decide +kernel
theorem dX12_readWarLine_24 : decode cX12_readWarLine 24 = .ok (.invokevirtual 169, 3) := by decide +kernel
theorem dX12_readWarLine_27 : decode cX12_readWarLine 27 = .ok (.ireturn, 1) := by decide +kernel
theorem dX12_readWarLine_28 : decode cX12_readWarLine 28 = .ok (.aload_n 0, 1) := by decide +kernel
theorem dX12_readWarLine_29 : decode cX12_readWarLine 29 = .ok (.ldc 172, 2) := by decide +kernel
theorem dX12_readWarLine_31 : decode cX12_readWarLine 31 = .ok (.invokevirtual 126, 3) := by decide +kernel
theorem dX12_readWarLine_34 : decode cX12_readWarLine 34 = .ok (.ifCond .eq 8, 3) := by decide +kernel
theorem dX12_readWarLine_37 : decode cX12_readWarLine 37 = .ok (.aload_n 0, 1) := by decide +kernel
theorem dX12_readWarLine_38 : decode cX12_readWarLine 38 = .ok (.invokevirtual 174, 3) := by decide +kernel
theorem dX12_readWarLine_41 : decode cX12_readWarLine 41 = .ok (.ireturn, 1) := by decide +kernel
theorem dX12_readWarLine_42 : decode cX12_readWarLine 42 = .ok (.aload_n 0, 1) := by decide +kernel
theorem dX12_readWarLine_43 : decode cX12_readWarLine 43 = .ok (.ldc 177, 2) := by decide +kernel
theorem dX12_readWarLine_45 : decode cX12_readWarLine 45 = .ok (.invokevirtual 126, 3) := by decide +kernel
theorem dX12_readWarLine_48 : decode cX12_readWarLine 48 = .ok (.ifCond .eq 8, 3) := by decide +kernel
theorem dX12_readWarLine_51 : decode cX12_readWarLine 51 = .ok (.aload_n 0, 1) := by decide +kernel
theorem dX12_readWarLine_52 : decode cX12_readWarLine 52 = .ok (.invokevirtual 179, 3) := by decide +kernel
theorem dX12_readWarLine_55 : decode cX12_readWarLine 55 = .ok (.ireturn, 1) := by decide +kernel
theorem dX12_readWarLine_56 : decode cX12_readWarLine 56 = .ok (.aload_n 0, 1) := by decide +kernel
theorem dX12_readWarLine_57 : decode cX12_readWarLine 57 = .ok (.ldc 182, 2) := by decide +kernel
theorem dX12_readWarLine_59 : decode cX12_readWarLine 59 = .ok (.invokevirtual 126, 3) := by decide +kernel
theorem dX12_readWarLine_62 : decode cX12_readWarLine 62 = .ok (.ifCond .eq 8, 3) := by decide +kernel
theorem dX12_readWarLine_65 : decode cX12_readWarLine 65 = .ok (.aload_n 0, 1) := by decide +kernel
theorem dX12_readWarLine_66 : decode cX12_readWarLine 66 = .ok (.invokevirtual 184, 3) := by decide +kernel
theorem dX12_readWarLine_69 : decode cX12_readWarLine 69 = .ok (.ireturn, 1) := by decide +kernel
theorem dX12_readWarLine_70 : decode cX12_readWarLine 70 = .ok (.aload_n 0, 1) := by decide +kernel
theorem dX12_readWarLine_71 : decode cX12_readWarLine 71 = .ok (.ldc 187, 2) := by decide +kernel
theorem dX12_readWarLine_73 : decode cX12_readWarLine 73 = .ok (.invokevirtual 126, 3) := by decide +kernel
theorem dX12_readWarLine_76 : decode cX12_readWarLine 76 = .ok (.ifCond .eq 8, 3) := by decide +kernel
theorem dX12_readWarLine_79 : decode cX12_readWarLine 79 = .ok (.aload_n 0, 1) := by decide +kernel
theorem dX12_readWarLine_80 : decode cX12_readWarLine 80 = .ok (.invokevirtual 189, 3) := by decide +kernel
theorem dX12_readWarLine_83 : decode cX12_readWarLine 83 = .ok (.ireturn, 1) := by decide +kernel
theorem dX12_readWarLine_84 : decode cX12_readWarLine 84 = .ok (.aload_n 0, 1) := by decide +kernel
theorem dX12_readWarLine_85 : decode cX12_readWarLine 85 = .ok (.ldc 192, 2) := by decide +kernel
theorem dX12_readWarLine_87 : decode cX12_readWarLine 87 = .ok (.invokevirtual 126, 3) := by decide +kernel
theorem dX12_readWarLine_90 : decode cX12_readWarLine 90 = .ok (.ifCond .eq 14, 3) := by decide +kernel
theorem dX12_readWarLine_93 : decode cX12_readWarLine 93 = .ok (.aload_n 0, 1) := by decide +kernel
theorem dX12_readWarLine_94 : decode cX12_readWarLine 94 = .ok (.invokevirtual 194, 3) := by decide +kernel
theorem dX12_readWarLine_97 : decode cX12_readWarLine 97 = .ok (.ifCond .eq 7, 3) := by decide +kernel
theorem dX12_readWarLine_100 : decode cX12_readWarLine 100 = .ok (.iconst 1, 1) := by decide +kernel
theorem dX12_readWarLine_101 : decode cX12_readWarLine 101 = .ok (.goto 4, 3) := by decide +kernel
theorem dX12_readWarLine_104 : decode cX12_readWarLine 104 = .ok (.iconst 0, 1) := by decide +kernel
theorem dX12_readWarLine_105 : decode cX12_readWarLine 105 = .ok (.ireturn, 1) := by decide +kernel
theorem dX12_emits_0 : decode cX12_emits 0 = .ok (.aload_n 0, 1) := by decide +kernel
theorem dX12_emits_1 : decode cX12_emits 1 = .ok (.getfield 13, 3) := by decide +kernel
theorem dX12_emits_4 : decode cX12_emits 4 = .ok (.sipush 1629, 3) := by decide +kernel
theorem dX12_emits_7 : decode cX12_emits 7 = .ok (.iconst 2, 1) := by decide +kernel
theorem dX12_emits_8 : decode cX12_emits 8 = .ok (.aload_n 0, 1) := by decide +kernel
theorem dX12_emits_9 : decode cX12_emits 9 = .ok (.getfield 197, 3) := by decide +kernel
theorem dX12_emits_12 : decode cX12_emits 12 = .ok (.imul, 1) := by decide +kernel
theorem dX12_emits_13 : decode cX12_emits 13 = .ok (.iadd, 1) := by decide +kernel
theorem dX12_emits_14 : decode cX12_emits 14 = .ok (.iload_n 1, 1) := by decide +kernel
theorem dX12_emits_15 : decode cX12_emits 15 = .ok (.iastore, 1) := by decide +kernel
theorem dX12_emits_16 : decode cX12_emits 16 = .ok (.aload_n 0, 1) := by decide +kernel
theorem dX12_emits_17 : decode cX12_emits 17 = .ok (.getfield 13, 3) := by decide +kernel
theorem dX12_emits_20 : decode cX12_emits 20 = .ok (.sipush 1629, 3) := by decide +kernel
theorem dX12_emits_23 : decode cX12_emits 23 = .ok (.iconst 2, 1) := by decide +kernel
theorem dX12_emits_24 : decode cX12_emits 24 = .ok (.aload_n 0, 1) := by decide +kernel
theorem dX12_emits_25 : decode cX12_emits 25 = .ok (.getfield 197, 3) := by decide +kernel
theorem dX12_emits_28 : decode cX12_emits 28 = .ok (.imul, 1) := by decide +kernel
theorem dX12_emits_29 : decode cX12_emits 29 = .ok (.iadd, 1) := by decide +kernel
theorem dX12_emits_30 : decode cX12_emits 30 = .ok (.iconst 1, 1) := by decide +kernel
theorem dX12_emits_31 : decode cX12_emits 31 = .ok (.iadd, 1) := by decide +kernel
theorem dX12_emits_32 : decode cX12_emits 32 = .ok (.iload_n 2, 1) := by decide +kernel
theorem dX12_emits_33 : decode cX12_emits 33 = .ok (.iastore, 1) := by decide +kernel
theorem dX12_emits_34 : decode cX12_emits 34 = .ok (.aload_n 0, 1) := by decide +kernel
theorem dX12_emits_35 : decode cX12_emits 35 = .ok (.dup, 1) := by decide +kernel
theorem dX12_emits_36 : decode cX12_emits 36 = .ok (.getfield 197, 3) := by decide +kernel
theorem dX12_emits_39 : decode cX12_emits 39 = .ok (.iconst 1, 1) := by decide +kernel
theorem dX12_emits_40 : decode cX12_emits 40 = .ok (.iadd, 1) := by decide +kernel
theorem dX12_emits_41 : decode cX12_emits 41 = .ok (.putfield 197, 3) := by decide +kernel
theorem dX12_emits_44 : decode cX12_emits 44 = .ok (.return_, 1) := by decide +kernel
theorem dX12_readPart_0 : decode cX12_readPart 0 = .ok (.aload_n 0, 1) := by decide +kernel
theorem dX12_readPart_1 : decode cX12_readPart 1 = .ok (.invokevirtual 123, 3) := by decide +kernel
theorem dX12_readPart_4 : decode cX12_readPart 4 = .ok (.aload_n 0, 1) := by decide +kernel
theorem dX12_readPart_5 : decode cX12_readPart 5 = .ok (.getfield 99, 3) := by decide +kernel
theorem dX12_readPart_8 : decode cX12_readPart 8 = .ok (.aload_n 0, 1) := by decide +kernel
theorem dX12_readPart_9 : decode cX12_readPart 9 = .ok (.getfield 108, 3) := by decide +kernel
theorem dX12_readPart_12 : decode cX12_readPart 12 = .ok (.if_icmp .ne 22, 3) := by decide +kernel
theorem dX12_readPart_15 : decode cX12_readPart 15 = .ok (.aload_n 0, 1) := by decide +kernel
theorem dX12_readPart_16 : decode cX12_readPart 16 = .ok (.iconst 0, 1) := by decide +kernel
theorem dX12_readPart_17 : decode cX12_readPart 17 = .ok (.sipush 999, 3) := by decide +kernel
theorem dX12_readPart_20 : decode cX12_readPart 20 = .ok (.invokevirtual 130, 3) := by decide +kernel
theorem dX12_readPart_23 : decode cX12_readPart 23 = .ok (.istore_n 1, 1) := by decide +kernel
theorem dX12_readPart_24 : decode cX12_readPart 24 = .ok (.aload_n 0, 1) := by decide +kernel
theorem dX12_readPart_25 : decode cX12_readPart 25 = .ok (.bipush 8, 2) := by decide +kernel
theorem dX12_readPart_27 : decode cX12_readPart 27 = .ok (.iload_n 1, 1) := by decide +kernel
theorem dX12_readPart_28 : decode cX12_readPart 28 = .ok (.invokevirtual 200, 3) := by decide +kernel
theorem dX12_readPart_31 : decode cX12_readPart 31 = .ok (.goto 103, 3) := by decide +kernel
theorem dX12_readPart_34 : decode cX12_readPart 34 = .ok (.aload_n 0, 1) := by decide +kernel
theorem dX12_readPart_35 : decode cX12_readPart 35 = .ok (.ldc 167, 2) := by decide +kernel
theorem dX12_readPart_37 : decode cX12_readPart 37 = .ok (.invokevirtual 126, 3) := by decide +kernel
theorem dX12_readPart_40 : decode cX12_readPart 40 = .ok (.ifCond .eq 7, 3) := by decide +kernel
theorem dX12_readPart_43 : decode cX12_readPart 43 = .ok (.iconst 0, 1) := by decide +kernel
theorem dX12_readPart_44 : decode cX12_readPart 44 = .ok (.goto 83, 3) := by decide +kernel
theorem dX12_readPart_47 : decode cX12_readPart 47 = .ok (.aload_n 0, 1) := by decide +kernel
theorem dX12_readPart_48 : decode cX12_readPart 48 = .ok (.ldc 203, 2) := by decide +kernel
theorem dX12_readPart_50 : decode cX12_readPart 50 = .ok (.invokevirtual 126, 3) := by decide +kernel
theorem dX12_readPart_53 : decode cX12_readPart 53 = .ok (.ifCond .eq 7, 3) := by decide +kernel
theorem dX12_readPart_56 : decode cX12_readPart 56 = .ok (.iconst 1, 1) := by decide +kernel
theorem dX12_readPart_57 : decode cX12_readPart 57 = .ok (.goto 70, 3) := by decide +kernel
theorem dX12_readPart_60 : decode cX12_readPart 60 = .ok (.aload_n 0, 1) := by decide +kernel
theorem dX12_readPart_61 : decode cX12_readPart 61 = .ok (.ldc 205, 2) := by decide +kernel
theorem dX12_readPart_63 : decode cX12_readPart 63 = .ok (.invokevirtual 126, 3) := by decide +kernel
theorem dX12_readPart_66 : decode cX12_readPart 66 = .ok (.ifCond .eq 7, 3) := by decide +kernel
theorem dX12_readPart_69 : decode cX12_readPart 69 = .ok (.iconst 2, 1) := by decide +kernel
theorem dX12_readPart_70 : decode cX12_readPart 70 = .ok (.goto 57, 3) := by decide +kernel
theorem dX12_readPart_73 : decode cX12_readPart 73 = .ok (.aload_n 0, 1) := by decide +kernel
theorem dX12_readPart_74 : decode cX12_readPart 74 = .ok (.ldc 207, 2) := by decide +kernel
theorem dX12_readPart_76 : decode cX12_readPart 76 = .ok (.invokevirtual 126, 3) := by decide +kernel
theorem dX12_readPart_79 : decode cX12_readPart 79 = .ok (.ifCond .eq 7, 3) := by decide +kernel
theorem dX12_readPart_82 : decode cX12_readPart 82 = .ok (.iconst 3, 1) := by decide +kernel
theorem dX12_readPart_83 : decode cX12_readPart 83 = .ok (.goto 44, 3) := by decide +kernel
theorem dX12_readPart_86 : decode cX12_readPart 86 = .ok (.aload_n 0, 1) := by decide +kernel
theorem dX12_readPart_87 : decode cX12_readPart 87 = .ok (.ldc 209, 2) := by decide +kernel
theorem dX12_readPart_89 : decode cX12_readPart 89 = .ok (.invokevirtual 126, 3) := by decide +kernel
theorem dX12_readPart_92 : decode cX12_readPart 92 = .ok (.ifCond .eq 7, 3) := by decide +kernel
theorem dX12_readPart_95 : decode cX12_readPart 95 = .ok (.iconst 4, 1) := by decide +kernel
theorem dX12_readPart_96 : decode cX12_readPart 96 = .ok (.goto 31, 3) := by decide +kernel
theorem dX12_readPart_99 : decode cX12_readPart 99 = .ok (.aload_n 0, 1) := by decide +kernel
theorem dX12_readPart_100 : decode cX12_readPart 100 = .ok (.ldc 211, 2) := by decide +kernel
theorem dX12_readPart_102 : decode cX12_readPart 102 = .ok (.invokevirtual 126, 3) := by decide +kernel
theorem dX12_readPart_105 : decode cX12_readPart 105 = .ok (.ifCond .eq 7, 3) := by decide +kernel
theorem dX12_readPart_108 : decode cX12_readPart 108 = .ok (.iconst 5, 1) := by decide +kernel
theorem dX12_readPart_109 : decode cX12_readPart 109 = .ok (.goto 18, 3) := by decide +kernel
theorem dX12_readPart_112 : decode cX12_readPart 112 = .ok (.aload_n 0, 1) := by decide +kernel
theorem dX12_readPart_113 : decode cX12_readPart 113 = .ok (.ldc 212, 2) := by decide +kernel
theorem dX12_readPart_115 : decode cX12_readPart 115 = .ok (.invokevirtual 126, 3) := by decide +kernel
theorem dX12_readPart_118 : decode cX12_readPart 118 = .ok (.ifCond .eq 8, 3) := by decide +kernel
theorem dX12_readPart_121 : decode cX12_readPart 121 = .ok (.bipush 6, 2) := by decide +kernel
theorem dX12_readPart_123 : decode cX12_readPart 123 = .ok (.goto 4, 3) := by decide +kernel
theorem dX12_readPart_126 : decode cX12_readPart 126 = .ok (.iconst (-1), 1) := by decide +kernel
theorem dX12_readPart_127 : decode cX12_readPart 127 = .ok (.istore_n 1, 1) := by decide +kernel
theorem dX12_readPart_128 : decode cX12_readPart 128 = .ok (.aload_n 0, 1) := by decide +kernel
theorem dX12_readPart_129 : decode cX12_readPart 129 = .ok (.iload_n 1, 1) := by decide +kernel
theorem dX12_readPart_130 : decode cX12_readPart 130 = .ok (.iconst 0, 1) := by decide +kernel
theorem dX12_readPart_131 : decode cX12_readPart 131 = .ok (.invokevirtual 200, 3) := by decide +kernel
theorem dX12_readPart_134 : decode cX12_readPart 134 = .ok (.iload_n 1, 1) := by decide +kernel
theorem dX12_readPart_135 : decode cX12_readPart 135 = .ok (.ifCond .lt 7, 3) := by decide +kernel
theorem dX12_readPart_138 : decode cX12_readPart 138 = .ok (.iconst 1, 1) := by decide +kernel
theorem dX12_readPart_139 : decode cX12_readPart 139 = .ok (.goto 4, 3) := by decide +kernel
theorem dX12_readPart_142 : decode cX12_readPart 142 = .ok (.iconst 0, 1) := by decide +kernel
theorem dX12_readPart_143 : decode cX12_readPart 143 = .ok (.ireturn, 1) := by decide +kernel
theorem dX12_readSum_0 : decode cX12_readSum 0 = .ok (.aload_n 0, 1) := by decide +kernel
theorem dX12_readSum_1 : decode cX12_readSum 1 = .ok (.invokevirtual 214, 3) := by decide +kernel
theorem dX12_readSum_4 : decode cX12_readSum 4 = .ok (.ifCond .ne 5, 3) := by decide +kernel
theorem dX12_readSum_7 : decode cX12_readSum 7 = .ok (.iconst 0, 1) := by decide +kernel
theorem dX12_readSum_8 : decode cX12_readSum 8 = .ok (.ireturn, 1) := by decide +kernel
theorem dX12_readSum_9 : decode cX12_readSum 9 = .ok (.aload_n 0, 1) := by decide +kernel
theorem dX12_readSum_10 : decode cX12_readSum 10 = .ok (.bipush 43, 2) := by decide +kernel
theorem dX12_readSum_12 : decode cX12_readSum 12 = .ok (.invokevirtual 217, 3) := by decide +kernel
theorem dX12_readSum_15 : decode cX12_readSum 15 = .ok (.ifCond .eq 22, 3) := by decide +kernel
theorem dX12_readSum_18 : decode cX12_readSum 18 = .ok (.aload_n 0, 1) := by decide +kernel
theorem dX12_readSum_19 : decode cX12_readSum 19 = .ok (.invokevirtual 214, 3) := by decide +kernel
theorem dX12_readSum_22 : decode cX12_readSum 22 = .ok (.ifCond .ne 5, 3) := by decide +kernel
theorem dX12_readSum_25 : decode cX12_readSum 25 = .ok (.iconst 0, 1) := by decide +kernel
theorem dX12_readSum_26 : decode cX12_readSum 26 = .ok (.ireturn, 1) := by decide +kernel
theorem dX12_readSum_27 : decode cX12_readSum 27 = .ok (.aload_n 0, 1) := by decide +kernel
theorem dX12_readSum_28 : decode cX12_readSum 28 = .ok (.bipush 9, 2) := by decide +kernel
theorem dX12_readSum_30 : decode cX12_readSum 30 = .ok (.iconst 0, 1) := by decide +kernel
theorem dX12_readSum_31 : decode cX12_readSum 31 = .ok (.invokevirtual 200, 3) := by decide +kernel
theorem dX12_readSum_34 : decode cX12_readSum 34 = .ok (.goto (-25), 3) := by decide +kernel
theorem dX12_readSum_37 : decode cX12_readSum 37 = .ok (.iconst 1, 1) := by decide +kernel
theorem dX12_readSum_38 : decode cX12_readSum 38 = .ok (.ireturn, 1) := by decide +kernel
theorem dX12_readAtom_0 : decode cX12_readAtom 0 = .ok (.aload_n 0, 1) := by decide +kernel
theorem dX12_readAtom_1 : decode cX12_readAtom 1 = .ok (.bipush 40, 2) := by decide +kernel
theorem dX12_readAtom_3 : decode cX12_readAtom 3 = .ok (.invokevirtual 217, 3) := by decide +kernel
theorem dX12_readAtom_6 : decode cX12_readAtom 6 = .ok (.ifCond .eq 50, 3) := by decide +kernel
theorem dX12_readAtom_9 : decode cX12_readAtom 9 = .ok (.aload_n 0, 1) := by decide +kernel
theorem dX12_readAtom_10 : decode cX12_readAtom 10 = .ok (.getfield 221, 3) := by decide +kernel
theorem dX12_readAtom_13 : decode cX12_readAtom 13 = .ok (.bipush 6, 2) := by decide +kernel
theorem dX12_readAtom_15 : decode cX12_readAtom 15 = .ok (.if_icmp .ne 5, 3) := by decide +kernel
theorem dX12_readAtom_18 : decode cX12_readAtom 18 = .ok (.iconst 0, 1) := by decide +kernel
theorem dX12_readAtom_19 : decode cX12_readAtom 19 = .ok (.ireturn, 1) := by decide +kernel
theorem dX12_readAtom_20 : decode cX12_readAtom 20 = .ok (.aload_n 0, 1) := by decide +kernel
theorem dX12_readAtom_21 : decode cX12_readAtom 21 = .ok (.dup, 1) := by decide +kernel
theorem dX12_readAtom_22 : decode cX12_readAtom 22 = .ok (.getfield 221, 3) := by decide +kernel
theorem dX12_readAtom_25 : decode cX12_readAtom 25 = .ok (.iconst 1, 1) := by decide +kernel
theorem dX12_readAtom_26 : decode cX12_readAtom 26 = .ok (.iadd, 1) := by decide +kernel
theorem dX12_readAtom_27 : decode cX12_readAtom 27 = .ok (.putfield 221, 3) := by decide +kernel
theorem dX12_readAtom_30 : decode cX12_readAtom 30 = .ok (.aload_n 0, 1) := by decide +kernel
theorem dX12_readAtom_31 : decode cX12_readAtom 31 = .ok (.invokevirtual 224, 3) := by decide +kernel
theorem dX12_readAtom_34 : decode cX12_readAtom 34 = .ok (.ifCond .ne 5, 3) := by decide +kernel
theorem dX12_readAtom_37 : decode cX12_readAtom 37 = .ok (.iconst 0, 1) := by decide +kernel
theorem dX12_readAtom_38 : decode cX12_readAtom 38 = .ok (.ireturn, 1) := by decide +kernel
theorem dX12_readAtom_39 : decode cX12_readAtom 39 = .ok (.aload_n 0, 1) := by decide +kernel
theorem dX12_readAtom_40 : decode cX12_readAtom 40 = .ok (.dup, 1) := by decide +kernel
theorem dX12_readAtom_41 : decode cX12_readAtom 41 = .ok (.getfield 221, 3) := by decide +kernel
theorem dX12_readAtom_44 : decode cX12_readAtom 44 = .ok (.iconst 1, 1) := by decide +kernel
theorem dX12_readAtom_45 : decode cX12_readAtom 45 = .ok (.isub, 1) := by decide +kernel
theorem dX12_readAtom_46 : decode cX12_readAtom 46 = .ok (.putfield 221, 3) := by decide +kernel
theorem dX12_readAtom_49 : decode cX12_readAtom 49 = .ok (.aload_n 0, 1) := by decide +kernel
theorem dX12_readAtom_50 : decode cX12_readAtom 50 = .ok (.bipush 41, 2) := by decide +kernel
theorem dX12_readAtom_52 : decode cX12_readAtom 52 = .ok (.invokevirtual 217, 3) := by decide +kernel
theorem dX12_readAtom_55 : decode cX12_readAtom 55 = .ok (.ireturn, 1) := by decide +kernel
theorem dX12_readAtom_56 : decode cX12_readAtom 56 = .ok (.aload_n 0, 1) := by decide +kernel
theorem dX12_readAtom_57 : decode cX12_readAtom 57 = .ok (.ldc 227, 2) := by decide +kernel
theorem dX12_readAtom_59 : decode cX12_readAtom 59 = .ok (.invokevirtual 142, 3) := by decide +kernel
theorem dX12_readAtom_62 : decode cX12_readAtom 62 = .ok (.ifCond .eq 52, 3) := by decide +kernel
theorem dX12_readAtom_65 : decode cX12_readAtom 65 = .ok (.aload_n 0, 1) := by decide +kernel
theorem dX12_readAtom_66 : decode cX12_readAtom 66 = .ok (.getfield 221, 3) := by decide +kernel
theorem dX12_readAtom_69 : decode cX12_readAtom 69 = .ok (.bipush 6, 2) := by decide +kernel
theorem dX12_readAtom_71 : decode cX12_readAtom 71 = .ok (.if_icmp .ne 5, 3) := by decide +kernel
theorem dX12_readAtom_74 : decode cX12_readAtom 74 = .ok (.iconst 0, 1) := by decide +kernel
theorem dX12_readAtom_75 : decode cX12_readAtom 75 = .ok (.ireturn, 1) := by decide +kernel
theorem dX12_readAtom_76 : decode cX12_readAtom 76 = .ok (.aload_n 0, 1) := by decide +kernel
theorem dX12_readAtom_77 : decode cX12_readAtom 77 = .ok (.dup, 1) := by decide +kernel
theorem dX12_readAtom_78 : decode cX12_readAtom 78 = .ok (.getfield 221, 3) := by decide +kernel
theorem dX12_readAtom_81 : decode cX12_readAtom 81 = .ok (.iconst 1, 1) := by decide +kernel
theorem dX12_readAtom_82 : decode cX12_readAtom 82 = .ok (.iadd, 1) := by decide +kernel
theorem dX12_readAtom_83 : decode cX12_readAtom 83 = .ok (.putfield 221, 3) := by decide +kernel
theorem dX12_readAtom_86 : decode cX12_readAtom 86 = .ok (.aload_n 0, 1) := by decide +kernel
theorem dX12_readAtom_87 : decode cX12_readAtom 87 = .ok (.invokevirtual 229, 3) := by decide +kernel
theorem dX12_readAtom_90 : decode cX12_readAtom 90 = .ok (.ifCond .ne 5, 3) := by decide +kernel
theorem dX12_readAtom_93 : decode cX12_readAtom 93 = .ok (.iconst 0, 1) := by decide +kernel
theorem dX12_readAtom_94 : decode cX12_readAtom 94 = .ok (.ireturn, 1) := by decide +kernel
theorem dX12_readAtom_95 : decode cX12_readAtom 95 = .ok (.aload_n 0, 1) := by decide +kernel
theorem dX12_readAtom_96 : decode cX12_readAtom 96 = .ok (.dup, 1) := by decide +kernel
theorem dX12_readAtom_97 : decode cX12_readAtom 97 = .ok (.getfield 221, 3) := by decide +kernel
theorem dX12_readAtom_100 : decode cX12_readAtom 100 = .ok (.iconst 1, 1) := by decide +kernel
theorem dX12_readAtom_101 : decode cX12_readAtom 101 = .ok (.isub, 1) := by decide +kernel
theorem dX12_readAtom_102 : decode cX12_readAtom 102 = .ok (.putfield 221, 3) := by decide +kernel
theorem dX12_readAtom_105 : decode cX12_readAtom 105 = .ok (.aload_n 0, 1) := by decide +kernel
theorem dX12_readAtom_106 : decode cX12_readAtom 106 = .ok (.bipush 12, 2) := by decide +kernel
theorem dX12_readAtom_108 : decode cX12_readAtom 108 = .ok (.iconst 0, 1) := by decide +kernel
theorem dX12_readAtom_109 : decode cX12_readAtom 109 = .ok (.invokevirtual 200, 3) := by decide +kernel
theorem dX12_readAtom_112 : decode cX12_readAtom 112 = .ok (.iconst 1, 1) := by decide +kernel
theorem dX12_readAtom_113 : decode cX12_readAtom 113 = .ok (.ireturn, 1) := by decide +kernel
theorem dX12_readAtom_114 : decode cX12_readAtom 114 = .ok (.aload_n 0, 1) := by decide +kernel
theorem dX12_readAtom_115 : decode cX12_readAtom 115 = .ok (.ldc 232, 2) := by decide +kernel
theorem dX12_readAtom_117 : decode cX12_readAtom 117 = .ok (.invokevirtual 142, 3) := by decide +kernel
theorem dX12_readAtom_120 : decode cX12_readAtom 120 = .ok (.ifCond .eq 12, 3) := by decide +kernel
theorem dX12_readAtom_123 : decode cX12_readAtom 123 = .ok (.aload_n 0, 1) := by decide +kernel
theorem dX12_readAtom_124 : decode cX12_readAtom 124 = .ok (.bipush 7, 2) := by decide +kernel
theorem dX12_readAtom_126 : decode cX12_readAtom 126 = .ok (.iconst 0, 1) := by decide +kernel
theorem dX12_readAtom_127 : decode cX12_readAtom 127 = .ok (.invokevirtual 200, 3) := by decide +kernel
theorem dX12_readAtom_130 : decode cX12_readAtom 130 = .ok (.iconst 1, 1) := by decide +kernel
theorem dX12_readAtom_131 : decode cX12_readAtom 131 = .ok (.ireturn, 1) := by decide +kernel
theorem dX12_readAtom_132 : decode cX12_readAtom 132 = .ok (.aload_n 0, 1) := by decide +kernel
theorem dX12_readAtom_133 : decode cX12_readAtom 133 = .ok (.invokevirtual 234, 3) := by decide +kernel
theorem dX12_readAtom_136 : decode cX12_readAtom 136 = .ok (.ifCond .ne 5, 3) := by decide +kernel
theorem dX12_readAtom_139 : decode cX12_readAtom 139 = .ok (.iconst 0, 1) := by decide +kernel
theorem dX12_readAtom_140 : decode cX12_readAtom 140 = .ok (.ireturn, 1) := by decide +kernel
theorem dX12_readAtom_141 : decode cX12_readAtom 141 = .ok (.aload_n 0, 1) := by decide +kernel
theorem dX12_readAtom_142 : decode cX12_readAtom 142 = .ok (.bipush 60, 2) := by decide +kernel
theorem dX12_readAtom_144 : decode cX12_readAtom 144 = .ok (.invokevirtual 217, 3) := by decide +kernel
theorem dX12_readAtom_147 : decode cX12_readAtom 147 = .ok (.istore_n 1, 1) := by decide +kernel
theorem dX12_readAtom_148 : decode cX12_readAtom 148 = .ok (.iload_n 1, 1) := by decide +kernel
theorem dX12_readAtom_149 : decode cX12_readAtom 149 = .ok (.ifCond .ne 12, 3) := by decide +kernel
theorem dX12_readAtom_152 : decode cX12_readAtom 152 = .ok (.aload_n 0, 1) := by decide +kernel
theorem dX12_readAtom_153 : decode cX12_readAtom 153 = .ok (.bipush 62, 2) := by decide +kernel
theorem dX12_readAtom_155 : decode cX12_readAtom 155 = .ok (.invokevirtual 217, 3) := by decide +kernel
theorem dX12_readAtom_158 : decode cX12_readAtom 158 = .ok (.ifCond .eq 10, 3) := by decide +kernel
theorem dX12_readAtom_161 : decode cX12_readAtom 161 = .ok (.aload_n 0, 1) := by decide +kernel
theorem dX12_readAtom_162 : decode cX12_readAtom 162 = .ok (.invokevirtual 234, 3) := by decide +kernel
theorem dX12_readAtom_165 : decode cX12_readAtom 165 = .ok (.ifCond .ne 5, 3) := by decide +kernel
theorem dX12_readAtom_168 : decode cX12_readAtom 168 = .ok (.iconst 0, 1) := by decide +kernel
theorem dX12_readAtom_169 : decode cX12_readAtom 169 = .ok (.ireturn, 1) := by decide +kernel
theorem dX12_readAtom_170 : decode cX12_readAtom 170 = .ok (.aload_n 0, 1) := by decide +kernel
theorem dX12_readAtom_171 : decode cX12_readAtom 171 = .ok (.iload_n 1, 1) := by decide +kernel
theorem dX12_readAtom_172 : decode cX12_readAtom 172 = .ok (.ifCond .eq 8, 3) := by decide +kernel
theorem dX12_readAtom_175 : decode cX12_readAtom 175 = .ok (.bipush 10, 2) := by decide +kernel
theorem dX12_readAtom_177 : decode cX12_readAtom 177 = .ok (.goto 5, 3) := by decide +kernel
theorem dX12_readAtom_180 : decode cX12_readAtom 180 = .ok (.bipush 11, 2) := by decide +kernel
theorem dX12_readAtom_182 : decode cX12_readAtom 182 = .ok (.iconst 0, 1) := by decide +kernel
theorem dX12_readAtom_183 : decode cX12_readAtom 183 = .ok (.invokevirtual 200, 3) := by decide +kernel
theorem dX12_readAtom_186 : decode cX12_readAtom 186 = .ok (.iconst 1, 1) := by decide +kernel
theorem dX12_readAtom_187 : decode cX12_readAtom 187 = .ok (.ireturn, 1) := by decide +kernel
theorem dX12_readAllOf_0 : decode cX12_readAllOf 0 = .ok (.aload_n 0, 1) := by decide +kernel
theorem dX12_readAllOf_1 : decode cX12_readAllOf 1 = .ok (.invokevirtual 229, 3) := by decide +kernel
theorem dX12_readAllOf_4 : decode cX12_readAllOf 4 = .ok (.ifCond .ne 5, 3) := by decide +kernel
theorem dX12_readAllOf_7 : decode cX12_readAllOf 7 = .ok (.iconst 0, 1) := by decide +kernel
theorem dX12_readAllOf_8 : decode cX12_readAllOf 8 = .ok (.ireturn, 1) := by decide +kernel
theorem dX12_readAllOf_9 : decode cX12_readAllOf 9 = .ok (.aload_n 0, 1) := by decide +kernel
theorem dX12_readAllOf_10 : decode cX12_readAllOf 10 = .ok (.ldc 237, 2) := by decide +kernel
theorem dX12_readAllOf_12 : decode cX12_readAllOf 12 = .ok (.invokevirtual 142, 3) := by decide +kernel
theorem dX12_readAllOf_15 : decode cX12_readAllOf 15 = .ok (.ifCond .eq 22, 3) := by decide +kernel
theorem dX12_readAllOf_18 : decode cX12_readAllOf 18 = .ok (.aload_n 0, 1) := by decide +kernel
theorem dX12_readAllOf_19 : decode cX12_readAllOf 19 = .ok (.invokevirtual 229, 3) := by decide +kernel
theorem dX12_readAllOf_22 : decode cX12_readAllOf 22 = .ok (.ifCond .ne 5, 3) := by decide +kernel
theorem dX12_readAllOf_25 : decode cX12_readAllOf 25 = .ok (.iconst 0, 1) := by decide +kernel
theorem dX12_readAllOf_26 : decode cX12_readAllOf 26 = .ok (.ireturn, 1) := by decide +kernel
theorem dX12_readAllOf_27 : decode cX12_readAllOf 27 = .ok (.aload_n 0, 1) := by decide +kernel
theorem dX12_readAllOf_28 : decode cX12_readAllOf 28 = .ok (.bipush 13, 2) := by decide +kernel
theorem dX12_readAllOf_30 : decode cX12_readAllOf 30 = .ok (.iconst 0, 1) := by decide +kernel
theorem dX12_readAllOf_31 : decode cX12_readAllOf 31 = .ok (.invokevirtual 200, 3) := by decide +kernel
theorem dX12_readAllOf_34 : decode cX12_readAllOf 34 = .ok (.goto (-25), 3) := by decide +kernel
theorem dX12_readAllOf_37 : decode cX12_readAllOf 37 = .ok (.iconst 1, 1) := by decide +kernel
theorem dX12_readAllOf_38 : decode cX12_readAllOf 38 = .ok (.ireturn, 1) := by decide +kernel
theorem dX12_readCond_0 : decode cX12_readCond 0 = .ok (.aload_n 0, 1) := by decide +kernel
theorem dX12_readCond_1 : decode cX12_readCond 1 = .ok (.invokevirtual 239, 3) := by decide +kernel
theorem dX12_readCond_4 : decode cX12_readCond 4 = .ok (.ifCond .ne 5, 3) := by decide +kernel
theorem dX12_readCond_7 : decode cX12_readCond 7 = .ok (.iconst 0, 1) := by decide +kernel
theorem dX12_readCond_8 : decode cX12_readCond 8 = .ok (.ireturn, 1) := by decide +kernel
theorem dX12_readCond_9 : decode cX12_readCond 9 = .ok (.aload_n 0, 1) := by decide +kernel
theorem dX12_readCond_10 : decode cX12_readCond 10 = .ok (.ldc 242, 2) := by decide +kernel
theorem dX12_readCond_12 : decode cX12_readCond 12 = .ok (.invokevirtual 142, 3) := by decide +kernel
theorem dX12_readCond_15 : decode cX12_readCond 15 = .ok (.ifCond .eq 22, 3) := by decide +kernel
theorem dX12_readCond_18 : decode cX12_readCond 18 = .ok (.aload_n 0, 1) := by decide +kernel
theorem dX12_readCond_19 : decode cX12_readCond 19 = .ok (.invokevirtual 239, 3) := by decide +kernel
theorem dX12_readCond_22 : decode cX12_readCond 22 = .ok (.ifCond .ne 5, 3) := by decide +kernel
theorem dX12_readCond_25 : decode cX12_readCond 25 = .ok (.iconst 0, 1) := by decide +kernel
theorem dX12_readCond_26 : decode cX12_readCond 26 = .ok (.ireturn, 1) := by decide +kernel
theorem dX12_readCond_27 : decode cX12_readCond 27 = .ok (.aload_n 0, 1) := by decide +kernel
theorem dX12_readCond_28 : decode cX12_readCond 28 = .ok (.bipush 14, 2) := by decide +kernel
theorem dX12_readCond_30 : decode cX12_readCond 30 = .ok (.iconst 0, 1) := by decide +kernel
theorem dX12_readCond_31 : decode cX12_readCond 31 = .ok (.invokevirtual 200, 3) := by decide +kernel
theorem dX12_readCond_34 : decode cX12_readCond 34 = .ok (.goto (-25), 3) := by decide +kernel
theorem dX12_readCond_37 : decode cX12_readCond 37 = .ok (.iconst 1, 1) := by decide +kernel
theorem dX12_readCond_38 : decode cX12_readCond 38 = .ok (.ireturn, 1) := by decide +kernel
theorem dX12_readLawLine_0 : decode cX12_readLawLine 0 = .ok (.sipush 1581, 3) := by decide +kernel
theorem dX12_readLawLine_3 : decode cX12_readLawLine 3 = .ok (.iconst 4, 1) := by decide +kernel
theorem dX12_readLawLine_4 : decode cX12_readLawLine 4 = .ok (.iload_n 1, 1) := by decide +kernel
theorem dX12_readLawLine_5 : decode cX12_readLawLine 5 = .ok (.imul, 1) := by decide +kernel
theorem dX12_readLawLine_6 : decode cX12_readLawLine 6 = .ok (.iadd, 1) := by decide +kernel
theorem dX12_readLawLine_7 : decode cX12_readLawLine 7 = .ok (.istore_n 2, 1) := by decide +kernel
theorem dX12_readLawLine_8 : decode cX12_readLawLine 8 = .ok (.aload_n 0, 1) := by decide +kernel
theorem dX12_readLawLine_9 : decode cX12_readLawLine 9 = .ok (.getfield 13, 3) := by decide +kernel
theorem dX12_readLawLine_12 : decode cX12_readLawLine 12 = .ok (.iload_n 2, 1) := by decide +kernel
theorem dX12_readLawLine_13 : decode cX12_readLawLine 13 = .ok (.aload_n 0, 1) := by decide +kernel
theorem dX12_readLawLine_14 : decode cX12_readLawLine 14 = .ok (.ldc 244, 2) := by decide +kernel
theorem dX12_readLawLine_16 : decode cX12_readLawLine 16 = .ok (.invokevirtual 126, 3) := by decide +kernel
theorem dX12_readLawLine_19 : decode cX12_readLawLine 19 = .ok (.ifCond .eq 7, 3) := by decide +kernel
theorem dX12_readLawLine_22 : decode cX12_readLawLine 22 = .ok (.iconst 0, 1) := by decide +kernel
theorem dX12_readLawLine_23 : decode cX12_readLawLine 23 = .ok (.goto 30, 3) := by decide +kernel
theorem dX12_readLawLine_26 : decode cX12_readLawLine 26 = .ok (.aload_n 0, 1) := by decide +kernel
theorem dX12_readLawLine_27 : decode cX12_readLawLine 27 = .ok (.ldc 246, 2) := by decide +kernel
theorem dX12_readLawLine_29 : decode cX12_readLawLine 29 = .ok (.invokevirtual 126, 3) := by decide +kernel
theorem dX12_readLawLine_32 : decode cX12_readLawLine 32 = .ok (.ifCond .eq 7, 3) := by decide +kernel
theorem dX12_readLawLine_35 : decode cX12_readLawLine 35 = .ok (.iconst 1, 1) := by decide +kernel
theorem dX12_readLawLine_36 : decode cX12_readLawLine 36 = .ok (.goto 17, 3) := by decide +kernel
theorem dX12_readLawLine_39 : decode cX12_readLawLine 39 = .ok (.aload_n 0, 1) := by decide +kernel
theorem dX12_readLawLine_40 : decode cX12_readLawLine 40 = .ok (.ldc 248, 2) := by decide +kernel
theorem dX12_readLawLine_42 : decode cX12_readLawLine 42 = .ok (.invokevirtual 126, 3) := by decide +kernel
theorem dX12_readLawLine_45 : decode cX12_readLawLine 45 = .ok (.ifCond .eq 7, 3) := by decide +kernel
theorem dX12_readLawLine_48 : decode cX12_readLawLine 48 = .ok (.iconst 2, 1) := by decide +kernel
theorem dX12_readLawLine_49 : decode cX12_readLawLine 49 = .ok (.goto 4, 3) := by decide +kernel
theorem dX12_readLawLine_52 : decode cX12_readLawLine 52 = .ok (.iconst (-1), 1) := by decide +kernel
theorem dX12_readLawLine_53 : decode cX12_readLawLine 53 = .ok (.iastore, 1) := by decide +kernel
theorem dX12_readLawLine_54 : decode cX12_readLawLine 54 = .ok (.aload_n 0, 1) := by decide +kernel
theorem dX12_readLawLine_55 : decode cX12_readLawLine 55 = .ok (.getfield 13, 3) := by decide +kernel
theorem dX12_readLawLine_58 : decode cX12_readLawLine 58 = .ok (.iload_n 2, 1) := by decide +kernel
theorem dX12_readLawLine_59 : decode cX12_readLawLine 59 = .ok (.iaload, 1) := by decide +kernel
theorem dX12_readLawLine_60 : decode cX12_readLawLine 60 = .ok (.ifCond .ge 5, 3) := by decide +kernel
theorem dX12_readLawLine_63 : decode cX12_readLawLine 63 = .ok (.iconst 0, 1) := by decide +kernel
theorem dX12_readLawLine_64 : decode cX12_readLawLine 64 = .ok (.ireturn, 1) := by decide +kernel
theorem dX12_readLawLine_65 : decode cX12_readLawLine 65 = .ok (.aload_n 0, 1) := by decide +kernel
theorem dX12_readLawLine_66 : decode cX12_readLawLine 66 = .ok (.getfield 13, 3) := by decide +kernel
theorem dX12_readLawLine_69 : decode cX12_readLawLine 69 = .ok (.iload_n 2, 1) := by decide +kernel
theorem dX12_readLawLine_70 : decode cX12_readLawLine 70 = .ok (.iconst 1, 1) := by decide +kernel
theorem dX12_readLawLine_71 : decode cX12_readLawLine 71 = .ok (.iadd, 1) := by decide +kernel
theorem dX12_readLawLine_72 : decode cX12_readLawLine 72 = .ok (.aload_n 0, 1) := by decide +kernel
theorem dX12_readLawLine_73 : decode cX12_readLawLine 73 = .ok (.getfield 13, 3) := by decide +kernel
theorem dX12_readLawLine_76 : decode cX12_readLawLine 76 = .ok (.iload_n 2, 1) := by decide +kernel
theorem dX12_readLawLine_77 : decode cX12_readLawLine 77 = .ok (.iaload, 1) := by decide +kernel
theorem dX12_readLawLine_78 : decode cX12_readLawLine 78 = .ok (.iconst 2, 1) := by decide +kernel
theorem dX12_readLawLine_79 : decode cX12_readLawLine 79 = .ok (.if_icmp .ne 7, 3) := by decide +kernel
theorem dX12_readLawLine_82 : decode cX12_readLawLine 82 = .ok (.iconst 1, 1) := by decide +kernel
theorem dX12_readLawLine_83 : decode cX12_readLawLine 83 = .ok (.goto 11, 3) := by decide +kernel
theorem dX12_readLawLine_86 : decode cX12_readLawLine 86 = .ok (.aload_n 0, 1) := by decide +kernel
theorem dX12_readLawLine_87 : decode cX12_readLawLine 87 = .ok (.iconst 0, 1) := by decide +kernel
theorem dX12_readLawLine_88 : decode cX12_readLawLine 88 = .ok (.sipush 999, 3) := by decide +kernel
theorem dX12_readLawLine_91 : decode cX12_readLawLine 91 = .ok (.invokevirtual 130, 3) := by decide +kernel
theorem dX12_readLawLine_94 : decode cX12_readLawLine 94 = .ok (.iastore, 1) := by decide +kernel
theorem dX12_readLawLine_95 : decode cX12_readLawLine 95 = .ok (.aload_n 0, 1) := by decide +kernel
theorem dX12_readLawLine_96 : decode cX12_readLawLine 96 = .ok (.getfield 13, 3) := by decide +kernel
theorem dX12_readLawLine_99 : decode cX12_readLawLine 99 = .ok (.iload_n 2, 1) := by decide +kernel
theorem dX12_readLawLine_100 : decode cX12_readLawLine 100 = .ok (.iconst 1, 1) := by decide +kernel
theorem dX12_readLawLine_101 : decode cX12_readLawLine 101 = .ok (.iadd, 1) := by decide +kernel
theorem dX12_readLawLine_102 : decode cX12_readLawLine 102 = .ok (.iaload, 1) := by decide +kernel
theorem dX12_readLawLine_103 : decode cX12_readLawLine 103 = .ok (.ifCond .ge 5, 3) := by decide +kernel
theorem dX12_readLawLine_106 : decode cX12_readLawLine 106 = .ok (.iconst 0, 1) := by decide +kernel
theorem dX12_readLawLine_107 : decode cX12_readLawLine 107 = .ok (.ireturn, 1) := by decide +kernel
theorem dX12_readLawLine_108 : decode cX12_readLawLine 108 = .ok (.aload_n 0, 1) := by decide +kernel
theorem dX12_readLawLine_109 : decode cX12_readLawLine 109 = .ok (.getfield 13, 3) := by decide +kernel
theorem dX12_readLawLine_112 : decode cX12_readLawLine 112 = .ok (.iload_n 2, 1) := by decide +kernel
theorem dX12_readLawLine_113 : decode cX12_readLawLine 113 = .ok (.iconst 2, 1) := by decide +kernel
theorem dX12_readLawLine_114 : decode cX12_readLawLine 114 = .ok (.iadd, 1) := by decide +kernel
theorem dX12_readLawLine_115 : decode cX12_readLawLine 115 = .ok (.aload_n 0, 1) := by decide +kernel
theorem dX12_readLawLine_116 : decode cX12_readLawLine 116 = .ok (.getfield 197, 3) := by decide +kernel
theorem dX12_readLawLine_119 : decode cX12_readLawLine 119 = .ok (.iastore, 1) := by decide +kernel
theorem dX12_readLawLine_120 : decode cX12_readLawLine 120 = .ok (.aload_n 0, 1) := by decide +kernel
theorem dX12_readLawLine_121 : decode cX12_readLawLine 121 = .ok (.iconst 0, 1) := by decide +kernel
theorem dX12_readLawLine_122 : decode cX12_readLawLine 122 = .ok (.putfield 221, 3) := by decide +kernel
theorem dX12_readLawLine_125 : decode cX12_readLawLine 125 = .ok (.aload_n 0, 1) := by decide +kernel
theorem dX12_readLawLine_126 : decode cX12_readLawLine 126 = .ok (.ldc 250, 2) := by decide +kernel
theorem dX12_readLawLine_128 : decode cX12_readLawLine 128 = .ok (.invokevirtual 142, 3) := by decide +kernel
theorem dX12_readLawLine_131 : decode cX12_readLawLine 131 = .ok (.ifCond .eq 12, 3) := by decide +kernel
theorem dX12_readLawLine_134 : decode cX12_readLawLine 134 = .ok (.aload_n 0, 1) := by decide +kernel
theorem dX12_readLawLine_135 : decode cX12_readLawLine 135 = .ok (.invokevirtual 224, 3) := by decide +kernel
theorem dX12_readLawLine_138 : decode cX12_readLawLine 138 = .ok (.ifCond .ne 5, 3) := by decide +kernel
theorem dX12_readLawLine_141 : decode cX12_readLawLine 141 = .ok (.iconst 0, 1) := by decide +kernel
theorem dX12_readLawLine_142 : decode cX12_readLawLine 142 = .ok (.ireturn, 1) := by decide +kernel
theorem dX12_readLawLine_143 : decode cX12_readLawLine 143 = .ok (.aload_n 0, 1) := by decide +kernel
theorem dX12_readLawLine_144 : decode cX12_readLawLine 144 = .ok (.getfield 13, 3) := by decide +kernel
theorem dX12_readLawLine_147 : decode cX12_readLawLine 147 = .ok (.iload_n 2, 1) := by decide +kernel
theorem dX12_readLawLine_148 : decode cX12_readLawLine 148 = .ok (.iconst 3, 1) := by decide +kernel
theorem dX12_readLawLine_149 : decode cX12_readLawLine 149 = .ok (.iadd, 1) := by decide +kernel
theorem dX12_readLawLine_150 : decode cX12_readLawLine 150 = .ok (.aload_n 0, 1) := by decide +kernel
theorem dX12_readLawLine_151 : decode cX12_readLawLine 151 = .ok (.getfield 197, 3) := by decide +kernel
theorem dX12_readLawLine_154 : decode cX12_readLawLine 154 = .ok (.iastore, 1) := by decide +kernel
theorem dX12_readLawLine_155 : decode cX12_readLawLine 155 = .ok (.iconst 1, 1) := by decide +kernel
theorem dX12_readLawLine_156 : decode cX12_readLawLine 156 = .ok (.ireturn, 1) := by decide +kernel
theorem dX12_readLine_0 : decode cX12_readLine 0 = .ok (.aload_n 0, 1) := by decide +kernel
theorem dX12_readLine_1 : decode cX12_readLine 1 = .ok (.invokevirtual 123, 3) := by decide +kernel
theorem dX12_readLine_4 : decode cX12_readLine 4 = .ok (.iload_n 2, 1) := by decide +kernel
theorem dX12_readLine_5 : decode cX12_readLine 5 = .ok (.iload_n 1, 1) := by decide +kernel
theorem dX12_readLine_6 : decode cX12_readLine 6 = .ok (.ifCond .eq 8, 3) := by decide +kernel
theorem dX12_readLine_9 : decode cX12_readLine 9 = .ok (.bipush 14, 2) := by decide +kernel
theorem dX12_readLine_11 : decode cX12_readLine 11 = .ok (.goto 5, 3) := by decide +kernel
theorem dX12_readLine_14 : decode cX12_readLine 14 = .ok (.bipush 12, 2) := by decide +kernel
theorem dX12_readLine_16 : decode cX12_readLine 16 = .ok (.if_icmp .ge 29, 3) := by decide +kernel
theorem dX12_readLine_19 : decode cX12_readLine 19 = .ok (.iload_n 1, 1) := by decide +kernel
theorem dX12_readLine_20 : decode cX12_readLine 20 = .ok (.ifCond .eq 13, 3) := by decide +kernel
theorem dX12_readLine_23 : decode cX12_readLine 23 = .ok (.aload_n 0, 1) := by decide +kernel
theorem dX12_readLine_24 : decode cX12_readLine 24 = .ok (.invokevirtual 252, 3) := by decide +kernel
theorem dX12_readLine_27 : decode cX12_readLine 27 = .ok (.ifCond .eq 18, 3) := by decide +kernel
theorem dX12_readLine_30 : decode cX12_readLine 30 = .ok (.goto 11, 3) := by decide +kernel
theorem dX12_readLine_33 : decode cX12_readLine 33 = .ok (.aload_n 0, 1) := by decide +kernel
theorem dX12_readLine_34 : decode cX12_readLine 34 = .ok (.iload_n 2, 1) := by decide +kernel
theorem dX12_readLine_35 : decode cX12_readLine 35 = .ok (.invokevirtual 255, 3) := by decide +kernel
theorem dX12_readLine_38 : decode cX12_readLine 38 = .ok (.ifCond .eq 7, 3) := by decide +kernel
theorem dX12_readLine_41 : decode cX12_readLine 41 = .ok (.iconst 1, 1) := by decide +kernel
theorem dX12_readLine_42 : decode cX12_readLine 42 = .ok (.goto 4, 3) := by decide +kernel
theorem dX12_readLine_45 : decode cX12_readLine 45 = .ok (.iconst 0, 1) := by decide +kernel
theorem dX12_readLine_46 : decode cX12_readLine 46 = .ok (.ireturn, 1) := by decide +kernel
theorem dX12_readAll_0 : decode cX12_readAll 0 = .ok (.aload_n 0, 1) := by decide +kernel
theorem dX12_readAll_1 : decode cX12_readAll 1 = .ok (.invokevirtual 258, 3) := by decide +kernel
theorem dX12_readAll_4 : decode cX12_readAll 4 = .ok (.aload_n 0, 1) := by decide +kernel
theorem dX12_readAll_5 : decode cX12_readAll 5 = .ok (.iconst 0, 1) := by decide +kernel
theorem dX12_readAll_6 : decode cX12_readAll 6 = .ok (.putfield 197, 3) := by decide +kernel
theorem dX12_readAll_9 : decode cX12_readAll 9 = .ok (.aload_n 0, 1) := by decide +kernel
theorem dX12_readAll_10 : decode cX12_readAll 10 = .ok (.invokevirtual 111, 3) := by decide +kernel
theorem dX12_readAll_13 : decode cX12_readAll 13 = .ok (.aload_n 0, 1) := by decide +kernel
theorem dX12_readAll_14 : decode cX12_readAll 14 = .ok (.getfield 99, 3) := by decide +kernel
theorem dX12_readAll_17 : decode cX12_readAll 17 = .ok (.aload_n 0, 1) := by decide +kernel
theorem dX12_readAll_18 : decode cX12_readAll 18 = .ok (.getfield 102, 3) := by decide +kernel
theorem dX12_readAll_21 : decode cX12_readAll 21 = .ok (.if_icmp .ne 5, 3) := by decide +kernel
theorem dX12_readAll_24 : decode cX12_readAll 24 = .ok (.iconst 0, 1) := by decide +kernel
theorem dX12_readAll_25 : decode cX12_readAll 25 = .ok (.ireturn, 1) := by decide +kernel
theorem dX12_readAll_26 : decode cX12_readAll 26 = .ok (.iconst 0, 1) := by decide +kernel
theorem dX12_readAll_27 : decode cX12_readAll 27 = .ok (.istore_n 2, 1) := by decide +kernel
theorem dX12_readAll_28 : decode cX12_readAll 28 = .ok (.aload_n 0, 1) := by decide +kernel
theorem dX12_readAll_29 : decode cX12_readAll 29 = .ok (.iload_n 1, 1) := by decide +kernel
theorem dX12_readAll_30 : decode cX12_readAll 30 = .ok (.iload_n 2, 1) := by decide +kernel
theorem dX12_readAll_31 : decode cX12_readAll 31 = .ok (.invokevirtual 261, 3) := by decide +kernel
theorem dX12_readAll_34 : decode cX12_readAll 34 = .ok (.ifCond .ne 5, 3) := by decide +kernel
theorem dX12_readAll_37 : decode cX12_readAll 37 = .ok (.iconst (-1), 1) := by decide +kernel
theorem dX12_readAll_38 : decode cX12_readAll 38 = .ok (.ireturn, 1) := by decide +kernel
theorem dX12_readAll_39 : decode cX12_readAll 39 = .ok (.aload_n 0, 1) := by decide +kernel
theorem dX12_readAll_40 : decode cX12_readAll 40 = .ok (.invokevirtual 111, 3) := by decide +kernel
theorem dX12_readAll_43 : decode cX12_readAll 43 = .ok (.aload_n 0, 1) := by decide +kernel
theorem dX12_readAll_44 : decode cX12_readAll 44 = .ok (.getfield 99, 3) := by decide +kernel
theorem dX12_readAll_47 : decode cX12_readAll 47 = .ok (.aload_n 0, 1) := by decide +kernel
theorem dX12_readAll_48 : decode cX12_readAll 48 = .ok (.getfield 102, 3) := by decide +kernel
theorem dX12_readAll_51 : decode cX12_readAll 51 = .ok (.if_icmp .ne 7, 3) := by decide +kernel
theorem dX12_readAll_54 : decode cX12_readAll 54 = .ok (.iload_n 2, 1) := by decide +kernel
theorem dX12_readAll_55 : decode cX12_readAll 55 = .ok (.iconst 1, 1) := by decide +kernel
theorem dX12_readAll_56 : decode cX12_readAll 56 = .ok (.iadd, 1) := by decide +kernel
theorem dX12_readAll_57 : decode cX12_readAll 57 = .ok (.ireturn, 1) := by decide +kernel
theorem dX12_readAll_58 : decode cX12_readAll 58 = .ok (.aload_n 0, 1) := by decide +kernel
theorem dX12_readAll_59 : decode cX12_readAll 59 = .ok (.bipush 59, 2) := by decide +kernel
theorem dX12_readAll_61 : decode cX12_readAll 61 = .ok (.bipush 59, 2) := by decide +kernel
theorem dX12_readAll_63 : decode cX12_readAll 63 = .ok (.invokevirtual 105, 3) := by decide +kernel
theorem dX12_readAll_66 : decode cX12_readAll 66 = .ok (.ifCond .ne 5, 3) := by decide +kernel
theorem dX12_readAll_69 : decode cX12_readAll 69 = .ok (.iconst (-1), 1) := by decide +kernel
theorem dX12_readAll_70 : decode cX12_readAll 70 = .ok (.ireturn, 1) := by decide +kernel
theorem dX12_readAll_71 : decode cX12_readAll 71 = .ok (.aload_n 0, 1) := by decide +kernel
theorem dX12_readAll_72 : decode cX12_readAll 72 = .ok (.dup, 1) := by decide +kernel
theorem dX12_readAll_73 : decode cX12_readAll 73 = .ok (.getfield 99, 3) := by decide +kernel
theorem dX12_readAll_76 : decode cX12_readAll 76 = .ok (.iconst 1, 1) := by decide +kernel
theorem dX12_readAll_77 : decode cX12_readAll 77 = .ok (.iadd, 1) := by decide +kernel
theorem dX12_readAll_78 : decode cX12_readAll 78 = .ok (.putfield 99, 3) := by decide +kernel
theorem dX12_readAll_81 : decode cX12_readAll 81 = .ok (.iinc 2 1, 3) := by decide +kernel
theorem dX12_readAll_84 : decode cX12_readAll 84 = .ok (.goto (-56), 3) := by decide +kernel
theorem dX12_war_0 : decode cX12_war 0 = .ok (.iconst 0, 1) := by decide +kernel
theorem dX12_war_1 : decode cX12_war 1 = .ok (.istore_n 1, 1) := by decide +kernel
theorem dX12_war_2 : decode cX12_war 2 = .ok (.iload_n 1, 1) := by decide +kernel
theorem dX12_war_3 : decode cX12_war 3 = .ok (.sipush 1580, 3) := by decide +kernel
theorem dX12_war_6 : decode cX12_war 6 = .ok (.if_icmp .ge 21, 3) := by decide +kernel
theorem dX12_war_9 : decode cX12_war 9 = .ok (.aload_n 0, 1) := by decide +kernel
theorem dX12_war_10 : decode cX12_war 10 = .ok (.getfield 20, 3) := by decide +kernel
theorem dX12_war_13 : decode cX12_war 13 = .ok (.iload_n 1, 1) := by decide +kernel
theorem dX12_war_14 : decode cX12_war 14 = .ok (.aload_n 0, 1) := by decide +kernel
theorem dX12_war_15 : decode cX12_war 15 = .ok (.getfield 13, 3) := by decide +kernel
theorem dX12_war_18 : decode cX12_war 18 = .ok (.iload_n 1, 1) := by decide +kernel
theorem dX12_war_19 : decode cX12_war 19 = .ok (.iaload, 1) := by decide +kernel
theorem dX12_war_20 : decode cX12_war 20 = .ok (.iastore, 1) := by decide +kernel
theorem dX12_war_21 : decode cX12_war 21 = .ok (.iinc 1 1, 3) := by decide +kernel
theorem dX12_war_24 : decode cX12_war 24 = .ok (.goto (-22), 3) := by decide +kernel
theorem dX12_war_27 : decode cX12_war 27 = .ok (.aload_n 0, 1) := by decide +kernel
theorem dX12_war_28 : decode cX12_war 28 = .ok (.iconst 1, 1) := by decide +kernel
theorem dX12_war_29 : decode cX12_war 29 = .ok (.invokevirtual 265, 3) := by decide +kernel
theorem dX12_war_32 : decode cX12_war 32 = .ok (.istore_n 1, 1) := by decide +kernel
theorem dX12_war_33 : decode cX12_war 33 = .ok (.aload_n 0, 1) := by decide +kernel
theorem dX12_war_34 : decode cX12_war 34 = .ok (.iload_n 1, 1) := by decide +kernel
theorem dX12_war_35 : decode cX12_war 35 = .ok (.ifCond .ge 10, 3) := by decide +kernel
theorem dX12_war_38 : decode cX12_war 38 = .ok (.aload_n 0, 1) := by decide +kernel
theorem dX12_war_39 : decode cX12_war 39 = .ok (.getfield 108, 3) := by decide +kernel
theorem dX12_war_42 : decode cX12_war 42 = .ok (.goto 4, 3) := by decide +kernel
theorem dX12_war_45 : decode cX12_war 45 = .ok (.iconst (-1), 1) := by decide +kernel
theorem dX12_war_46 : decode cX12_war 46 = .ok (.putfield 33, 3) := by decide +kernel
theorem dX12_war_49 : decode cX12_war 49 = .ok (.aload_n 0, 1) := by decide +kernel
theorem dX12_war_50 : decode cX12_war 50 = .ok (.iload_n 1, 1) := by decide +kernel
theorem dX12_war_51 : decode cX12_war 51 = .ok (.ifCond .ge 7, 3) := by decide +kernel
theorem dX12_war_54 : decode cX12_war 54 = .ok (.iconst 1, 1) := by decide +kernel
theorem dX12_war_55 : decode cX12_war 55 = .ok (.goto 4, 3) := by decide +kernel
theorem dX12_war_58 : decode cX12_war 58 = .ok (.iconst 0, 1) := by decide +kernel
theorem dX12_war_59 : decode cX12_war 59 = .ok (.iconst 1, 1) := by decide +kernel
theorem dX12_war_60 : decode cX12_war 60 = .ok (.invokevirtual 269, 3) := by decide +kernel
theorem dX12_war_63 : decode cX12_war 63 = .ok (.ifCond .ne 27, 3) := by decide +kernel
theorem dX12_war_66 : decode cX12_war 66 = .ok (.aload_n 0, 1) := by decide +kernel
theorem dX12_war_67 : decode cX12_war 67 = .ok (.aload_n 0, 1) := by decide +kernel
theorem dX12_war_68 : decode cX12_war 68 = .ok (.getfield 13, 3) := by decide +kernel
theorem dX12_war_71 : decode cX12_war 71 = .ok (.iconst 3, 1) := by decide +kernel
theorem dX12_war_72 : decode cX12_war 72 = .ok (.iaload, 1) := by decide +kernel
theorem dX12_war_73 : decode cX12_war 73 = .ok (.bipush 12, 2) := by decide +kernel
theorem dX12_war_75 : decode cX12_war 75 = .ok (.if_icmp .ne 7, 3) := by decide +kernel
theorem dX12_war_78 : decode cX12_war 78 = .ok (.iconst 1, 1) := by decide +kernel
theorem dX12_war_79 : decode cX12_war 79 = .ok (.goto 4, 3) := by decide +kernel
theorem dX12_war_82 : decode cX12_war 82 = .ok (.iconst 0, 1) := by decide +kernel
theorem dX12_war_83 : decode cX12_war 83 = .ok (.iconst 2, 1) := by decide +kernel
theorem dX12_war_84 : decode cX12_war 84 = .ok (.invokevirtual 269, 3) := by decide +kernel
theorem dX12_war_87 : decode cX12_war 87 = .ok (.ifCond .eq 32, 3) := by decide +kernel
theorem dX12_war_90 : decode cX12_war 90 = .ok (.iconst 0, 1) := by decide +kernel
theorem dX12_war_91 : decode cX12_war 91 = .ok (.istore_n 2, 1) := by decide +kernel
theorem dX12_war_92 : decode cX12_war 92 = .ok (.iload_n 2, 1) := by decide +kernel
theorem dX12_war_93 : decode cX12_war 93 = .ok (.sipush 1580, 3) := by decide +kernel
theorem dX12_war_96 : decode cX12_war 96 = .ok (.if_icmp .ge 21, 3) := by decide +kernel
theorem dX12_war_99 : decode cX12_war 99 = .ok (.aload_n 0, 1) := by decide +kernel
theorem dX12_war_100 : decode cX12_war 100 = .ok (.getfield 13, 3) := by decide +kernel
theorem dX12_war_103 : decode cX12_war 103 = .ok (.iload_n 2, 1) := by decide +kernel
theorem dX12_war_104 : decode cX12_war 104 = .ok (.aload_n 0, 1) := by decide +kernel
theorem dX12_war_105 : decode cX12_war 105 = .ok (.getfield 20, 3) := by decide +kernel
theorem dX12_war_108 : decode cX12_war 108 = .ok (.iload_n 2, 1) := by decide +kernel
theorem dX12_war_109 : decode cX12_war 109 = .ok (.iaload, 1) := by decide +kernel
theorem dX12_war_110 : decode cX12_war 110 = .ok (.iastore, 1) := by decide +kernel
theorem dX12_war_111 : decode cX12_war 111 = .ok (.iinc 2 1, 3) := by decide +kernel
theorem dX12_war_114 : decode cX12_war 114 = .ok (.goto (-22), 3) := by decide +kernel
theorem dX12_war_117 : decode cX12_war 117 = .ok (.iconst 0, 1) := by decide +kernel
theorem dX12_war_118 : decode cX12_war 118 = .ok (.ireturn, 1) := by decide +kernel
theorem dX12_war_119 : decode cX12_war 119 = .ok (.aload_n 0, 1) := by decide +kernel
theorem dX12_war_120 : decode cX12_war 120 = .ok (.getfield 13, 3) := by decide +kernel
theorem dX12_war_123 : decode cX12_war 123 = .ok (.iconst 3, 1) := by decide +kernel
theorem dX12_war_124 : decode cX12_war 124 = .ok (.dup2, 1) := by decide +kernel
theorem dX12_war_125 : decode cX12_war 125 = .ok (.iaload, 1) := by decide +kernel
theorem dX12_war_126 : decode cX12_war 126 = .ok (.iconst 1, 1) := by decide +kernel
theorem dX12_war_127 : decode cX12_war 127 = .ok (.iadd, 1) := by decide +kernel
theorem dX12_war_128 : decode cX12_war 128 = .ok (.iastore, 1) := by decide +kernel
theorem dX12_war_129 : decode cX12_war 129 = .ok (.aload_n 0, 1) := by decide +kernel
theorem dX12_war_130 : decode cX12_war 130 = .ok (.iconst 0, 1) := by decide +kernel
theorem dX12_war_131 : decode cX12_war 131 = .ok (.putfield 60, 3) := by decide +kernel
theorem dX12_war_134 : decode cX12_war 134 = .ok (.aload_n 0, 1) := by decide +kernel
theorem dX12_war_135 : decode cX12_war 135 = .ok (.getfield 13, 3) := by decide +kernel
theorem dX12_war_138 : decode cX12_war 138 = .ok (.iconst 3, 1) := by decide +kernel
theorem dX12_war_139 : decode cX12_war 139 = .ok (.iaload, 1) := by decide +kernel
theorem dX12_war_140 : decode cX12_war 140 = .ok (.ireturn, 1) := by decide +kernel
theorem dX12_law_0 : decode cX12_law 0 = .ok (.aload_n 0, 1) := by decide +kernel
theorem dX12_law_1 : decode cX12_law 1 = .ok (.iconst 0, 1) := by decide +kernel
theorem dX12_law_2 : decode cX12_law 2 = .ok (.invokevirtual 265, 3) := by decide +kernel
theorem dX12_law_5 : decode cX12_law 5 = .ok (.istore_n 1, 1) := by decide +kernel
theorem dX12_law_6 : decode cX12_law 6 = .ok (.aload_n 0, 1) := by decide +kernel
theorem dX12_law_7 : decode cX12_law 7 = .ok (.iload_n 1, 1) := by decide +kernel
theorem dX12_law_8 : decode cX12_law 8 = .ok (.ifCond .ge 10, 3) := by decide +kernel
theorem dX12_law_11 : decode cX12_law 11 = .ok (.aload_n 0, 1) := by decide +kernel
theorem dX12_law_12 : decode cX12_law 12 = .ok (.getfield 108, 3) := by decide +kernel
theorem dX12_law_15 : decode cX12_law 15 = .ok (.goto 4, 3) := by decide +kernel
theorem dX12_law_18 : decode cX12_law 18 = .ok (.iconst (-1), 1) := by decide +kernel
theorem dX12_law_19 : decode cX12_law 19 = .ok (.putfield 33, 3) := by decide +kernel
theorem dX12_law_22 : decode cX12_law 22 = .ok (.aload_n 0, 1) := by decide +kernel
theorem dX12_law_23 : decode cX12_law 23 = .ok (.iload_n 1, 1) := by decide +kernel
theorem dX12_law_24 : decode cX12_law 24 = .ok (.ifCond .ge 7, 3) := by decide +kernel
theorem dX12_law_27 : decode cX12_law 27 = .ok (.iconst 1, 1) := by decide +kernel
theorem dX12_law_28 : decode cX12_law 28 = .ok (.goto 4, 3) := by decide +kernel
theorem dX12_law_31 : decode cX12_law 31 = .ok (.iconst 0, 1) := by decide +kernel
theorem dX12_law_32 : decode cX12_law 32 = .ok (.iconst 1, 1) := by decide +kernel
theorem dX12_law_33 : decode cX12_law 33 = .ok (.invokevirtual 269, 3) := by decide +kernel
theorem dX12_law_36 : decode cX12_law 36 = .ok (.ifCond .eq 5, 3) := by decide +kernel
theorem dX12_law_39 : decode cX12_law 39 = .ok (.iconst 0, 1) := by decide +kernel
theorem dX12_law_40 : decode cX12_law 40 = .ok (.ireturn, 1) := by decide +kernel
theorem dX12_law_41 : decode cX12_law 41 = .ok (.aload_n 0, 1) := by decide +kernel
theorem dX12_law_42 : decode cX12_law 42 = .ok (.getfield 13, 3) := by decide +kernel
theorem dX12_law_45 : decode cX12_law 45 = .ok (.sipush 1580, 3) := by decide +kernel
theorem dX12_law_48 : decode cX12_law 48 = .ok (.iload_n 1, 1) := by decide +kernel
theorem dX12_law_49 : decode cX12_law 49 = .ok (.iastore, 1) := by decide +kernel
theorem dX12_law_50 : decode cX12_law 50 = .ok (.iconst 0, 1) := by decide +kernel
theorem dX12_law_51 : decode cX12_law 51 = .ok (.istore_n 2, 1) := by decide +kernel
theorem dX12_law_52 : decode cX12_law 52 = .ok (.iload_n 2, 1) := by decide +kernel
theorem dX12_law_53 : decode cX12_law 53 = .ok (.sipush 849, 3) := by decide +kernel
theorem dX12_law_56 : decode cX12_law 56 = .ok (.if_icmp .ge 29, 3) := by decide +kernel
theorem dX12_law_59 : decode cX12_law 59 = .ok (.aload_n 0, 1) := by decide +kernel
theorem dX12_law_60 : decode cX12_law 60 = .ok (.getfield 13, 3) := by decide +kernel
theorem dX12_law_63 : decode cX12_law 63 = .ok (.sipush 731, 3) := by decide +kernel
theorem dX12_law_66 : decode cX12_law 66 = .ok (.iload_n 2, 1) := by decide +kernel
theorem dX12_law_67 : decode cX12_law 67 = .ok (.iadd, 1) := by decide +kernel
theorem dX12_law_68 : decode cX12_law 68 = .ok (.aload_n 0, 1) := by decide +kernel
theorem dX12_law_69 : decode cX12_law 69 = .ok (.getfield 13, 3) := by decide +kernel
theorem dX12_law_72 : decode cX12_law 72 = .ok (.sipush 1580, 3) := by decide +kernel
theorem dX12_law_75 : decode cX12_law 75 = .ok (.iload_n 2, 1) := by decide +kernel
theorem dX12_law_76 : decode cX12_law 76 = .ok (.iadd, 1) := by decide +kernel
theorem dX12_law_77 : decode cX12_law 77 = .ok (.iaload, 1) := by decide +kernel
theorem dX12_law_78 : decode cX12_law 78 = .ok (.iastore, 1) := by decide +kernel
theorem dX12_law_79 : decode cX12_law 79 = .ok (.iinc 2 1, 3) := by decide +kernel
theorem dX12_law_82 : decode cX12_law 82 = .ok (.goto (-30), 3) := by decide +kernel
theorem dX12_law_85 : decode cX12_law 85 = .ok (.aload_n 0, 1) := by decide +kernel
theorem dX12_law_86 : decode cX12_law 86 = .ok (.getfield 13, 3) := by decide +kernel
theorem dX12_law_89 : decode cX12_law 89 = .ok (.iconst 4, 1) := by decide +kernel
theorem dX12_law_90 : decode cX12_law 90 = .ok (.iconst 1, 1) := by decide +kernel
theorem dX12_law_91 : decode cX12_law 91 = .ok (.iastore, 1) := by decide +kernel
theorem dX12_law_92 : decode cX12_law 92 = .ok (.aload_n 0, 1) := by decide +kernel
theorem dX12_law_93 : decode cX12_law 93 = .ok (.iconst 0, 1) := by decide +kernel
theorem dX12_law_94 : decode cX12_law 94 = .ok (.putfield 60, 3) := by decide +kernel
theorem dX12_law_97 : decode cX12_law 97 = .ok (.iload_n 1, 1) := by decide +kernel
theorem dX12_law_98 : decode cX12_law 98 = .ok (.ireturn, 1) := by decide +kernel
theorem dX12_sideIn_0 : decode cX12_sideIn 0 = .ok (.iconst 0, 1) := by decide +kernel
theorem dX12_sideIn_1 : decode cX12_sideIn 1 = .ok (.istore_n 3, 1) := by decide +kernel
theorem dX12_sideIn_2 : decode cX12_sideIn 2 = .ok (.iconst 0, 1) := by decide +kernel
theorem dX12_sideIn_3 : decode cX12_sideIn 3 = .ok (.istore 4, 2) := by decide +kernel
theorem dX12_sideIn_5 : decode cX12_sideIn 5 = .ok (.iload 4, 2) := by decide +kernel
theorem dX12_sideIn_7 : decode cX12_sideIn 7 = .ok (.aload_n 0, 1) := by decide +kernel
theorem dX12_sideIn_8 : decode cX12_sideIn 8 = .ok (.invokevirtual 75, 3) := by decide +kernel
theorem dX12_sideIn_11 : decode cX12_sideIn 11 = .ok (.if_icmp .ge 41, 3) := by decide +kernel
theorem dX12_sideIn_14 : decode cX12_sideIn 14 = .ok (.iload_n 3, 1) := by decide +kernel
theorem dX12_sideIn_15 : decode cX12_sideIn 15 = .ok (.aload_n 0, 1) := by decide +kernel
theorem dX12_sideIn_16 : decode cX12_sideIn 16 = .ok (.iload 4, 2) := by decide +kernel
theorem dX12_sideIn_18 : decode cX12_sideIn 18 = .ok (.iconst 0, 1) := by decide +kernel
theorem dX12_sideIn_19 : decode cX12_sideIn 19 = .ok (.invokevirtual 63, 3) := by decide +kernel
theorem dX12_sideIn_22 : decode cX12_sideIn 22 = .ok (.iload_n 1, 1) := by decide +kernel
theorem dX12_sideIn_23 : decode cX12_sideIn 23 = .ok (.if_icmp .ne 20, 3) := by decide +kernel
theorem dX12_sideIn_26 : decode cX12_sideIn 26 = .ok (.aload_n 0, 1) := by decide +kernel
theorem dX12_sideIn_27 : decode cX12_sideIn 27 = .ok (.iload 4, 2) := by decide +kernel
theorem dX12_sideIn_29 : decode cX12_sideIn 29 = .ok (.invokevirtual 272, 3) := by decide +kernel
theorem dX12_sideIn_32 : decode cX12_sideIn 32 = .ok (.iload_n 2, 1) := by decide +kernel
theorem dX12_sideIn_33 : decode cX12_sideIn 33 = .ok (.if_icmp .ne 10, 3) := by decide +kernel
theorem dX12_sideIn_36 : decode cX12_sideIn 36 = .ok (.iconst 1, 1) := by decide +kernel
theorem dX12_sideIn_37 : decode cX12_sideIn 37 = .ok (.iload 4, 2) := by decide +kernel
theorem dX12_sideIn_39 : decode cX12_sideIn 39 = .ok (.ishl, 1) := by decide +kernel
theorem dX12_sideIn_40 : decode cX12_sideIn 40 = .ok (.goto 4, 3) := by decide +kernel
theorem dX12_sideIn_43 : decode cX12_sideIn 43 = .ok (.iconst 0, 1) := by decide +kernel
theorem dX12_sideIn_44 : decode cX12_sideIn 44 = .ok (.ior, 1) := by decide +kernel
theorem dX12_sideIn_45 : decode cX12_sideIn 45 = .ok (.istore_n 3, 1) := by decide +kernel
theorem dX12_sideIn_46 : decode cX12_sideIn 46 = .ok (.iinc 4 1, 3) := by decide +kernel
theorem dX12_sideIn_49 : decode cX12_sideIn 49 = .ok (.goto (-44), 3) := by decide +kernel
theorem dX12_sideIn_52 : decode cX12_sideIn 52 = .ok (.iload_n 3, 1) := by decide +kernel
theorem dX12_sideIn_53 : decode cX12_sideIn 53 = .ok (.ireturn, 1) := by decide +kernel
theorem dX12_factOf_0 : decode cX12_factOf 0 = .ok (.iload_n 1, 1) := by decide +kernel
theorem dX12_factOf_1 : decode cX12_factOf 1 = .ok (.tableswitch 134 0 7 #[47, 49, 56, 62, 69, 77, 86, 107], 47) := by decide +kernel
theorem dX12_factOf_48 : decode cX12_factOf 48 = .ok (.iload_n 3, 1) := by decide +kernel
theorem dX12_factOf_49 : decode cX12_factOf 49 = .ok (.ireturn, 1) := by decide +kernel
theorem dX12_factOf_50 : decode cX12_factOf 50 = .ok (.aload_n 0, 1) := by decide +kernel
theorem dX12_factOf_51 : decode cX12_factOf 51 = .ok (.iload_n 3, 1) := by decide +kernel
theorem dX12_factOf_52 : decode cX12_factOf 52 = .ok (.iconst 0, 1) := by decide +kernel
theorem dX12_factOf_53 : decode cX12_factOf 53 = .ok (.invokevirtual 63, 3) := by decide +kernel
theorem dX12_factOf_56 : decode cX12_factOf 56 = .ok (.ireturn, 1) := by decide +kernel
theorem dX12_factOf_57 : decode cX12_factOf 57 = .ok (.aload_n 0, 1) := by decide +kernel
theorem dX12_factOf_58 : decode cX12_factOf 58 = .ok (.iload_n 3, 1) := by decide +kernel
theorem dX12_factOf_59 : decode cX12_factOf 59 = .ok (.invokevirtual 272, 3) := by decide +kernel
theorem dX12_factOf_62 : decode cX12_factOf 62 = .ok (.ireturn, 1) := by decide +kernel
theorem dX12_factOf_63 : decode cX12_factOf 63 = .ok (.aload_n 0, 1) := by decide +kernel
theorem dX12_factOf_64 : decode cX12_factOf 64 = .ok (.getfield 13, 3) := by decide +kernel
theorem dX12_factOf_67 : decode cX12_factOf 67 = .ok (.iconst 5, 1) := by decide +kernel
theorem dX12_factOf_68 : decode cX12_factOf 68 = .ok (.iaload, 1) := by decide +kernel
theorem dX12_factOf_69 : decode cX12_factOf 69 = .ok (.ireturn, 1) := by decide +kernel
theorem dX12_factOf_70 : decode cX12_factOf 70 = .ok (.aload_n 0, 1) := by decide +kernel
theorem dX12_factOf_71 : decode cX12_factOf 71 = .ok (.iload_n 3, 1) := by decide +kernel
theorem dX12_factOf_72 : decode cX12_factOf 72 = .ok (.bipush 9, 2) := by decide +kernel
theorem dX12_factOf_74 : decode cX12_factOf 74 = .ok (.invokevirtual 63, 3) := by decide +kernel
theorem dX12_factOf_77 : decode cX12_factOf 77 = .ok (.ireturn, 1) := by decide +kernel
theorem dX12_factOf_78 : decode cX12_factOf 78 = .ok (.aload_n 0, 1) := by decide +kernel
theorem dX12_factOf_79 : decode cX12_factOf 79 = .ok (.iload_n 3, 1) := by decide +kernel
theorem dX12_factOf_80 : decode cX12_factOf 80 = .ok (.invokevirtual 275, 3) := by decide +kernel
theorem dX12_factOf_83 : decode cX12_factOf 83 = .ok (.invokestatic 278, 3) := by decide +kernel
theorem dX12_factOf_86 : decode cX12_factOf 86 = .ok (.ireturn, 1) := by decide +kernel
theorem dX12_factOf_87 : decode cX12_factOf 87 = .ok (.aload_n 0, 1) := by decide +kernel
theorem dX12_factOf_88 : decode cX12_factOf 88 = .ok (.iconst 1, 1) := by decide +kernel
theorem dX12_factOf_89 : decode cX12_factOf 89 = .ok (.aload_n 0, 1) := by decide +kernel
theorem dX12_factOf_90 : decode cX12_factOf 90 = .ok (.iload_n 3, 1) := by decide +kernel
theorem dX12_factOf_91 : decode cX12_factOf 91 = .ok (.iconst 0, 1) := by decide +kernel
theorem dX12_factOf_92 : decode cX12_factOf 92 = .ok (.invokevirtual 63, 3) := by decide +kernel
theorem dX12_factOf_95 : decode cX12_factOf 95 = .ok (.isub, 1) := by decide +kernel
theorem dX12_factOf_96 : decode cX12_factOf 96 = .ok (.aload_n 0, 1) := by decide +kernel
theorem dX12_factOf_97 : decode cX12_factOf 97 = .ok (.iload_n 3, 1) := by decide +kernel
theorem dX12_factOf_98 : decode cX12_factOf 98 = .ok (.invokevirtual 272, 3) := by decide +kernel
theorem dX12_factOf_101 : decode cX12_factOf 101 = .ok (.invokevirtual 283, 3) := by decide +kernel
theorem dX12_factOf_104 : decode cX12_factOf 104 = .ok (.invokestatic 278, 3) := by decide +kernel
theorem dX12_factOf_107 : decode cX12_factOf 107 = .ok (.ireturn, 1) := by decide +kernel
theorem dX12_factOf_108 : decode cX12_factOf 108 = .ok (.aload_n 0, 1) := by decide +kernel
theorem dX12_factOf_109 : decode cX12_factOf 109 = .ok (.aload_n 0, 1) := by decide +kernel
theorem dX12_factOf_110 : decode cX12_factOf 110 = .ok (.iload_n 3, 1) := by decide +kernel
theorem dX12_factOf_111 : decode cX12_factOf 111 = .ok (.iconst 0, 1) := by decide +kernel
theorem dX12_factOf_112 : decode cX12_factOf 112 = .ok (.invokevirtual 63, 3) := by decide +kernel
theorem dX12_factOf_115 : decode cX12_factOf 115 = .ok (.aload_n 0, 1) := by decide +kernel
theorem dX12_factOf_116 : decode cX12_factOf 116 = .ok (.iload_n 3, 1) := by decide +kernel
theorem dX12_factOf_117 : decode cX12_factOf 117 = .ok (.invokevirtual 272, 3) := by decide +kernel
theorem dX12_factOf_120 : decode cX12_factOf 120 = .ok (.invokevirtual 283, 3) := by decide +kernel
theorem dX12_factOf_123 : decode cX12_factOf 123 = .ok (.iconst 1, 1) := by decide +kernel
theorem dX12_factOf_124 : decode cX12_factOf 124 = .ok (.iload_n 3, 1) := by decide +kernel
theorem dX12_factOf_125 : decode cX12_factOf 125 = .ok (.ishl, 1) := by decide +kernel
theorem dX12_factOf_126 : decode cX12_factOf 126 = .ok (.if_icmp .ne 7, 3) := by decide +kernel
theorem dX12_factOf_129 : decode cX12_factOf 129 = .ok (.iconst 1, 1) := by decide +kernel
theorem dX12_factOf_130 : decode cX12_factOf 130 = .ok (.goto 4, 3) := by decide +kernel
theorem dX12_factOf_133 : decode cX12_factOf 133 = .ok (.iconst 0, 1) := by decide +kernel
theorem dX12_factOf_134 : decode cX12_factOf 134 = .ok (.ireturn, 1) := by decide +kernel
theorem dX12_factOf_135 : decode cX12_factOf 135 = .ok (.iload_n 2, 1) := by decide +kernel
theorem dX12_factOf_136 : decode cX12_factOf 136 = .ok (.ireturn, 1) := by decide +kernel
theorem dX12_holdsLine_0 : decode cX12_holdsLine 0 = .ok (.iconst 0, 1) := by decide +kernel
theorem dX12_holdsLine_1 : decode cX12_holdsLine 1 = .ok (.istore_n 3, 1) := by decide +kernel
theorem dX12_holdsLine_2 : decode cX12_holdsLine 2 = .ok (.sipush 732, 3) := by decide +kernel
theorem dX12_holdsLine_5 : decode cX12_holdsLine 5 = .ok (.iconst 4, 1) := by decide +kernel
theorem dX12_holdsLine_6 : decode cX12_holdsLine 6 = .ok (.iload_n 1, 1) := by decide +kernel
theorem dX12_holdsLine_7 : decode cX12_holdsLine 7 = .ok (.imul, 1) := by decide +kernel
theorem dX12_holdsLine_8 : decode cX12_holdsLine 8 = .ok (.iadd, 1) := by decide +kernel
theorem dX12_holdsLine_9 : decode cX12_holdsLine 9 = .ok (.istore 4, 2) := by decide +kernel
theorem dX12_holdsLine_11 : decode cX12_holdsLine 11 = .ok (.aload_n 0, 1) := by decide +kernel
theorem dX12_holdsLine_12 : decode cX12_holdsLine 12 = .ok (.getfield 13, 3) := by decide +kernel
theorem dX12_holdsLine_15 : decode cX12_holdsLine 15 = .ok (.iload 4, 2) := by decide +kernel
theorem dX12_holdsLine_17 : decode cX12_holdsLine 17 = .ok (.iconst 2, 1) := by decide +kernel
theorem dX12_holdsLine_18 : decode cX12_holdsLine 18 = .ok (.iadd, 1) := by decide +kernel
theorem dX12_holdsLine_19 : decode cX12_holdsLine 19 = .ok (.iaload, 1) := by decide +kernel
theorem dX12_holdsLine_20 : decode cX12_holdsLine 20 = .ok (.istore 5, 2) := by decide +kernel
theorem dX12_holdsLine_22 : decode cX12_holdsLine 22 = .ok (.iload 5, 2) := by decide +kernel
theorem dX12_holdsLine_24 : decode cX12_holdsLine 24 = .ok (.aload_n 0, 1) := by decide +kernel
theorem dX12_holdsLine_25 : decode cX12_holdsLine 25 = .ok (.getfield 13, 3) := by decide +kernel
theorem dX12_holdsLine_28 : decode cX12_holdsLine 28 = .ok (.iload 4, 2) := by decide +kernel
theorem dX12_holdsLine_30 : decode cX12_holdsLine 30 = .ok (.iconst 3, 1) := by decide +kernel
theorem dX12_holdsLine_31 : decode cX12_holdsLine 31 = .ok (.iadd, 1) := by decide +kernel
theorem dX12_holdsLine_32 : decode cX12_holdsLine 32 = .ok (.iaload, 1) := by decide +kernel
theorem dX12_holdsLine_33 : decode cX12_holdsLine 33 = .ok (.if_icmp .ge 230, 3) := by decide +kernel
theorem dX12_holdsLine_36 : decode cX12_holdsLine 36 = .ok (.aload_n 0, 1) := by decide +kernel
theorem dX12_holdsLine_37 : decode cX12_holdsLine 37 = .ok (.getfield 13, 3) := by decide +kernel
theorem dX12_holdsLine_40 : decode cX12_holdsLine 40 = .ok (.sipush 780, 3) := by decide +kernel
theorem dX12_holdsLine_43 : decode cX12_holdsLine 43 = .ok (.iconst 2, 1) := by decide +kernel
theorem dX12_holdsLine_44 : decode cX12_holdsLine 44 = .ok (.iload 5, 2) := by decide +kernel
theorem dX12_holdsLine_46 : decode cX12_holdsLine 46 = .ok (.imul, 1) := by decide +kernel
theorem dX12_holdsLine_47 : decode cX12_holdsLine 47 = .ok (.iadd, 1) := by decide +kernel
theorem dX12_holdsLine_48 : decode cX12_holdsLine 48 = .ok (.iaload, 1) := by decide +kernel
theorem dX12_holdsLine_49 : decode cX12_holdsLine 49 = .ok (.istore 6, 2) := by decide +kernel
theorem dX12_holdsLine_51 : decode cX12_holdsLine 51 = .ok (.iload 6, 2) := by decide +kernel
theorem dX12_holdsLine_53 : decode cX12_holdsLine 53 = .ok (.bipush 8, 2) := by decide +kernel
theorem dX12_holdsLine_55 : decode cX12_holdsLine 55 = .ok (.if_icmp .gt 37, 3) := by decide +kernel
theorem dX12_holdsLine_58 : decode cX12_holdsLine 58 = .ok (.aload_n 0, 1) := by decide +kernel
theorem dX12_holdsLine_59 : decode cX12_holdsLine 59 = .ok (.getfield 39, 3) := by decide +kernel
theorem dX12_holdsLine_62 : decode cX12_holdsLine 62 = .ok (.iload_n 3, 1) := by decide +kernel
theorem dX12_holdsLine_63 : decode cX12_holdsLine 63 = .ok (.aload_n 0, 1) := by decide +kernel
theorem dX12_holdsLine_64 : decode cX12_holdsLine 64 = .ok (.iload 6, 2) := by decide +kernel
theorem dX12_holdsLine_66 : decode cX12_holdsLine 66 = .ok (.aload_n 0, 1) := by decide +kernel
theorem dX12_holdsLine_67 : decode cX12_holdsLine 67 = .ok (.getfield 13, 3) := by decide +kernel
theorem dX12_holdsLine_70 : decode cX12_holdsLine 70 = .ok (.sipush 780, 3) := by decide +kernel
theorem dX12_holdsLine_73 : decode cX12_holdsLine 73 = .ok (.iconst 2, 1) := by decide +kernel
theorem dX12_holdsLine_74 : decode cX12_holdsLine 74 = .ok (.iload 5, 2) := by decide +kernel
theorem dX12_holdsLine_76 : decode cX12_holdsLine 76 = .ok (.imul, 1) := by decide +kernel
theorem dX12_holdsLine_77 : decode cX12_holdsLine 77 = .ok (.iadd, 1) := by decide +kernel
theorem dX12_holdsLine_78 : decode cX12_holdsLine 78 = .ok (.iconst 1, 1) := by decide +kernel
theorem dX12_holdsLine_79 : decode cX12_holdsLine 79 = .ok (.iadd, 1) := by decide +kernel
theorem dX12_holdsLine_80 : decode cX12_holdsLine 80 = .ok (.iaload, 1) := by decide +kernel
theorem dX12_holdsLine_81 : decode cX12_holdsLine 81 = .ok (.iload_n 2, 1) := by decide +kernel
theorem dX12_holdsLine_82 : decode cX12_holdsLine 82 = .ok (.invokevirtual 286, 3) := by decide +kernel
theorem dX12_holdsLine_85 : decode cX12_holdsLine 85 = .ok (.iastore, 1) := by decide +kernel
theorem dX12_holdsLine_86 : decode cX12_holdsLine 86 = .ok (.iinc 3 1, 3) := by decide +kernel
theorem dX12_holdsLine_89 : decode cX12_holdsLine 89 = .ok (.goto 168, 3) := by decide +kernel
theorem dX12_holdsLine_92 : decode cX12_holdsLine 92 = .ok (.iload 6, 2) := by decide +kernel
theorem dX12_holdsLine_94 : decode cX12_holdsLine 94 = .ok (.bipush 12, 2) := by decide +kernel
theorem dX12_holdsLine_96 : decode cX12_holdsLine 96 = .ok (.if_icmp .ne 24, 3) := by decide +kernel
theorem dX12_holdsLine_99 : decode cX12_holdsLine 99 = .ok (.aload_n 0, 1) := by decide +kernel
theorem dX12_holdsLine_100 : decode cX12_holdsLine 100 = .ok (.getfield 39, 3) := by decide +kernel
theorem dX12_holdsLine_103 : decode cX12_holdsLine 103 = .ok (.iload_n 3, 1) := by decide +kernel
theorem dX12_holdsLine_104 : decode cX12_holdsLine 104 = .ok (.iconst 1, 1) := by decide +kernel
theorem dX12_holdsLine_105 : decode cX12_holdsLine 105 = .ok (.isub, 1) := by decide +kernel
theorem dX12_holdsLine_106 : decode cX12_holdsLine 106 = .ok (.iconst 1, 1) := by decide +kernel
theorem dX12_holdsLine_107 : decode cX12_holdsLine 107 = .ok (.aload_n 0, 1) := by decide +kernel
theorem dX12_holdsLine_108 : decode cX12_holdsLine 108 = .ok (.getfield 39, 3) := by decide +kernel
theorem dX12_holdsLine_111 : decode cX12_holdsLine 111 = .ok (.iload_n 3, 1) := by decide +kernel
theorem dX12_holdsLine_112 : decode cX12_holdsLine 112 = .ok (.iconst 1, 1) := by decide +kernel
theorem dX12_holdsLine_113 : decode cX12_holdsLine 113 = .ok (.isub, 1) := by decide +kernel
theorem dX12_holdsLine_114 : decode cX12_holdsLine 114 = .ok (.iaload, 1) := by decide +kernel
theorem dX12_holdsLine_115 : decode cX12_holdsLine 115 = .ok (.isub, 1) := by decide +kernel
theorem dX12_holdsLine_116 : decode cX12_holdsLine 116 = .ok (.iastore, 1) := by decide +kernel
theorem dX12_holdsLine_117 : decode cX12_holdsLine 117 = .ok (.goto 140, 3) := by decide +kernel
theorem dX12_holdsLine_120 : decode cX12_holdsLine 120 = .ok (.iinc 3 (-1), 3) := by decide +kernel
theorem dX12_holdsLine_123 : decode cX12_holdsLine 123 = .ok (.aload_n 0, 1) := by decide +kernel
theorem dX12_holdsLine_124 : decode cX12_holdsLine 124 = .ok (.getfield 39, 3) := by decide +kernel
theorem dX12_holdsLine_127 : decode cX12_holdsLine 127 = .ok (.iload_n 3, 1) := by decide +kernel
theorem dX12_holdsLine_128 : decode cX12_holdsLine 128 = .ok (.iconst 1, 1) := by decide +kernel
theorem dX12_holdsLine_129 : decode cX12_holdsLine 129 = .ok (.isub, 1) := by decide +kernel
theorem dX12_holdsLine_130 : decode cX12_holdsLine 130 = .ok (.iaload, 1) := by decide +kernel
theorem dX12_holdsLine_131 : decode cX12_holdsLine 131 = .ok (.istore 7, 2) := by decide +kernel
theorem dX12_holdsLine_133 : decode cX12_holdsLine 133 = .ok (.aload_n 0, 1) := by decide +kernel
theorem dX12_holdsLine_134 : decode cX12_holdsLine 134 = .ok (.getfield 39, 3) := by decide +kernel
theorem dX12_holdsLine_137 : decode cX12_holdsLine 137 = .ok (.iload_n 3, 1) := by decide +kernel
theorem dX12_holdsLine_138 : decode cX12_holdsLine 138 = .ok (.iaload, 1) := by decide +kernel
theorem dX12_holdsLine_139 : decode cX12_holdsLine 139 = .ok (.istore 8, 2) := by decide +kernel
theorem dX12_holdsLine_141 : decode cX12_holdsLine 141 = .ok (.iload 6, 2) := by decide +kernel
theorem dX12_holdsLine_143 : decode cX12_holdsLine 143 = .ok (.bipush 10, 2) := by decide +kernel
theorem dX12_holdsLine_145 : decode cX12_holdsLine 145 = .ok (.if_icmp .ne 18, 3) := by decide +kernel
theorem dX12_holdsLine_148 : decode cX12_holdsLine 148 = .ok (.iload 7, 2) := by decide +kernel
theorem dX12_holdsLine_150 : decode cX12_holdsLine 150 = .ok (.iload 8, 2) := by decide +kernel
theorem dX12_holdsLine_152 : decode cX12_holdsLine 152 = .ok (.if_icmp .ge 7, 3) := by decide +kernel
theorem dX12_holdsLine_155 : decode cX12_holdsLine 155 = .ok (.iconst 1, 1) := by decide +kernel
theorem dX12_holdsLine_156 : decode cX12_holdsLine 156 = .ok (.goto 66, 3) := by decide +kernel
theorem dX12_holdsLine_159 : decode cX12_holdsLine 159 = .ok (.iconst 0, 1) := by decide +kernel
theorem dX12_holdsLine_160 : decode cX12_holdsLine 160 = .ok (.goto 62, 3) := by decide +kernel
theorem dX12_holdsLine_163 : decode cX12_holdsLine 163 = .ok (.iload 6, 2) := by decide +kernel
theorem dX12_holdsLine_165 : decode cX12_holdsLine 165 = .ok (.bipush 11, 2) := by decide +kernel
theorem dX12_holdsLine_167 : decode cX12_holdsLine 167 = .ok (.if_icmp .ne 18, 3) := by decide +kernel
theorem dX12_holdsLine_170 : decode cX12_holdsLine 170 = .ok (.iload 7, 2) := by decide +kernel
theorem dX12_holdsLine_172 : decode cX12_holdsLine 172 = .ok (.iload 8, 2) := by decide +kernel
theorem dX12_holdsLine_174 : decode cX12_holdsLine 174 = .ok (.if_icmp .le 7, 3) := by decide +kernel
theorem dX12_holdsLine_177 : decode cX12_holdsLine 177 = .ok (.iconst 1, 1) := by decide +kernel
theorem dX12_holdsLine_178 : decode cX12_holdsLine 178 = .ok (.goto 44, 3) := by decide +kernel
theorem dX12_holdsLine_181 : decode cX12_holdsLine 181 = .ok (.iconst 0, 1) := by decide +kernel
theorem dX12_holdsLine_182 : decode cX12_holdsLine 182 = .ok (.goto 40, 3) := by decide +kernel
theorem dX12_holdsLine_185 : decode cX12_holdsLine 185 = .ok (.iload 6, 2) := by decide +kernel
theorem dX12_holdsLine_187 : decode cX12_holdsLine 187 = .ok (.bipush 13, 2) := by decide +kernel
theorem dX12_holdsLine_189 : decode cX12_holdsLine 189 = .ok (.if_icmp .ne 20, 3) := by decide +kernel
theorem dX12_holdsLine_192 : decode cX12_holdsLine 192 = .ok (.iload 7, 2) := by decide +kernel
theorem dX12_holdsLine_194 : decode cX12_holdsLine 194 = .ok (.iload 8, 2) := by decide +kernel
theorem dX12_holdsLine_196 : decode cX12_holdsLine 196 = .ok (.iadd, 1) := by decide +kernel
theorem dX12_holdsLine_197 : decode cX12_holdsLine 197 = .ok (.iconst 2, 1) := by decide +kernel
theorem dX12_holdsLine_198 : decode cX12_holdsLine 198 = .ok (.if_icmp .ne 7, 3) := by decide +kernel
theorem dX12_holdsLine_201 : decode cX12_holdsLine 201 = .ok (.iconst 1, 1) := by decide +kernel
theorem dX12_holdsLine_202 : decode cX12_holdsLine 202 = .ok (.goto 20, 3) := by decide +kernel
theorem dX12_holdsLine_205 : decode cX12_holdsLine 205 = .ok (.iconst 0, 1) := by decide +kernel
theorem dX12_holdsLine_206 : decode cX12_holdsLine 206 = .ok (.goto 16, 3) := by decide +kernel
theorem dX12_holdsLine_209 : decode cX12_holdsLine 209 = .ok (.iload 7, 2) := by decide +kernel
theorem dX12_holdsLine_211 : decode cX12_holdsLine 211 = .ok (.iload 8, 2) := by decide +kernel
theorem dX12_holdsLine_213 : decode cX12_holdsLine 213 = .ok (.iadd, 1) := by decide +kernel
theorem dX12_holdsLine_214 : decode cX12_holdsLine 214 = .ok (.ifCond .le 7, 3) := by decide +kernel
theorem dX12_holdsLine_217 : decode cX12_holdsLine 217 = .ok (.iconst 1, 1) := by decide +kernel
theorem dX12_holdsLine_218 : decode cX12_holdsLine 218 = .ok (.goto 4, 3) := by decide +kernel
theorem dX12_holdsLine_221 : decode cX12_holdsLine 221 = .ok (.iconst 0, 1) := by decide +kernel
theorem dX12_holdsLine_222 : decode cX12_holdsLine 222 = .ok (.istore 9, 2) := by decide +kernel
theorem dX12_holdsLine_224 : decode cX12_holdsLine 224 = .ok (.aload_n 0, 1) := by decide +kernel
theorem dX12_holdsLine_225 : decode cX12_holdsLine 225 = .ok (.getfield 39, 3) := by decide +kernel
theorem dX12_holdsLine_228 : decode cX12_holdsLine 228 = .ok (.iload_n 3, 1) := by decide +kernel
theorem dX12_holdsLine_229 : decode cX12_holdsLine 229 = .ok (.iconst 1, 1) := by decide +kernel
theorem dX12_holdsLine_230 : decode cX12_holdsLine 230 = .ok (.isub, 1) := by decide +kernel
theorem dX12_holdsLine_231 : decode cX12_holdsLine 231 = .ok (.iload 6, 2) := by decide +kernel
theorem dX12_holdsLine_233 : decode cX12_holdsLine 233 = .ok (.bipush 9, 2) := by decide +kernel
theorem dX12_holdsLine_235 : decode cX12_holdsLine 235 = .ok (.if_icmp .ne 11, 3) := by decide +kernel
theorem dX12_holdsLine_238 : decode cX12_holdsLine 238 = .ok (.iload 7, 2) := by decide +kernel
theorem dX12_holdsLine_240 : decode cX12_holdsLine 240 = .ok (.iload 8, 2) := by decide +kernel
theorem dX12_holdsLine_242 : decode cX12_holdsLine 242 = .ok (.iadd, 1) := by decide +kernel
theorem dX12_holdsLine_243 : decode cX12_holdsLine 243 = .ok (.goto 13, 3) := by decide +kernel
theorem dX12_holdsLine_246 : decode cX12_holdsLine 246 = .ok (.iload 9, 2) := by decide +kernel
theorem dX12_holdsLine_248 : decode cX12_holdsLine 248 = .ok (.ifCond .eq 7, 3) := by decide +kernel
theorem dX12_holdsLine_251 : decode cX12_holdsLine 251 = .ok (.iconst 1, 1) := by decide +kernel
theorem dX12_holdsLine_252 : decode cX12_holdsLine 252 = .ok (.goto 4, 3) := by decide +kernel
theorem dX12_holdsLine_255 : decode cX12_holdsLine 255 = .ok (.iconst 0, 1) := by decide +kernel
theorem dX12_holdsLine_256 : decode cX12_holdsLine 256 = .ok (.iastore, 1) := by decide +kernel
theorem dX12_holdsLine_257 : decode cX12_holdsLine 257 = .ok (.iinc 5 1, 3) := by decide +kernel
theorem dX12_holdsLine_260 : decode cX12_holdsLine 260 = .ok (.goto (-238), 3) := by decide +kernel
theorem dX12_holdsLine_263 : decode cX12_holdsLine 263 = .ok (.iload_n 3, 1) := by decide +kernel
theorem dX12_holdsLine_264 : decode cX12_holdsLine 264 = .ok (.ifCond .eq 13, 3) := by decide +kernel
theorem dX12_holdsLine_267 : decode cX12_holdsLine 267 = .ok (.aload_n 0, 1) := by decide +kernel
theorem dX12_holdsLine_268 : decode cX12_holdsLine 268 = .ok (.getfield 39, 3) := by decide +kernel
theorem dX12_holdsLine_271 : decode cX12_holdsLine 271 = .ok (.iconst 0, 1) := by decide +kernel
theorem dX12_holdsLine_272 : decode cX12_holdsLine 272 = .ok (.iaload, 1) := by decide +kernel
theorem dX12_holdsLine_273 : decode cX12_holdsLine 273 = .ok (.iconst 1, 1) := by decide +kernel
theorem dX12_holdsLine_274 : decode cX12_holdsLine 274 = .ok (.if_icmp .ne 7, 3) := by decide +kernel
theorem dX12_holdsLine_277 : decode cX12_holdsLine 277 = .ok (.iconst 1, 1) := by decide +kernel
theorem dX12_holdsLine_278 : decode cX12_holdsLine 278 = .ok (.goto 4, 3) := by decide +kernel
theorem dX12_holdsLine_281 : decode cX12_holdsLine 281 = .ok (.iconst 0, 1) := by decide +kernel
theorem dX12_holdsLine_282 : decode cX12_holdsLine 282 = .ok (.ireturn, 1) := by decide +kernel
theorem dX12_says_0 : decode cX12_says 0 = .ok (.aload_n 0, 1) := by decide +kernel
theorem dX12_says_1 : decode cX12_says 1 = .ok (.getfield 13, 3) := by decide +kernel
theorem dX12_says_4 : decode cX12_says 4 = .ok (.iconst 4, 1) := by decide +kernel
theorem dX12_says_5 : decode cX12_says 5 = .ok (.iaload, 1) := by decide +kernel
theorem dX12_says_6 : decode cX12_says 6 = .ok (.ifCond .ne 24, 3) := by decide +kernel
theorem dX12_says_9 : decode cX12_says 9 = .ok (.iload_n 1, 1) := by decide +kernel
theorem dX12_says_10 : decode cX12_says 10 = .ok (.ifCond .ne 8, 3) := by decide +kernel
theorem dX12_says_13 : decode cX12_says 13 = .ok (.bipush 50, 2) := by decide +kernel
theorem dX12_says_15 : decode cX12_says 15 = .ok (.goto 14, 3) := by decide +kernel
theorem dX12_says_18 : decode cX12_says 18 = .ok (.iload_n 1, 1) := by decide +kernel
theorem dX12_says_19 : decode cX12_says 19 = .ok (.iconst 1, 1) := by decide +kernel
theorem dX12_says_20 : decode cX12_says 20 = .ok (.if_icmp .ne 8, 3) := by decide +kernel
theorem dX12_says_23 : decode cX12_says 23 = .ok (.bipush 20, 2) := by decide +kernel
theorem dX12_says_25 : decode cX12_says 25 = .ok (.goto 4, 3) := by decide +kernel
theorem dX12_says_28 : decode cX12_says 28 = .ok (.iconst 1, 1) := by decide +kernel
theorem dX12_says_29 : decode cX12_says 29 = .ok (.ireturn, 1) := by decide +kernel
theorem dX12_says_30 : decode cX12_says 30 = .ok (.iconst 0, 1) := by decide +kernel
theorem dX12_says_31 : decode cX12_says 31 = .ok (.istore_n 3, 1) := by decide +kernel
theorem dX12_says_32 : decode cX12_says 32 = .ok (.iconst 0, 1) := by decide +kernel
theorem dX12_says_33 : decode cX12_says 33 = .ok (.istore 4, 2) := by decide +kernel
theorem dX12_says_35 : decode cX12_says 35 = .ok (.iload 4, 2) := by decide +kernel
theorem dX12_says_37 : decode cX12_says 37 = .ok (.aload_n 0, 1) := by decide +kernel
theorem dX12_says_38 : decode cX12_says 38 = .ok (.getfield 13, 3) := by decide +kernel
theorem dX12_says_41 : decode cX12_says 41 = .ok (.sipush 731, 3) := by decide +kernel
theorem dX12_says_44 : decode cX12_says 44 = .ok (.iaload, 1) := by decide +kernel
theorem dX12_says_45 : decode cX12_says 45 = .ok (.if_icmp .ge 58, 3) := by decide +kernel
theorem dX12_says_48 : decode cX12_says 48 = .ok (.iload_n 3, 1) := by decide +kernel
theorem dX12_says_49 : decode cX12_says 49 = .ok (.aload_n 0, 1) := by decide +kernel
theorem dX12_says_50 : decode cX12_says 50 = .ok (.getfield 13, 3) := by decide +kernel
theorem dX12_says_53 : decode cX12_says 53 = .ok (.sipush 732, 3) := by decide +kernel
theorem dX12_says_56 : decode cX12_says 56 = .ok (.iconst 4, 1) := by decide +kernel
theorem dX12_says_57 : decode cX12_says 57 = .ok (.iload 4, 2) := by decide +kernel
theorem dX12_says_59 : decode cX12_says 59 = .ok (.imul, 1) := by decide +kernel
theorem dX12_says_60 : decode cX12_says 60 = .ok (.iadd, 1) := by decide +kernel
theorem dX12_says_61 : decode cX12_says 61 = .ok (.iaload, 1) := by decide +kernel
theorem dX12_says_62 : decode cX12_says 62 = .ok (.iload_n 1, 1) := by decide +kernel
theorem dX12_says_63 : decode cX12_says 63 = .ok (.if_icmp .ne 31, 3) := by decide +kernel
theorem dX12_says_66 : decode cX12_says 66 = .ok (.aload_n 0, 1) := by decide +kernel
theorem dX12_says_67 : decode cX12_says 67 = .ok (.iload 4, 2) := by decide +kernel
theorem dX12_says_69 : decode cX12_says 69 = .ok (.iload_n 2, 1) := by decide +kernel
theorem dX12_says_70 : decode cX12_says 70 = .ok (.invokevirtual 290, 3) := by decide +kernel
theorem dX12_says_73 : decode cX12_says 73 = .ok (.ifCond .eq 21, 3) := by decide +kernel
theorem dX12_says_76 : decode cX12_says 76 = .ok (.aload_n 0, 1) := by decide +kernel
theorem dX12_says_77 : decode cX12_says 77 = .ok (.getfield 13, 3) := by decide +kernel
theorem dX12_says_80 : decode cX12_says 80 = .ok (.sipush 732, 3) := by decide +kernel
theorem dX12_says_83 : decode cX12_says 83 = .ok (.iconst 4, 1) := by decide +kernel
theorem dX12_says_84 : decode cX12_says 84 = .ok (.iload 4, 2) := by decide +kernel
theorem dX12_says_86 : decode cX12_says 86 = .ok (.imul, 1) := by decide +kernel
theorem dX12_says_87 : decode cX12_says 87 = .ok (.iadd, 1) := by decide +kernel
theorem dX12_says_88 : decode cX12_says 88 = .ok (.iconst 1, 1) := by decide +kernel
theorem dX12_says_89 : decode cX12_says 89 = .ok (.iadd, 1) := by decide +kernel
theorem dX12_says_90 : decode cX12_says 90 = .ok (.iaload, 1) := by decide +kernel
theorem dX12_says_91 : decode cX12_says 91 = .ok (.goto 4, 3) := by decide +kernel
theorem dX12_says_94 : decode cX12_says 94 = .ok (.iconst 0, 1) := by decide +kernel
theorem dX12_says_95 : decode cX12_says 95 = .ok (.iadd, 1) := by decide +kernel
theorem dX12_says_96 : decode cX12_says 96 = .ok (.istore_n 3, 1) := by decide +kernel
theorem dX12_says_97 : decode cX12_says 97 = .ok (.iinc 4 1, 3) := by decide +kernel
theorem dX12_says_100 : decode cX12_says 100 = .ok (.goto (-65), 3) := by decide +kernel
theorem dX12_says_103 : decode cX12_says 103 = .ok (.iload_n 1, 1) := by decide +kernel
theorem dX12_says_104 : decode cX12_says 104 = .ok (.iconst 2, 1) := by decide +kernel
theorem dX12_says_105 : decode cX12_says 105 = .ok (.if_icmp .ne 7, 3) := by decide +kernel
theorem dX12_says_108 : decode cX12_says 108 = .ok (.iconst 1, 1) := by decide +kernel
theorem dX12_says_109 : decode cX12_says 109 = .ok (.goto 5, 3) := by decide +kernel
theorem dX12_says_112 : decode cX12_says 112 = .ok (.bipush 100, 2) := by decide +kernel
theorem dX12_says_114 : decode cX12_says 114 = .ok (.iload_n 3, 1) := by decide +kernel
theorem dX12_says_115 : decode cX12_says 115 = .ok (.invokestatic 293, 3) := by decide +kernel
theorem dX12_says_118 : decode cX12_says 118 = .ok (.ireturn, 1) := by decide +kernel
theorem dX12_bears_0 : decode cX12_bears 0 = .ok (.aload_n 0, 1) := by decide +kernel
theorem dX12_bears_1 : decode cX12_bears 1 = .ok (.iload_n 1, 1) := by decide +kernel
theorem dX12_bears_2 : decode cX12_bears 2 = .ok (.iconst 1, 1) := by decide +kernel
theorem dX12_bears_3 : decode cX12_bears 3 = .ok (.invokevirtual 85, 3) := by decide +kernel
theorem dX12_bears_6 : decode cX12_bears 6 = .ok (.istore_n 2, 1) := by decide +kernel
theorem dX12_bears_7 : decode cX12_bears 7 = .ok (.iload_n 1, 1) := by decide +kernel
theorem dX12_bears_8 : decode cX12_bears 8 = .ok (.iconst 1, 1) := by decide +kernel
theorem dX12_bears_9 : decode cX12_bears 9 = .ok (.isub, 1) := by decide +kernel
theorem dX12_bears_10 : decode cX12_bears 10 = .ok (.istore_n 3, 1) := by decide +kernel
theorem dX12_bears_11 : decode cX12_bears 11 = .ok (.iload_n 3, 1) := by decide +kernel
theorem dX12_bears_12 : decode cX12_bears 12 = .ok (.ifCond .lt 30, 3) := by decide +kernel
theorem dX12_bears_15 : decode cX12_bears 15 = .ok (.iload_n 2, 1) := by decide +kernel
theorem dX12_bears_16 : decode cX12_bears 16 = .ok (.iload_n 2, 1) := by decide +kernel
theorem dX12_bears_17 : decode cX12_bears 17 = .ok (.iload_n 3, 1) := by decide +kernel
theorem dX12_bears_18 : decode cX12_bears 18 = .ok (.invokestatic 81, 3) := by decide +kernel
theorem dX12_bears_21 : decode cX12_bears 21 = .ok (.ifCond .eq 12, 3) := by decide +kernel
theorem dX12_bears_24 : decode cX12_bears 24 = .ok (.aload_n 0, 1) := by decide +kernel
theorem dX12_bears_25 : decode cX12_bears 25 = .ok (.iload_n 3, 1) := by decide +kernel
theorem dX12_bears_26 : decode cX12_bears 26 = .ok (.iconst 1, 1) := by decide +kernel
theorem dX12_bears_27 : decode cX12_bears 27 = .ok (.invokevirtual 85, 3) := by decide +kernel
theorem dX12_bears_30 : decode cX12_bears 30 = .ok (.goto 4, 3) := by decide +kernel
theorem dX12_bears_33 : decode cX12_bears 33 = .ok (.iconst 0, 1) := by decide +kernel
theorem dX12_bears_34 : decode cX12_bears 34 = .ok (.ior, 1) := by decide +kernel
theorem dX12_bears_35 : decode cX12_bears 35 = .ok (.istore_n 2, 1) := by decide +kernel
theorem dX12_bears_36 : decode cX12_bears 36 = .ok (.iinc 3 (-1), 3) := by decide +kernel
theorem dX12_bears_39 : decode cX12_bears 39 = .ok (.goto (-28), 3) := by decide +kernel
theorem dX12_bears_42 : decode cX12_bears 42 = .ok (.iload_n 2, 1) := by decide +kernel
theorem dX12_bears_43 : decode cX12_bears 43 = .ok (.ireturn, 1) := by decide +kernel
theorem dX12_bearsAll_0 : decode cX12_bearsAll 0 = .ok (.iload_n 1, 1) := by decide +kernel
theorem dX12_bearsAll_1 : decode cX12_bearsAll 1 = .ok (.istore_n 2, 1) := by decide +kernel
theorem dX12_bearsAll_2 : decode cX12_bearsAll 2 = .ok (.iconst 0, 1) := by decide +kernel
theorem dX12_bearsAll_3 : decode cX12_bearsAll 3 = .ok (.istore_n 3, 1) := by decide +kernel
theorem dX12_bearsAll_4 : decode cX12_bearsAll 4 = .ok (.iload_n 3, 1) := by decide +kernel
theorem dX12_bearsAll_5 : decode cX12_bearsAll 5 = .ok (.aload_n 0, 1) := by decide +kernel
theorem dX12_bearsAll_6 : decode cX12_bearsAll 6 = .ok (.invokevirtual 67, 3) := by decide +kernel
theorem dX12_bearsAll_9 : decode cX12_bearsAll 9 = .ok (.if_icmp .ge 29, 3) := by decide +kernel
theorem dX12_bearsAll_12 : decode cX12_bearsAll 12 = .ok (.iload_n 2, 1) := by decide +kernel
theorem dX12_bearsAll_13 : decode cX12_bearsAll 13 = .ok (.iload_n 1, 1) := by decide +kernel
theorem dX12_bearsAll_14 : decode cX12_bearsAll 14 = .ok (.iload_n 3, 1) := by decide +kernel
theorem dX12_bearsAll_15 : decode cX12_bearsAll 15 = .ok (.invokestatic 81, 3) := by decide +kernel
theorem dX12_bearsAll_18 : decode cX12_bearsAll 18 = .ok (.ifCond .eq 11, 3) := by decide +kernel
theorem dX12_bearsAll_21 : decode cX12_bearsAll 21 = .ok (.aload_n 0, 1) := by decide +kernel
theorem dX12_bearsAll_22 : decode cX12_bearsAll 22 = .ok (.iload_n 3, 1) := by decide +kernel
theorem dX12_bearsAll_23 : decode cX12_bearsAll 23 = .ok (.invokevirtual 298, 3) := by decide +kernel
theorem dX12_bearsAll_26 : decode cX12_bearsAll 26 = .ok (.goto 4, 3) := by decide +kernel
theorem dX12_bearsAll_29 : decode cX12_bearsAll 29 = .ok (.iconst 0, 1) := by decide +kernel
theorem dX12_bearsAll_30 : decode cX12_bearsAll 30 = .ok (.ior, 1) := by decide +kernel
theorem dX12_bearsAll_31 : decode cX12_bearsAll 31 = .ok (.istore_n 2, 1) := by decide +kernel
theorem dX12_bearsAll_32 : decode cX12_bearsAll 32 = .ok (.iinc 3 1, 3) := by decide +kernel
theorem dX12_bearsAll_35 : decode cX12_bearsAll 35 = .ok (.goto (-31), 3) := by decide +kernel
theorem dX12_bearsAll_38 : decode cX12_bearsAll 38 = .ok (.iload_n 2, 1) := by decide +kernel
theorem dX12_bearsAll_39 : decode cX12_bearsAll 39 = .ok (.ireturn, 1) := by decide +kernel
theorem dX12_restsOn_0 : decode cX12_restsOn 0 = .ok (.iconst 0, 1) := by decide +kernel
theorem dX12_restsOn_1 : decode cX12_restsOn 1 = .ok (.istore_n 2, 1) := by decide +kernel
theorem dX12_restsOn_2 : decode cX12_restsOn 2 = .ok (.iload_n 1, 1) := by decide +kernel
theorem dX12_restsOn_3 : decode cX12_restsOn 3 = .ok (.iconst 1, 1) := by decide +kernel
theorem dX12_restsOn_4 : decode cX12_restsOn 4 = .ok (.iadd, 1) := by decide +kernel
theorem dX12_restsOn_5 : decode cX12_restsOn 5 = .ok (.istore_n 3, 1) := by decide +kernel
theorem dX12_restsOn_6 : decode cX12_restsOn 6 = .ok (.iload_n 3, 1) := by decide +kernel
theorem dX12_restsOn_7 : decode cX12_restsOn 7 = .ok (.aload_n 0, 1) := by decide +kernel
theorem dX12_restsOn_8 : decode cX12_restsOn 8 = .ok (.invokevirtual 67, 3) := by decide +kernel
theorem dX12_restsOn_11 : decode cX12_restsOn 11 = .ok (.if_icmp .ge 31, 3) := by decide +kernel
theorem dX12_restsOn_14 : decode cX12_restsOn 14 = .ok (.iload_n 2, 1) := by decide +kernel
theorem dX12_restsOn_15 : decode cX12_restsOn 15 = .ok (.aload_n 0, 1) := by decide +kernel
theorem dX12_restsOn_16 : decode cX12_restsOn 16 = .ok (.iload_n 3, 1) := by decide +kernel
theorem dX12_restsOn_17 : decode cX12_restsOn 17 = .ok (.invokevirtual 298, 3) := by decide +kernel
theorem dX12_restsOn_20 : decode cX12_restsOn 20 = .ok (.iload_n 1, 1) := by decide +kernel
theorem dX12_restsOn_21 : decode cX12_restsOn 21 = .ok (.invokestatic 81, 3) := by decide +kernel
theorem dX12_restsOn_24 : decode cX12_restsOn 24 = .ok (.ifCond .eq 9, 3) := by decide +kernel
theorem dX12_restsOn_27 : decode cX12_restsOn 27 = .ok (.iconst 1, 1) := by decide +kernel
theorem dX12_restsOn_28 : decode cX12_restsOn 28 = .ok (.iload_n 3, 1) := by decide +kernel
theorem dX12_restsOn_29 : decode cX12_restsOn 29 = .ok (.ishl, 1) := by decide +kernel
theorem dX12_restsOn_30 : decode cX12_restsOn 30 = .ok (.goto 4, 3) := by decide +kernel
theorem dX12_restsOn_33 : decode cX12_restsOn 33 = .ok (.iconst 0, 1) := by decide +kernel
theorem dX12_restsOn_34 : decode cX12_restsOn 34 = .ok (.ior, 1) := by decide +kernel
theorem dX12_restsOn_35 : decode cX12_restsOn 35 = .ok (.istore_n 2, 1) := by decide +kernel
theorem dX12_restsOn_36 : decode cX12_restsOn 36 = .ok (.iinc 3 1, 3) := by decide +kernel
theorem dX12_restsOn_39 : decode cX12_restsOn 39 = .ok (.goto (-33), 3) := by decide +kernel
theorem dX12_restsOn_42 : decode cX12_restsOn 42 = .ok (.iload_n 2, 1) := by decide +kernel
theorem dX12_restsOn_43 : decode cX12_restsOn 43 = .ok (.ireturn, 1) := by decide +kernel
theorem dX12_knowers_0 : decode cX12_knowers 0 = .ok (.iconst 0, 1) := by decide +kernel
theorem dX12_knowers_1 : decode cX12_knowers 1 = .ok (.istore_n 2, 1) := by decide +kernel
theorem dX12_knowers_2 : decode cX12_knowers 2 = .ok (.iconst 0, 1) := by decide +kernel
theorem dX12_knowers_3 : decode cX12_knowers 3 = .ok (.istore_n 3, 1) := by decide +kernel
theorem dX12_knowers_4 : decode cX12_knowers 4 = .ok (.iload_n 3, 1) := by decide +kernel
theorem dX12_knowers_5 : decode cX12_knowers 5 = .ok (.aload_n 0, 1) := by decide +kernel
theorem dX12_knowers_6 : decode cX12_knowers 6 = .ok (.invokevirtual 75, 3) := by decide +kernel
theorem dX12_knowers_9 : decode cX12_knowers 9 = .ok (.if_icmp .ge 31, 3) := by decide +kernel
theorem dX12_knowers_12 : decode cX12_knowers 12 = .ok (.iload_n 2, 1) := by decide +kernel
theorem dX12_knowers_13 : decode cX12_knowers 13 = .ok (.aload_n 0, 1) := by decide +kernel
theorem dX12_knowers_14 : decode cX12_knowers 14 = .ok (.iload_n 3, 1) := by decide +kernel
theorem dX12_knowers_15 : decode cX12_knowers 15 = .ok (.invokevirtual 88, 3) := by decide +kernel
theorem dX12_knowers_18 : decode cX12_knowers 18 = .ok (.iload_n 1, 1) := by decide +kernel
theorem dX12_knowers_19 : decode cX12_knowers 19 = .ok (.invokestatic 81, 3) := by decide +kernel
theorem dX12_knowers_22 : decode cX12_knowers 22 = .ok (.ifCond .eq 9, 3) := by decide +kernel
theorem dX12_knowers_25 : decode cX12_knowers 25 = .ok (.iconst 1, 1) := by decide +kernel
theorem dX12_knowers_26 : decode cX12_knowers 26 = .ok (.iload_n 3, 1) := by decide +kernel
theorem dX12_knowers_27 : decode cX12_knowers 27 = .ok (.ishl, 1) := by decide +kernel
theorem dX12_knowers_28 : decode cX12_knowers 28 = .ok (.goto 4, 3) := by decide +kernel
theorem dX12_knowers_31 : decode cX12_knowers 31 = .ok (.iconst 0, 1) := by decide +kernel
theorem dX12_knowers_32 : decode cX12_knowers 32 = .ok (.ior, 1) := by decide +kernel
theorem dX12_knowers_33 : decode cX12_knowers 33 = .ok (.istore_n 2, 1) := by decide +kernel
theorem dX12_knowers_34 : decode cX12_knowers 34 = .ok (.iinc 3 1, 3) := by decide +kernel
theorem dX12_knowers_37 : decode cX12_knowers 37 = .ok (.goto (-33), 3) := by decide +kernel
theorem dX12_knowers_40 : decode cX12_knowers 40 = .ok (.iload_n 2, 1) := by decide +kernel
theorem dX12_knowers_41 : decode cX12_knowers 41 = .ok (.ireturn, 1) := by decide +kernel
theorem dX12_users_0 : decode cX12_users 0 = .ok (.iconst 0, 1) := by decide +kernel
theorem dX12_users_1 : decode cX12_users 1 = .ok (.istore_n 2, 1) := by decide +kernel
theorem dX12_users_2 : decode cX12_users 2 = .ok (.iconst 0, 1) := by decide +kernel
theorem dX12_users_3 : decode cX12_users 3 = .ok (.istore_n 3, 1) := by decide +kernel
theorem dX12_users_4 : decode cX12_users 4 = .ok (.iload_n 3, 1) := by decide +kernel
theorem dX12_users_5 : decode cX12_users 5 = .ok (.aload_n 0, 1) := by decide +kernel
theorem dX12_users_6 : decode cX12_users 6 = .ok (.invokevirtual 75, 3) := by decide +kernel
theorem dX12_users_9 : decode cX12_users 9 = .ok (.if_icmp .ge 31, 3) := by decide +kernel
theorem dX12_users_12 : decode cX12_users 12 = .ok (.iload_n 2, 1) := by decide +kernel
theorem dX12_users_13 : decode cX12_users 13 = .ok (.aload_n 0, 1) := by decide +kernel
theorem dX12_users_14 : decode cX12_users 14 = .ok (.iload_n 3, 1) := by decide +kernel
theorem dX12_users_15 : decode cX12_users 15 = .ok (.invokevirtual 275, 3) := by decide +kernel
theorem dX12_users_18 : decode cX12_users 18 = .ok (.iload_n 1, 1) := by decide +kernel
theorem dX12_users_19 : decode cX12_users 19 = .ok (.invokestatic 81, 3) := by decide +kernel
theorem dX12_users_22 : decode cX12_users 22 = .ok (.ifCond .eq 9, 3) := by decide +kernel
theorem dX12_users_25 : decode cX12_users 25 = .ok (.iconst 1, 1) := by decide +kernel
theorem dX12_users_26 : decode cX12_users 26 = .ok (.iload_n 3, 1) := by decide +kernel
theorem dX12_users_27 : decode cX12_users 27 = .ok (.ishl, 1) := by decide +kernel
theorem dX12_users_28 : decode cX12_users 28 = .ok (.goto 4, 3) := by decide +kernel
theorem dX12_users_31 : decode cX12_users 31 = .ok (.iconst 0, 1) := by decide +kernel
theorem dX12_users_32 : decode cX12_users 32 = .ok (.ior, 1) := by decide +kernel
theorem dX12_users_33 : decode cX12_users 33 = .ok (.istore_n 2, 1) := by decide +kernel
theorem dX12_users_34 : decode cX12_users 34 = .ok (.iinc 3 1, 3) := by decide +kernel
theorem dX12_users_37 : decode cX12_users 37 = .ok (.goto (-33), 3) := by decide +kernel
theorem dX12_users_40 : decode cX12_users 40 = .ok (.iload_n 2, 1) := by decide +kernel
theorem dX12_users_41 : decode cX12_users 41 = .ok (.ireturn, 1) := by decide +kernel
theorem dX12_sideOf_0 : decode cX12_sideOf 0 = .ok (.iconst 0, 1) := by decide +kernel
theorem dX12_sideOf_1 : decode cX12_sideOf 1 = .ok (.istore_n 2, 1) := by decide +kernel
theorem dX12_sideOf_2 : decode cX12_sideOf 2 = .ok (.iconst 0, 1) := by decide +kernel
theorem dX12_sideOf_3 : decode cX12_sideOf 3 = .ok (.istore_n 3, 1) := by decide +kernel
theorem dX12_sideOf_4 : decode cX12_sideOf 4 = .ok (.iload_n 3, 1) := by decide +kernel
theorem dX12_sideOf_5 : decode cX12_sideOf 5 = .ok (.aload_n 0, 1) := by decide +kernel
theorem dX12_sideOf_6 : decode cX12_sideOf 6 = .ok (.invokevirtual 75, 3) := by decide +kernel
theorem dX12_sideOf_9 : decode cX12_sideOf 9 = .ok (.if_icmp .ge 29, 3) := by decide +kernel
theorem dX12_sideOf_12 : decode cX12_sideOf 12 = .ok (.iload_n 2, 1) := by decide +kernel
theorem dX12_sideOf_13 : decode cX12_sideOf 13 = .ok (.aload_n 0, 1) := by decide +kernel
theorem dX12_sideOf_14 : decode cX12_sideOf 14 = .ok (.iload_n 3, 1) := by decide +kernel
theorem dX12_sideOf_15 : decode cX12_sideOf 15 = .ok (.iconst 0, 1) := by decide +kernel
theorem dX12_sideOf_16 : decode cX12_sideOf 16 = .ok (.invokevirtual 63, 3) := by decide +kernel
theorem dX12_sideOf_19 : decode cX12_sideOf 19 = .ok (.iload_n 1, 1) := by decide +kernel
theorem dX12_sideOf_20 : decode cX12_sideOf 20 = .ok (.if_icmp .ne 9, 3) := by decide +kernel
theorem dX12_sideOf_23 : decode cX12_sideOf 23 = .ok (.iconst 1, 1) := by decide +kernel
theorem dX12_sideOf_24 : decode cX12_sideOf 24 = .ok (.iload_n 3, 1) := by decide +kernel
theorem dX12_sideOf_25 : decode cX12_sideOf 25 = .ok (.ishl, 1) := by decide +kernel
theorem dX12_sideOf_26 : decode cX12_sideOf 26 = .ok (.goto 4, 3) := by decide +kernel
theorem dX12_sideOf_29 : decode cX12_sideOf 29 = .ok (.iconst 0, 1) := by decide +kernel
theorem dX12_sideOf_30 : decode cX12_sideOf 30 = .ok (.ior, 1) := by decide +kernel
theorem dX12_sideOf_31 : decode cX12_sideOf 31 = .ok (.istore_n 2, 1) := by decide +kernel
theorem dX12_sideOf_32 : decode cX12_sideOf 32 = .ok (.iinc 3 1, 3) := by decide +kernel
theorem dX12_sideOf_35 : decode cX12_sideOf 35 = .ok (.goto (-31), 3) := by decide +kernel
theorem dX12_sideOf_38 : decode cX12_sideOf 38 = .ok (.iload_n 2, 1) := by decide +kernel
theorem dX12_sideOf_39 : decode cX12_sideOf 39 = .ok (.ireturn, 1) := by decide +kernel
theorem dX12_inField_0 : decode cX12_inField 0 = .ok (.iconst 0, 1) := by decide +kernel
theorem dX12_inField_1 : decode cX12_inField 1 = .ok (.istore_n 2, 1) := by decide +kernel
theorem dX12_inField_2 : decode cX12_inField 2 = .ok (.iconst 0, 1) := by decide +kernel
theorem dX12_inField_3 : decode cX12_inField 3 = .ok (.istore_n 3, 1) := by decide +kernel
theorem dX12_inField_4 : decode cX12_inField 4 = .ok (.iload_n 3, 1) := by decide +kernel
theorem dX12_inField_5 : decode cX12_inField 5 = .ok (.aload_n 0, 1) := by decide +kernel
theorem dX12_inField_6 : decode cX12_inField 6 = .ok (.getfield 13, 3) := by decide +kernel
theorem dX12_inField_9 : decode cX12_inField 9 = .ok (.bipush 6, 2) := by decide +kernel
theorem dX12_inField_11 : decode cX12_inField 11 = .ok (.iaload, 1) := by decide +kernel
theorem dX12_inField_12 : decode cX12_inField 12 = .ok (.if_icmp .ge 27, 3) := by decide +kernel
theorem dX12_inField_15 : decode cX12_inField 15 = .ok (.iload_n 2, 1) := by decide +kernel
theorem dX12_inField_16 : decode cX12_inField 16 = .ok (.aload_n 0, 1) := by decide +kernel
theorem dX12_inField_17 : decode cX12_inField 17 = .ok (.iload_n 3, 1) := by decide +kernel
theorem dX12_inField_18 : decode cX12_inField 18 = .ok (.iconst 0, 1) := by decide +kernel
theorem dX12_inField_19 : decode cX12_inField 19 = .ok (.invokevirtual 301, 3) := by decide +kernel
theorem dX12_inField_22 : decode cX12_inField 22 = .ok (.iload_n 1, 1) := by decide +kernel
theorem dX12_inField_23 : decode cX12_inField 23 = .ok (.if_icmp .ne 7, 3) := by decide +kernel
theorem dX12_inField_26 : decode cX12_inField 26 = .ok (.iconst 1, 1) := by decide +kernel
theorem dX12_inField_27 : decode cX12_inField 27 = .ok (.goto 4, 3) := by decide +kernel
theorem dX12_inField_30 : decode cX12_inField 30 = .ok (.iconst 0, 1) := by decide +kernel
theorem dX12_inField_31 : decode cX12_inField 31 = .ok (.iadd, 1) := by decide +kernel
theorem dX12_inField_32 : decode cX12_inField 32 = .ok (.istore_n 2, 1) := by decide +kernel
theorem dX12_inField_33 : decode cX12_inField 33 = .ok (.iinc 3 1, 3) := by decide +kernel
theorem dX12_inField_36 : decode cX12_inField 36 = .ok (.goto (-32), 3) := by decide +kernel
theorem dX12_inField_39 : decode cX12_inField 39 = .ok (.iload_n 2, 1) := by decide +kernel
theorem dX12_inField_40 : decode cX12_inField 40 = .ok (.ireturn, 1) := by decide +kernel
theorem dX12_memory_0 : decode cX12_memory 0 = .ok (.aload_n 0, 1) := by decide +kernel
theorem dX12_memory_1 : decode cX12_memory 1 = .ok (.iconst 0, 1) := by decide +kernel
theorem dX12_memory_2 : decode cX12_memory 2 = .ok (.putfield 3, 3) := by decide +kernel
theorem dX12_memory_5 : decode cX12_memory 5 = .ok (.aload_n 0, 1) := by decide +kernel
theorem dX12_memory_6 : decode cX12_memory 6 = .ok (.aload_n 0, 1) := by decide +kernel
theorem dX12_memory_7 : decode cX12_memory 7 = .ok (.iload_n 1, 1) := by decide +kernel
theorem dX12_memory_8 : decode cX12_memory 8 = .ok (.invokevirtual 304, 3) := by decide +kernel
theorem dX12_memory_11 : decode cX12_memory 11 = .ok (.iconst 1, 1) := by decide +kernel
theorem dX12_memory_12 : decode cX12_memory 12 = .ok (.invokevirtual 269, 3) := by decide +kernel
theorem dX12_memory_15 : decode cX12_memory 15 = .ok (.ifCond .ne 26, 3) := by decide +kernel
theorem dX12_memory_18 : decode cX12_memory 18 = .ok (.aload_n 0, 1) := by decide +kernel
theorem dX12_memory_19 : decode cX12_memory 19 = .ok (.iload_n 2, 1) := by decide +kernel
theorem dX12_memory_20 : decode cX12_memory 20 = .ok (.iconst 0, 1) := by decide +kernel
theorem dX12_memory_21 : decode cX12_memory 21 = .ok (.bipush 7, 2) := by decide +kernel
theorem dX12_memory_23 : decode cX12_memory 23 = .ok (.invokestatic 71, 3) := by decide +kernel
theorem dX12_memory_26 : decode cX12_memory 26 = .ok (.ifCond .ne 7, 3) := by decide +kernel
theorem dX12_memory_29 : decode cX12_memory 29 = .ok (.iconst 1, 1) := by decide +kernel
theorem dX12_memory_30 : decode cX12_memory 30 = .ok (.goto 4, 3) := by decide +kernel
theorem dX12_memory_33 : decode cX12_memory 33 = .ok (.iconst 0, 1) := by decide +kernel
theorem dX12_memory_34 : decode cX12_memory 34 = .ok (.iconst 2, 1) := by decide +kernel
theorem dX12_memory_35 : decode cX12_memory 35 = .ok (.invokevirtual 269, 3) := by decide +kernel
theorem dX12_memory_38 : decode cX12_memory 38 = .ok (.ifCond .eq 5, 3) := by decide +kernel
theorem dX12_memory_41 : decode cX12_memory 41 = .ok (.iconst 0, 1) := by decide +kernel
theorem dX12_memory_42 : decode cX12_memory 42 = .ok (.ireturn, 1) := by decide +kernel
theorem dX12_memory_43 : decode cX12_memory 43 = .ok (.iload_n 2, 1) := by decide +kernel
theorem dX12_memory_44 : decode cX12_memory 44 = .ok (.tableswitch 77 2 7 #[40, 46, 52, 58, 64, 70], 40) := by decide +kernel
theorem dX12_memory_84 : decode cX12_memory 84 = .ok (.aload_n 0, 1) := by decide +kernel
theorem dX12_memory_85 : decode cX12_memory 85 = .ok (.iload_n 1, 1) := by decide +kernel
theorem dX12_memory_86 : decode cX12_memory 86 = .ok (.invokevirtual 307, 3) := by decide +kernel
theorem dX12_memory_89 : decode cX12_memory 89 = .ok (.ireturn, 1) := by decide +kernel
theorem dX12_memory_90 : decode cX12_memory 90 = .ok (.aload_n 0, 1) := by decide +kernel
theorem dX12_memory_91 : decode cX12_memory 91 = .ok (.iload_n 1, 1) := by decide +kernel
theorem dX12_memory_92 : decode cX12_memory 92 = .ok (.invokevirtual 298, 3) := by decide +kernel
theorem dX12_memory_95 : decode cX12_memory 95 = .ok (.ireturn, 1) := by decide +kernel
theorem dX12_memory_96 : decode cX12_memory 96 = .ok (.aload_n 0, 1) := by decide +kernel
theorem dX12_memory_97 : decode cX12_memory 97 = .ok (.iload_n 1, 1) := by decide +kernel
theorem dX12_memory_98 : decode cX12_memory 98 = .ok (.invokevirtual 310, 3) := by decide +kernel
theorem dX12_memory_101 : decode cX12_memory 101 = .ok (.ireturn, 1) := by decide +kernel
theorem dX12_memory_102 : decode cX12_memory 102 = .ok (.aload_n 0, 1) := by decide +kernel
theorem dX12_memory_103 : decode cX12_memory 103 = .ok (.iload_n 1, 1) := by decide +kernel
theorem dX12_memory_104 : decode cX12_memory 104 = .ok (.invokevirtual 313, 3) := by decide +kernel
theorem dX12_memory_107 : decode cX12_memory 107 = .ok (.ireturn, 1) := by decide +kernel
theorem dX12_memory_108 : decode cX12_memory 108 = .ok (.aload_n 0, 1) := by decide +kernel
theorem dX12_memory_109 : decode cX12_memory 109 = .ok (.iload_n 1, 1) := by decide +kernel
theorem dX12_memory_110 : decode cX12_memory 110 = .ok (.invokevirtual 316, 3) := by decide +kernel
theorem dX12_memory_113 : decode cX12_memory 113 = .ok (.ireturn, 1) := by decide +kernel
theorem dX12_memory_114 : decode cX12_memory 114 = .ok (.aload_n 0, 1) := by decide +kernel
theorem dX12_memory_115 : decode cX12_memory 115 = .ok (.iload_n 1, 1) := by decide +kernel
theorem dX12_memory_116 : decode cX12_memory 116 = .ok (.iconst 2, 1) := by decide +kernel
theorem dX12_memory_117 : decode cX12_memory 117 = .ok (.invokevirtual 85, 3) := by decide +kernel
theorem dX12_memory_120 : decode cX12_memory 120 = .ok (.ireturn, 1) := by decide +kernel
theorem dX12_memory_121 : decode cX12_memory 121 = .ok (.aload_n 0, 1) := by decide +kernel
theorem dX12_memory_122 : decode cX12_memory 122 = .ok (.iload_n 1, 1) := by decide +kernel
theorem dX12_memory_123 : decode cX12_memory 123 = .ok (.iload_n 2, 1) := by decide +kernel
theorem dX12_memory_124 : decode cX12_memory 124 = .ok (.invokevirtual 85, 3) := by decide +kernel
theorem dX12_memory_127 : decode cX12_memory 127 = .ok (.ireturn, 1) := by decide +kernel
theorem dX12_worthOf_0 : decode cX12_worthOf 0 = .ok (.iconst 0, 1) := by decide +kernel
theorem dX12_worthOf_1 : decode cX12_worthOf 1 = .ok (.istore_n 2, 1) := by decide +kernel
theorem dX12_worthOf_2 : decode cX12_worthOf 2 = .ok (.iconst 0, 1) := by decide +kernel
theorem dX12_worthOf_3 : decode cX12_worthOf 3 = .ok (.istore_n 3, 1) := by decide +kernel
theorem dX12_worthOf_4 : decode cX12_worthOf 4 = .ok (.iload_n 3, 1) := by decide +kernel
theorem dX12_worthOf_5 : decode cX12_worthOf 5 = .ok (.aload_n 0, 1) := by decide +kernel
theorem dX12_worthOf_6 : decode cX12_worthOf 6 = .ok (.invokevirtual 67, 3) := by decide +kernel
theorem dX12_worthOf_9 : decode cX12_worthOf 9 = .ok (.if_icmp .ge 30, 3) := by decide +kernel
theorem dX12_worthOf_12 : decode cX12_worthOf 12 = .ok (.iload_n 2, 1) := by decide +kernel
theorem dX12_worthOf_13 : decode cX12_worthOf 13 = .ok (.iload_n 1, 1) := by decide +kernel
theorem dX12_worthOf_14 : decode cX12_worthOf 14 = .ok (.iload_n 3, 1) := by decide +kernel
theorem dX12_worthOf_15 : decode cX12_worthOf 15 = .ok (.invokestatic 81, 3) := by decide +kernel
theorem dX12_worthOf_18 : decode cX12_worthOf 18 = .ok (.ifCond .eq 12, 3) := by decide +kernel
theorem dX12_worthOf_21 : decode cX12_worthOf 21 = .ok (.aload_n 0, 1) := by decide +kernel
theorem dX12_worthOf_22 : decode cX12_worthOf 22 = .ok (.iload_n 3, 1) := by decide +kernel
theorem dX12_worthOf_23 : decode cX12_worthOf 23 = .ok (.iconst 0, 1) := by decide +kernel
theorem dX12_worthOf_24 : decode cX12_worthOf 24 = .ok (.invokevirtual 85, 3) := by decide +kernel
theorem dX12_worthOf_27 : decode cX12_worthOf 27 = .ok (.goto 4, 3) := by decide +kernel
theorem dX12_worthOf_30 : decode cX12_worthOf 30 = .ok (.iconst 0, 1) := by decide +kernel
theorem dX12_worthOf_31 : decode cX12_worthOf 31 = .ok (.iadd, 1) := by decide +kernel
theorem dX12_worthOf_32 : decode cX12_worthOf 32 = .ok (.istore_n 2, 1) := by decide +kernel
theorem dX12_worthOf_33 : decode cX12_worthOf 33 = .ok (.iinc 3 1, 3) := by decide +kernel
theorem dX12_worthOf_36 : decode cX12_worthOf 36 = .ok (.goto (-32), 3) := by decide +kernel
theorem dX12_worthOf_39 : decode cX12_worthOf 39 = .ok (.iload_n 2, 1) := by decide +kernel
theorem dX12_worthOf_40 : decode cX12_worthOf 40 = .ok (.ireturn, 1) := by decide +kernel
theorem dX12_obeyed_0 : decode cX12_obeyed 0 = .ok (.iconst 0, 1) := by decide +kernel
theorem dX12_obeyed_1 : decode cX12_obeyed 1 = .ok (.istore_n 2, 1) := by decide +kernel
theorem dX12_obeyed_2 : decode cX12_obeyed 2 = .ok (.iconst 0, 1) := by decide +kernel
theorem dX12_obeyed_3 : decode cX12_obeyed 3 = .ok (.istore_n 3, 1) := by decide +kernel
theorem dX12_obeyed_4 : decode cX12_obeyed 4 = .ok (.iload_n 3, 1) := by decide +kernel
theorem dX12_obeyed_5 : decode cX12_obeyed 5 = .ok (.aload_n 0, 1) := by decide +kernel
theorem dX12_obeyed_6 : decode cX12_obeyed 6 = .ok (.invokevirtual 159, 3) := by decide +kernel
theorem dX12_obeyed_9 : decode cX12_obeyed 9 = .ok (.if_icmp .ge 46, 3) := by decide +kernel
theorem dX12_obeyed_12 : decode cX12_obeyed 12 = .ok (.iload_n 2, 1) := by decide +kernel
theorem dX12_obeyed_13 : decode cX12_obeyed 13 = .ok (.aload_n 0, 1) := by decide +kernel
theorem dX12_obeyed_14 : decode cX12_obeyed 14 = .ok (.iload_n 3, 1) := by decide +kernel
theorem dX12_obeyed_15 : decode cX12_obeyed 15 = .ok (.iconst 1, 1) := by decide +kernel
theorem dX12_obeyed_16 : decode cX12_obeyed 16 = .ok (.invokevirtual 319, 3) := by decide +kernel
theorem dX12_obeyed_19 : decode cX12_obeyed 19 = .ok (.aload_n 0, 1) := by decide +kernel
theorem dX12_obeyed_20 : decode cX12_obeyed 20 = .ok (.aload_n 0, 1) := by decide +kernel
theorem dX12_obeyed_21 : decode cX12_obeyed 21 = .ok (.aload_n 0, 1) := by decide +kernel
theorem dX12_obeyed_22 : decode cX12_obeyed 22 = .ok (.iload_n 3, 1) := by decide +kernel
theorem dX12_obeyed_23 : decode cX12_obeyed 23 = .ok (.iconst 0, 1) := by decide +kernel
theorem dX12_obeyed_24 : decode cX12_obeyed 24 = .ok (.invokevirtual 319, 3) := by decide +kernel
theorem dX12_obeyed_27 : decode cX12_obeyed 27 = .ok (.iload_n 1, 1) := by decide +kernel
theorem dX12_obeyed_28 : decode cX12_obeyed 28 = .ok (.invokevirtual 78, 3) := by decide +kernel
theorem dX12_obeyed_31 : decode cX12_obeyed 31 = .ok (.invokevirtual 92, 3) := by decide +kernel
theorem dX12_obeyed_34 : decode cX12_obeyed 34 = .ok (.iconst (-1), 1) := by decide +kernel
theorem dX12_obeyed_35 : decode cX12_obeyed 35 = .ok (.ixor, 1) := by decide +kernel
theorem dX12_obeyed_36 : decode cX12_obeyed 36 = .ok (.iand, 1) := by decide +kernel
theorem dX12_obeyed_37 : decode cX12_obeyed 37 = .ok (.ifCond .ne 9, 3) := by decide +kernel
theorem dX12_obeyed_40 : decode cX12_obeyed 40 = .ok (.iconst 1, 1) := by decide +kernel
theorem dX12_obeyed_41 : decode cX12_obeyed 41 = .ok (.iload_n 3, 1) := by decide +kernel
theorem dX12_obeyed_42 : decode cX12_obeyed 42 = .ok (.ishl, 1) := by decide +kernel
theorem dX12_obeyed_43 : decode cX12_obeyed 43 = .ok (.goto 4, 3) := by decide +kernel
theorem dX12_obeyed_46 : decode cX12_obeyed 46 = .ok (.iconst 0, 1) := by decide +kernel
theorem dX12_obeyed_47 : decode cX12_obeyed 47 = .ok (.ior, 1) := by decide +kernel
theorem dX12_obeyed_48 : decode cX12_obeyed 48 = .ok (.istore_n 2, 1) := by decide +kernel
theorem dX12_obeyed_49 : decode cX12_obeyed 49 = .ok (.iinc 3 1, 3) := by decide +kernel
theorem dX12_obeyed_52 : decode cX12_obeyed 52 = .ok (.goto (-48), 3) := by decide +kernel
theorem dX12_obeyed_55 : decode cX12_obeyed 55 = .ok (.iload_n 2, 1) := by decide +kernel
theorem dX12_obeyed_56 : decode cX12_obeyed 56 = .ok (.ireturn, 1) := by decide +kernel
theorem dX12_ordersOf_0 : decode cX12_ordersOf 0 = .ok (.iconst 0, 1) := by decide +kernel
theorem dX12_ordersOf_1 : decode cX12_ordersOf 1 = .ok (.istore_n 2, 1) := by decide +kernel
theorem dX12_ordersOf_2 : decode cX12_ordersOf 2 = .ok (.iconst 0, 1) := by decide +kernel
theorem dX12_ordersOf_3 : decode cX12_ordersOf 3 = .ok (.istore_n 3, 1) := by decide +kernel
theorem dX12_ordersOf_4 : decode cX12_ordersOf 4 = .ok (.iload_n 3, 1) := by decide +kernel
theorem dX12_ordersOf_5 : decode cX12_ordersOf 5 = .ok (.aload_n 0, 1) := by decide +kernel
theorem dX12_ordersOf_6 : decode cX12_ordersOf 6 = .ok (.invokevirtual 159, 3) := by decide +kernel
theorem dX12_ordersOf_9 : decode cX12_ordersOf 9 = .ok (.if_icmp .ge 29, 3) := by decide +kernel
theorem dX12_ordersOf_12 : decode cX12_ordersOf 12 = .ok (.iload_n 2, 1) := by decide +kernel
theorem dX12_ordersOf_13 : decode cX12_ordersOf 13 = .ok (.aload_n 0, 1) := by decide +kernel
theorem dX12_ordersOf_14 : decode cX12_ordersOf 14 = .ok (.iload_n 3, 1) := by decide +kernel
theorem dX12_ordersOf_15 : decode cX12_ordersOf 15 = .ok (.iconst 0, 1) := by decide +kernel
theorem dX12_ordersOf_16 : decode cX12_ordersOf 16 = .ok (.invokevirtual 319, 3) := by decide +kernel
theorem dX12_ordersOf_19 : decode cX12_ordersOf 19 = .ok (.iload_n 1, 1) := by decide +kernel
theorem dX12_ordersOf_20 : decode cX12_ordersOf 20 = .ok (.if_icmp .ne 9, 3) := by decide +kernel
theorem dX12_ordersOf_23 : decode cX12_ordersOf 23 = .ok (.iconst 1, 1) := by decide +kernel
theorem dX12_ordersOf_24 : decode cX12_ordersOf 24 = .ok (.iload_n 3, 1) := by decide +kernel
theorem dX12_ordersOf_25 : decode cX12_ordersOf 25 = .ok (.ishl, 1) := by decide +kernel
theorem dX12_ordersOf_26 : decode cX12_ordersOf 26 = .ok (.goto 4, 3) := by decide +kernel
theorem dX12_ordersOf_29 : decode cX12_ordersOf 29 = .ok (.iconst 0, 1) := by decide +kernel
theorem dX12_ordersOf_30 : decode cX12_ordersOf 30 = .ok (.ior, 1) := by decide +kernel
theorem dX12_ordersOf_31 : decode cX12_ordersOf 31 = .ok (.istore_n 2, 1) := by decide +kernel
theorem dX12_ordersOf_32 : decode cX12_ordersOf 32 = .ok (.iinc 3 1, 3) := by decide +kernel
theorem dX12_ordersOf_35 : decode cX12_ordersOf 35 = .ok (.goto (-31), 3) := by decide +kernel
theorem dX12_ordersOf_38 : decode cX12_ordersOf 38 = .ok (.iload_n 2, 1) := by decide +kernel
theorem dX12_ordersOf_39 : decode cX12_ordersOf 39 = .ok (.ireturn, 1) := by decide +kernel
theorem dX12_soldier_0 : decode cX12_soldier 0 = .ok (.aload_n 0, 1) := by decide +kernel
theorem dX12_soldier_1 : decode cX12_soldier 1 = .ok (.iconst 0, 1) := by decide +kernel
theorem dX12_soldier_2 : decode cX12_soldier 2 = .ok (.putfield 3, 3) := by decide +kernel
theorem dX12_soldier_5 : decode cX12_soldier 5 = .ok (.aload_n 0, 1) := by decide +kernel
theorem dX12_soldier_6 : decode cX12_soldier 6 = .ok (.aload_n 0, 1) := by decide +kernel
theorem dX12_soldier_7 : decode cX12_soldier 7 = .ok (.iload_n 1, 1) := by decide +kernel
theorem dX12_soldier_8 : decode cX12_soldier 8 = .ok (.invokevirtual 322, 3) := by decide +kernel
theorem dX12_soldier_11 : decode cX12_soldier 11 = .ok (.iconst 1, 1) := by decide +kernel
theorem dX12_soldier_12 : decode cX12_soldier 12 = .ok (.invokevirtual 269, 3) := by decide +kernel
theorem dX12_soldier_15 : decode cX12_soldier 15 = .ok (.ifCond .ne 26, 3) := by decide +kernel
theorem dX12_soldier_18 : decode cX12_soldier 18 = .ok (.aload_n 0, 1) := by decide +kernel
theorem dX12_soldier_19 : decode cX12_soldier 19 = .ok (.iload_n 2, 1) := by decide +kernel
theorem dX12_soldier_20 : decode cX12_soldier 20 = .ok (.iconst 0, 1) := by decide +kernel
theorem dX12_soldier_21 : decode cX12_soldier 21 = .ok (.bipush 8, 2) := by decide +kernel
theorem dX12_soldier_23 : decode cX12_soldier 23 = .ok (.invokestatic 71, 3) := by decide +kernel
theorem dX12_soldier_26 : decode cX12_soldier 26 = .ok (.ifCond .ne 7, 3) := by decide +kernel
theorem dX12_soldier_29 : decode cX12_soldier 29 = .ok (.iconst 1, 1) := by decide +kernel
theorem dX12_soldier_30 : decode cX12_soldier 30 = .ok (.goto 4, 3) := by decide +kernel
theorem dX12_soldier_33 : decode cX12_soldier 33 = .ok (.iconst 0, 1) := by decide +kernel
theorem dX12_soldier_34 : decode cX12_soldier 34 = .ok (.iconst 2, 1) := by decide +kernel
theorem dX12_soldier_35 : decode cX12_soldier 35 = .ok (.invokevirtual 269, 3) := by decide +kernel
theorem dX12_soldier_38 : decode cX12_soldier 38 = .ok (.ifCond .eq 5, 3) := by decide +kernel
theorem dX12_soldier_41 : decode cX12_soldier 41 = .ok (.iconst 0, 1) := by decide +kernel
theorem dX12_soldier_42 : decode cX12_soldier 42 = .ok (.ireturn, 1) := by decide +kernel
theorem dX12_soldier_43 : decode cX12_soldier 43 = .ok (.iload_n 2, 1) := by decide +kernel
theorem dX12_soldier_44 : decode cX12_soldier 44 = .ok (.tableswitch 106 0 7 #[48, 55, 61, 69, 75, 81, 89, 96], 48) := by decide +kernel
theorem dX12_soldier_92 : decode cX12_soldier 92 = .ok (.aload_n 0, 1) := by decide +kernel
theorem dX12_soldier_93 : decode cX12_soldier 93 = .ok (.iload_n 1, 1) := by decide +kernel
theorem dX12_soldier_94 : decode cX12_soldier 94 = .ok (.iconst 0, 1) := by decide +kernel
theorem dX12_soldier_95 : decode cX12_soldier 95 = .ok (.invokevirtual 63, 3) := by decide +kernel
theorem dX12_soldier_98 : decode cX12_soldier 98 = .ok (.ireturn, 1) := by decide +kernel
theorem dX12_soldier_99 : decode cX12_soldier 99 = .ok (.aload_n 0, 1) := by decide +kernel
theorem dX12_soldier_100 : decode cX12_soldier 100 = .ok (.iload_n 1, 1) := by decide +kernel
theorem dX12_soldier_101 : decode cX12_soldier 101 = .ok (.invokevirtual 272, 3) := by decide +kernel
theorem dX12_soldier_104 : decode cX12_soldier 104 = .ok (.ireturn, 1) := by decide +kernel
theorem dX12_soldier_105 : decode cX12_soldier 105 = .ok (.aload_n 0, 1) := by decide +kernel
theorem dX12_soldier_106 : decode cX12_soldier 106 = .ok (.iload_n 1, 1) := by decide +kernel
theorem dX12_soldier_107 : decode cX12_soldier 107 = .ok (.bipush 9, 2) := by decide +kernel
theorem dX12_soldier_109 : decode cX12_soldier 109 = .ok (.invokevirtual 63, 3) := by decide +kernel
theorem dX12_soldier_112 : decode cX12_soldier 112 = .ok (.ireturn, 1) := by decide +kernel
theorem dX12_soldier_113 : decode cX12_soldier 113 = .ok (.aload_n 0, 1) := by decide +kernel
theorem dX12_soldier_114 : decode cX12_soldier 114 = .ok (.iload_n 1, 1) := by decide +kernel
theorem dX12_soldier_115 : decode cX12_soldier 115 = .ok (.invokevirtual 88, 3) := by decide +kernel
theorem dX12_soldier_118 : decode cX12_soldier 118 = .ok (.ireturn, 1) := by decide +kernel
theorem dX12_soldier_119 : decode cX12_soldier 119 = .ok (.aload_n 0, 1) := by decide +kernel
theorem dX12_soldier_120 : decode cX12_soldier 120 = .ok (.iload_n 1, 1) := by decide +kernel
theorem dX12_soldier_121 : decode cX12_soldier 121 = .ok (.invokevirtual 275, 3) := by decide +kernel
theorem dX12_soldier_124 : decode cX12_soldier 124 = .ok (.ireturn, 1) := by decide +kernel
theorem dX12_soldier_125 : decode cX12_soldier 125 = .ok (.aload_n 0, 1) := by decide +kernel
theorem dX12_soldier_126 : decode cX12_soldier 126 = .ok (.iload_n 1, 1) := by decide +kernel
theorem dX12_soldier_127 : decode cX12_soldier 127 = .ok (.bipush 22, 2) := by decide +kernel
theorem dX12_soldier_129 : decode cX12_soldier 129 = .ok (.invokevirtual 63, 3) := by decide +kernel
theorem dX12_soldier_132 : decode cX12_soldier 132 = .ok (.ireturn, 1) := by decide +kernel
theorem dX12_soldier_133 : decode cX12_soldier 133 = .ok (.aload_n 0, 1) := by decide +kernel
theorem dX12_soldier_134 : decode cX12_soldier 134 = .ok (.iload_n 1, 1) := by decide +kernel
theorem dX12_soldier_135 : decode cX12_soldier 135 = .ok (.iconst 2, 1) := by decide +kernel
theorem dX12_soldier_136 : decode cX12_soldier 136 = .ok (.invokevirtual 63, 3) := by decide +kernel
theorem dX12_soldier_139 : decode cX12_soldier 139 = .ok (.ireturn, 1) := by decide +kernel
theorem dX12_soldier_140 : decode cX12_soldier 140 = .ok (.aload_n 0, 1) := by decide +kernel
theorem dX12_soldier_141 : decode cX12_soldier 141 = .ok (.aload_n 0, 1) := by decide +kernel
theorem dX12_soldier_142 : decode cX12_soldier 142 = .ok (.iload_n 1, 1) := by decide +kernel
theorem dX12_soldier_143 : decode cX12_soldier 143 = .ok (.invokevirtual 275, 3) := by decide +kernel
theorem dX12_soldier_146 : decode cX12_soldier 146 = .ok (.invokevirtual 325, 3) := by decide +kernel
theorem dX12_soldier_149 : decode cX12_soldier 149 = .ok (.ireturn, 1) := by decide +kernel
theorem dX12_soldier_150 : decode cX12_soldier 150 = .ok (.aload_n 0, 1) := by decide +kernel
theorem dX12_soldier_151 : decode cX12_soldier 151 = .ok (.bipush 12, 2) := by decide +kernel
theorem dX12_soldier_153 : decode cX12_soldier 153 = .ok (.invokevirtual 328, 3) := by decide +kernel
theorem dX12_soldier_156 : decode cX12_soldier 156 = .ok (.aload_n 0, 1) := by decide +kernel
theorem dX12_soldier_157 : decode cX12_soldier 157 = .ok (.iload_n 1, 1) := by decide +kernel
theorem dX12_soldier_158 : decode cX12_soldier 158 = .ok (.invokevirtual 331, 3) := by decide +kernel
theorem dX12_soldier_161 : decode cX12_soldier 161 = .ok (.iand, 1) := by decide +kernel
theorem dX12_soldier_162 : decode cX12_soldier 162 = .ok (.ireturn, 1) := by decide +kernel
theorem dX12_known_0 : decode cX12_known 0 = .ok (.aload_n 0, 1) := by decide +kernel
theorem dX12_known_1 : decode cX12_known 1 = .ok (.iconst 0, 1) := by decide +kernel
theorem dX12_known_2 : decode cX12_known 2 = .ok (.putfield 3, 3) := by decide +kernel
theorem dX12_known_5 : decode cX12_known 5 = .ok (.aload_n 0, 1) := by decide +kernel
theorem dX12_known_6 : decode cX12_known 6 = .ok (.aload_n 0, 1) := by decide +kernel
theorem dX12_known_7 : decode cX12_known 7 = .ok (.iload_n 1, 1) := by decide +kernel
theorem dX12_known_8 : decode cX12_known 8 = .ok (.invokevirtual 322, 3) := by decide +kernel
theorem dX12_known_11 : decode cX12_known 11 = .ok (.iconst 1, 1) := by decide +kernel
theorem dX12_known_12 : decode cX12_known 12 = .ok (.invokevirtual 269, 3) := by decide +kernel
theorem dX12_known_15 : decode cX12_known 15 = .ok (.ifCond .eq 5, 3) := by decide +kernel
theorem dX12_known_18 : decode cX12_known 18 = .ok (.iconst 0, 1) := by decide +kernel
theorem dX12_known_19 : decode cX12_known 19 = .ok (.ireturn, 1) := by decide +kernel
theorem dX12_known_20 : decode cX12_known 20 = .ok (.iload_n 2, 1) := by decide +kernel
theorem dX12_known_21 : decode cX12_known 21 = .ok (.iconst 0, 1) := by decide +kernel
theorem dX12_known_22 : decode cX12_known 22 = .ok (.aload_n 0, 1) := by decide +kernel
theorem dX12_known_23 : decode cX12_known 23 = .ok (.iload_n 1, 1) := by decide +kernel
theorem dX12_known_24 : decode cX12_known 24 = .ok (.bipush 9, 2) := by decide +kernel
theorem dX12_known_26 : decode cX12_known 26 = .ok (.invokevirtual 63, 3) := by decide +kernel
theorem dX12_known_29 : decode cX12_known 29 = .ok (.iconst 1, 1) := by decide +kernel
theorem dX12_known_30 : decode cX12_known 30 = .ok (.isub, 1) := by decide +kernel
theorem dX12_known_31 : decode cX12_known 31 = .ok (.invokestatic 71, 3) := by decide +kernel
theorem dX12_known_34 : decode cX12_known 34 = .ok (.ifCond .eq 15, 3) := by decide +kernel
theorem dX12_known_37 : decode cX12_known 37 = .ok (.aload_n 0, 1) := by decide +kernel
theorem dX12_known_38 : decode cX12_known 38 = .ok (.iload_n 1, 1) := by decide +kernel
theorem dX12_known_39 : decode cX12_known 39 = .ok (.bipush 10, 2) := by decide +kernel
theorem dX12_known_41 : decode cX12_known 41 = .ok (.iload_n 2, 1) := by decide +kernel
theorem dX12_known_42 : decode cX12_known 42 = .ok (.iadd, 1) := by decide +kernel
theorem dX12_known_43 : decode cX12_known 43 = .ok (.invokevirtual 63, 3) := by decide +kernel
theorem dX12_known_46 : decode cX12_known 46 = .ok (.goto 4, 3) := by decide +kernel
theorem dX12_known_49 : decode cX12_known 49 = .ok (.iconst (-1), 1) := by decide +kernel
theorem dX12_known_50 : decode cX12_known 50 = .ok (.ireturn, 1) := by decide +kernel
theorem dX12_placeIn_0 : decode cX12_placeIn 0 = .ok (.aload_n 0, 1) := by decide +kernel
theorem dX12_placeIn_1 : decode cX12_placeIn 1 = .ok (.iload_n 1, 1) := by decide +kernel
theorem dX12_placeIn_2 : decode cX12_placeIn 2 = .ok (.iconst 2, 1) := by decide +kernel
theorem dX12_placeIn_3 : decode cX12_placeIn 3 = .ok (.invokevirtual 63, 3) := by decide +kernel
theorem dX12_placeIn_6 : decode cX12_placeIn 6 = .ok (.istore_n 3, 1) := by decide +kernel
theorem dX12_placeIn_7 : decode cX12_placeIn 7 = .ok (.aload_n 0, 1) := by decide +kernel
theorem dX12_placeIn_8 : decode cX12_placeIn 8 = .ok (.iload_n 1, 1) := by decide +kernel
theorem dX12_placeIn_9 : decode cX12_placeIn 9 = .ok (.iconst 3, 1) := by decide +kernel
theorem dX12_placeIn_10 : decode cX12_placeIn 10 = .ok (.aload_n 0, 1) := by decide +kernel
theorem dX12_placeIn_11 : decode cX12_placeIn 11 = .ok (.iload_n 1, 1) := by decide +kernel
theorem dX12_placeIn_12 : decode cX12_placeIn 12 = .ok (.iconst 1, 1) := by decide +kernel
theorem dX12_placeIn_13 : decode cX12_placeIn 13 = .ok (.invokevirtual 63, 3) := by decide +kernel
theorem dX12_placeIn_16 : decode cX12_placeIn 16 = .ok (.iload_n 2, 1) := by decide +kernel
theorem dX12_placeIn_17 : decode cX12_placeIn 17 = .ok (.iadd, 1) := by decide +kernel
theorem dX12_placeIn_18 : decode cX12_placeIn 18 = .ok (.iload_n 3, 1) := by decide +kernel
theorem dX12_placeIn_19 : decode cX12_placeIn 19 = .ok (.irem, 1) := by decide +kernel
theorem dX12_placeIn_20 : decode cX12_placeIn 20 = .ok (.iload_n 3, 1) := by decide +kernel
theorem dX12_placeIn_21 : decode cX12_placeIn 21 = .ok (.iadd, 1) := by decide +kernel
theorem dX12_placeIn_22 : decode cX12_placeIn 22 = .ok (.iload_n 3, 1) := by decide +kernel
theorem dX12_placeIn_23 : decode cX12_placeIn 23 = .ok (.irem, 1) := by decide +kernel
theorem dX12_placeIn_24 : decode cX12_placeIn 24 = .ok (.iadd, 1) := by decide +kernel
theorem dX12_placeIn_25 : decode cX12_placeIn 25 = .ok (.invokevirtual 63, 3) := by decide +kernel
theorem dX12_placeIn_28 : decode cX12_placeIn 28 = .ok (.ireturn, 1) := by decide +kernel
theorem dX12_place_0 : decode cX12_place 0 = .ok (.aload_n 0, 1) := by decide +kernel
theorem dX12_place_1 : decode cX12_place 1 = .ok (.iconst 0, 1) := by decide +kernel
theorem dX12_place_2 : decode cX12_place 2 = .ok (.putfield 3, 3) := by decide +kernel
theorem dX12_place_5 : decode cX12_place 5 = .ok (.aload_n 0, 1) := by decide +kernel
theorem dX12_place_6 : decode cX12_place 6 = .ok (.aload_n 0, 1) := by decide +kernel
theorem dX12_place_7 : decode cX12_place 7 = .ok (.iload_n 1, 1) := by decide +kernel
theorem dX12_place_8 : decode cX12_place 8 = .ok (.invokevirtual 322, 3) := by decide +kernel
theorem dX12_place_11 : decode cX12_place 11 = .ok (.iconst 1, 1) := by decide +kernel
theorem dX12_place_12 : decode cX12_place 12 = .ok (.invokevirtual 269, 3) := by decide +kernel
theorem dX12_place_15 : decode cX12_place 15 = .ok (.ifCond .ne 27, 3) := by decide +kernel
theorem dX12_place_18 : decode cX12_place 18 = .ok (.aload_n 0, 1) := by decide +kernel
theorem dX12_place_19 : decode cX12_place 19 = .ok (.iload_n 2, 1) := by decide +kernel
theorem dX12_place_20 : decode cX12_place 20 = .ok (.iconst 0, 1) := by decide +kernel
theorem dX12_place_21 : decode cX12_place 21 = .ok (.sipush 1000, 3) := by decide +kernel
theorem dX12_place_24 : decode cX12_place 24 = .ok (.invokestatic 71, 3) := by decide +kernel
theorem dX12_place_27 : decode cX12_place 27 = .ok (.ifCond .ne 7, 3) := by decide +kernel
theorem dX12_place_30 : decode cX12_place 30 = .ok (.iconst 1, 1) := by decide +kernel
theorem dX12_place_31 : decode cX12_place 31 = .ok (.goto 4, 3) := by decide +kernel
theorem dX12_place_34 : decode cX12_place 34 = .ok (.iconst 0, 1) := by decide +kernel
theorem dX12_place_35 : decode cX12_place 35 = .ok (.iconst 2, 1) := by decide +kernel
theorem dX12_place_36 : decode cX12_place 36 = .ok (.invokevirtual 269, 3) := by decide +kernel
theorem dX12_place_39 : decode cX12_place 39 = .ok (.ifCond .eq 5, 3) := by decide +kernel
theorem dX12_place_42 : decode cX12_place 42 = .ok (.iconst 0, 1) := by decide +kernel
theorem dX12_place_43 : decode cX12_place 43 = .ok (.ireturn, 1) := by decide +kernel
theorem dX12_place_44 : decode cX12_place 44 = .ok (.aload_n 0, 1) := by decide +kernel
theorem dX12_place_45 : decode cX12_place 45 = .ok (.iload_n 1, 1) := by decide +kernel
theorem dX12_place_46 : decode cX12_place 46 = .ok (.iload_n 2, 1) := by decide +kernel
theorem dX12_place_47 : decode cX12_place 47 = .ok (.invokevirtual 334, 3) := by decide +kernel
theorem dX12_place_50 : decode cX12_place 50 = .ok (.ireturn, 1) := by decide +kernel
theorem dX12_fallsOf_0 : decode cX12_fallsOf 0 = .ok (.aload_n 0, 1) := by decide +kernel
theorem dX12_fallsOf_1 : decode cX12_fallsOf 1 = .ok (.iload_n 1, 1) := by decide +kernel
theorem dX12_fallsOf_2 : decode cX12_fallsOf 2 = .ok (.invokevirtual 92, 3) := by decide +kernel
theorem dX12_fallsOf_5 : decode cX12_fallsOf 5 = .ok (.invokestatic 278, 3) := by decide +kernel
theorem dX12_fallsOf_8 : decode cX12_fallsOf 8 = .ok (.aload_n 0, 1) := by decide +kernel
theorem dX12_fallsOf_9 : decode cX12_fallsOf 9 = .ok (.iload_n 1, 1) := by decide +kernel
theorem dX12_fallsOf_10 : decode cX12_fallsOf 10 = .ok (.iconst 1, 1) := by decide +kernel
theorem dX12_fallsOf_11 : decode cX12_fallsOf 11 = .ok (.iload_n 2, 1) := by decide +kernel
theorem dX12_fallsOf_12 : decode cX12_fallsOf 12 = .ok (.ishl, 1) := by decide +kernel
theorem dX12_fallsOf_13 : decode cX12_fallsOf 13 = .ok (.iconst (-1), 1) := by decide +kernel
theorem dX12_fallsOf_14 : decode cX12_fallsOf 14 = .ok (.ixor, 1) := by decide +kernel
theorem dX12_fallsOf_15 : decode cX12_fallsOf 15 = .ok (.iand, 1) := by decide +kernel
theorem dX12_fallsOf_16 : decode cX12_fallsOf 16 = .ok (.invokevirtual 92, 3) := by decide +kernel
theorem dX12_fallsOf_19 : decode cX12_fallsOf 19 = .ok (.invokestatic 278, 3) := by decide +kernel
theorem dX12_fallsOf_22 : decode cX12_fallsOf 22 = .ok (.isub, 1) := by decide +kernel
theorem dX12_fallsOf_23 : decode cX12_fallsOf 23 = .ok (.ireturn, 1) := by decide +kernel
theorem dX12_falls_0 : decode cX12_falls 0 = .ok (.aload_n 0, 1) := by decide +kernel
theorem dX12_falls_1 : decode cX12_falls 1 = .ok (.iconst 0, 1) := by decide +kernel
theorem dX12_falls_2 : decode cX12_falls 2 = .ok (.putfield 3, 3) := by decide +kernel
theorem dX12_falls_5 : decode cX12_falls 5 = .ok (.aload_n 0, 1) := by decide +kernel
theorem dX12_falls_6 : decode cX12_falls 6 = .ok (.aload_n 0, 1) := by decide +kernel
theorem dX12_falls_7 : decode cX12_falls 7 = .ok (.iload_n 1, 1) := by decide +kernel
theorem dX12_falls_8 : decode cX12_falls 8 = .ok (.invokevirtual 322, 3) := by decide +kernel
theorem dX12_falls_11 : decode cX12_falls 11 = .ok (.ifCond .ne 11, 3) := by decide +kernel
theorem dX12_falls_14 : decode cX12_falls 14 = .ok (.aload_n 0, 1) := by decide +kernel
theorem dX12_falls_15 : decode cX12_falls 15 = .ok (.iload_n 2, 1) := by decide +kernel
theorem dX12_falls_16 : decode cX12_falls 16 = .ok (.invokevirtual 304, 3) := by decide +kernel
theorem dX12_falls_19 : decode cX12_falls 19 = .ok (.ifCond .eq 7, 3) := by decide +kernel
theorem dX12_falls_22 : decode cX12_falls 22 = .ok (.iconst 1, 1) := by decide +kernel
theorem dX12_falls_23 : decode cX12_falls 23 = .ok (.goto 4, 3) := by decide +kernel
theorem dX12_falls_26 : decode cX12_falls 26 = .ok (.iconst 0, 1) := by decide +kernel
theorem dX12_falls_27 : decode cX12_falls 27 = .ok (.iconst 1, 1) := by decide +kernel
theorem dX12_falls_28 : decode cX12_falls 28 = .ok (.invokevirtual 269, 3) := by decide +kernel
theorem dX12_falls_31 : decode cX12_falls 31 = .ok (.ifCond .eq 7, 3) := by decide +kernel
theorem dX12_falls_34 : decode cX12_falls 34 = .ok (.iconst 0, 1) := by decide +kernel
theorem dX12_falls_35 : decode cX12_falls 35 = .ok (.goto 13, 3) := by decide +kernel
theorem dX12_falls_38 : decode cX12_falls 38 = .ok (.aload_n 0, 1) := by decide +kernel
theorem dX12_falls_39 : decode cX12_falls 39 = .ok (.aload_n 0, 1) := by decide +kernel
theorem dX12_falls_40 : decode cX12_falls 40 = .ok (.iload_n 1, 1) := by decide +kernel
theorem dX12_falls_41 : decode cX12_falls 41 = .ok (.invokevirtual 88, 3) := by decide +kernel
theorem dX12_falls_44 : decode cX12_falls 44 = .ok (.iload_n 2, 1) := by decide +kernel
theorem dX12_falls_45 : decode cX12_falls 45 = .ok (.invokevirtual 337, 3) := by decide +kernel
theorem dX12_falls_48 : decode cX12_falls 48 = .ok (.ireturn, 1) := by decide +kernel
theorem dX12_order_0 : decode cX12_order 0 = .ok (.aload_n 0, 1) := by decide +kernel
theorem dX12_order_1 : decode cX12_order 1 = .ok (.iconst 0, 1) := by decide +kernel
theorem dX12_order_2 : decode cX12_order 2 = .ok (.putfield 3, 3) := by decide +kernel
theorem dX12_order_5 : decode cX12_order 5 = .ok (.aload_n 0, 1) := by decide +kernel
theorem dX12_order_6 : decode cX12_order 6 = .ok (.iload_n 1, 1) := by decide +kernel
theorem dX12_order_7 : decode cX12_order 7 = .ok (.iconst 0, 1) := by decide +kernel
theorem dX12_order_8 : decode cX12_order 8 = .ok (.aload_n 0, 1) := by decide +kernel
theorem dX12_order_9 : decode cX12_order 9 = .ok (.invokevirtual 159, 3) := by decide +kernel
theorem dX12_order_12 : decode cX12_order 12 = .ok (.iconst 1, 1) := by decide +kernel
theorem dX12_order_13 : decode cX12_order 13 = .ok (.isub, 1) := by decide +kernel
theorem dX12_order_14 : decode cX12_order 14 = .ok (.invokestatic 71, 3) := by decide +kernel
theorem dX12_order_17 : decode cX12_order 17 = .ok (.ifCond .ne 7, 3) := by decide +kernel
theorem dX12_order_20 : decode cX12_order 20 = .ok (.iconst 1, 1) := by decide +kernel
theorem dX12_order_21 : decode cX12_order 21 = .ok (.goto 4, 3) := by decide +kernel
theorem dX12_order_24 : decode cX12_order 24 = .ok (.iconst 0, 1) := by decide +kernel
theorem dX12_order_25 : decode cX12_order 25 = .ok (.iconst 1, 1) := by decide +kernel
theorem dX12_order_26 : decode cX12_order 26 = .ok (.invokevirtual 269, 3) := by decide +kernel
theorem dX12_order_29 : decode cX12_order 29 = .ok (.ifCond .ne 25, 3) := by decide +kernel
theorem dX12_order_32 : decode cX12_order 32 = .ok (.aload_n 0, 1) := by decide +kernel
theorem dX12_order_33 : decode cX12_order 33 = .ok (.iload_n 2, 1) := by decide +kernel
theorem dX12_order_34 : decode cX12_order 34 = .ok (.iconst 0, 1) := by decide +kernel
theorem dX12_order_35 : decode cX12_order 35 = .ok (.iconst 3, 1) := by decide +kernel
theorem dX12_order_36 : decode cX12_order 36 = .ok (.invokestatic 71, 3) := by decide +kernel
theorem dX12_order_39 : decode cX12_order 39 = .ok (.ifCond .ne 7, 3) := by decide +kernel
theorem dX12_order_42 : decode cX12_order 42 = .ok (.iconst 1, 1) := by decide +kernel
theorem dX12_order_43 : decode cX12_order 43 = .ok (.goto 4, 3) := by decide +kernel
theorem dX12_order_46 : decode cX12_order 46 = .ok (.iconst 0, 1) := by decide +kernel
theorem dX12_order_47 : decode cX12_order 47 = .ok (.iconst 2, 1) := by decide +kernel
theorem dX12_order_48 : decode cX12_order 48 = .ok (.invokevirtual 269, 3) := by decide +kernel
theorem dX12_order_51 : decode cX12_order 51 = .ok (.ifCond .eq 5, 3) := by decide +kernel
theorem dX12_order_54 : decode cX12_order 54 = .ok (.iconst 0, 1) := by decide +kernel
theorem dX12_order_55 : decode cX12_order 55 = .ok (.ireturn, 1) := by decide +kernel
theorem dX12_order_56 : decode cX12_order 56 = .ok (.iload_n 2, 1) := by decide +kernel
theorem dX12_order_57 : decode cX12_order 57 = .ok (.iconst 2, 1) := by decide +kernel
theorem dX12_order_58 : decode cX12_order 58 = .ok (.if_icmp .ge 12, 3) := by decide +kernel
theorem dX12_order_61 : decode cX12_order 61 = .ok (.aload_n 0, 1) := by decide +kernel
theorem dX12_order_62 : decode cX12_order 62 = .ok (.iload_n 1, 1) := by decide +kernel
theorem dX12_order_63 : decode cX12_order 63 = .ok (.iload_n 2, 1) := by decide +kernel
theorem dX12_order_64 : decode cX12_order 64 = .ok (.invokevirtual 319, 3) := by decide +kernel
theorem dX12_order_67 : decode cX12_order 67 = .ok (.goto 34, 3) := by decide +kernel
theorem dX12_order_70 : decode cX12_order 70 = .ok (.iload_n 2, 1) := by decide +kernel
theorem dX12_order_71 : decode cX12_order 71 = .ok (.iconst 2, 1) := by decide +kernel
theorem dX12_order_72 : decode cX12_order 72 = .ok (.if_icmp .ne 16, 3) := by decide +kernel
theorem dX12_order_75 : decode cX12_order 75 = .ok (.aload_n 0, 1) := by decide +kernel
theorem dX12_order_76 : decode cX12_order 76 = .ok (.bipush 12, 2) := by decide +kernel
theorem dX12_order_78 : decode cX12_order 78 = .ok (.invokevirtual 328, 3) := by decide +kernel
theorem dX12_order_81 : decode cX12_order 81 = .ok (.iload_n 1, 1) := by decide +kernel
theorem dX12_order_82 : decode cX12_order 82 = .ok (.ishr, 1) := by decide +kernel
theorem dX12_order_83 : decode cX12_order 83 = .ok (.iconst 1, 1) := by decide +kernel
theorem dX12_order_84 : decode cX12_order 84 = .ok (.iand, 1) := by decide +kernel
theorem dX12_order_85 : decode cX12_order 85 = .ok (.goto 16, 3) := by decide +kernel
theorem dX12_order_88 : decode cX12_order 88 = .ok (.aload_n 0, 1) := by decide +kernel
theorem dX12_order_89 : decode cX12_order 89 = .ok (.aload_n 0, 1) := by decide +kernel
theorem dX12_order_90 : decode cX12_order 90 = .ok (.iload_n 1, 1) := by decide +kernel
theorem dX12_order_91 : decode cX12_order 91 = .ok (.iconst 1, 1) := by decide +kernel
theorem dX12_order_92 : decode cX12_order 92 = .ok (.invokevirtual 319, 3) := by decide +kernel
theorem dX12_order_95 : decode cX12_order 95 = .ok (.invokevirtual 340, 3) := by decide +kernel
theorem dX12_order_98 : decode cX12_order 98 = .ok (.invokestatic 278, 3) := by decide +kernel
theorem dX12_order_101 : decode cX12_order 101 = .ok (.ireturn, 1) := by decide +kernel
theorem dX12_target_0 : decode cX12_target 0 = .ok (.iconst (-1), 1) := by decide +kernel
theorem dX12_target_1 : decode cX12_target 1 = .ok (.istore_n 2, 1) := by decide +kernel
theorem dX12_target_2 : decode cX12_target 2 = .ok (.aload_n 0, 1) := by decide +kernel
theorem dX12_target_3 : decode cX12_target 3 = .ok (.iload_n 1, 1) := by decide +kernel
theorem dX12_target_4 : decode cX12_target 4 = .ok (.invokevirtual 275, 3) := by decide +kernel
theorem dX12_target_7 : decode cX12_target 7 = .ok (.ifCond .ne 5, 3) := by decide +kernel
theorem dX12_target_10 : decode cX12_target 10 = .ok (.iconst (-1), 1) := by decide +kernel
theorem dX12_target_11 : decode cX12_target 11 = .ok (.ireturn, 1) := by decide +kernel
theorem dX12_target_12 : decode cX12_target 12 = .ok (.aload_n 0, 1) := by decide +kernel
theorem dX12_target_13 : decode cX12_target 13 = .ok (.iconst 1, 1) := by decide +kernel
theorem dX12_target_14 : decode cX12_target 14 = .ok (.aload_n 0, 1) := by decide +kernel
theorem dX12_target_15 : decode cX12_target 15 = .ok (.iload_n 1, 1) := by decide +kernel
theorem dX12_target_16 : decode cX12_target 16 = .ok (.iconst 0, 1) := by decide +kernel
theorem dX12_target_17 : decode cX12_target 17 = .ok (.invokevirtual 63, 3) := by decide +kernel
theorem dX12_target_20 : decode cX12_target 20 = .ok (.isub, 1) := by decide +kernel
theorem dX12_target_21 : decode cX12_target 21 = .ok (.aload_n 0, 1) := by decide +kernel
theorem dX12_target_22 : decode cX12_target 22 = .ok (.iload_n 1, 1) := by decide +kernel
theorem dX12_target_23 : decode cX12_target 23 = .ok (.invokevirtual 272, 3) := by decide +kernel
theorem dX12_target_26 : decode cX12_target 26 = .ok (.invokevirtual 283, 3) := by decide +kernel
theorem dX12_target_29 : decode cX12_target 29 = .ok (.istore_n 3, 1) := by decide +kernel
theorem dX12_target_30 : decode cX12_target 30 = .ok (.iconst 0, 1) := by decide +kernel
theorem dX12_target_31 : decode cX12_target 31 = .ok (.istore 4, 2) := by decide +kernel
theorem dX12_target_33 : decode cX12_target 33 = .ok (.iload 4, 2) := by decide +kernel
theorem dX12_target_35 : decode cX12_target 35 = .ok (.aload_n 0, 1) := by decide +kernel
theorem dX12_target_36 : decode cX12_target 36 = .ok (.invokevirtual 75, 3) := by decide +kernel
theorem dX12_target_39 : decode cX12_target 39 = .ok (.if_icmp .ge 54, 3) := by decide +kernel
theorem dX12_target_42 : decode cX12_target 42 = .ok (.iload_n 3, 1) := by decide +kernel
theorem dX12_target_43 : decode cX12_target 43 = .ok (.iload 4, 2) := by decide +kernel
theorem dX12_target_45 : decode cX12_target 45 = .ok (.invokestatic 81, 3) := by decide +kernel
theorem dX12_target_48 : decode cX12_target 48 = .ok (.ifCond .eq 39, 3) := by decide +kernel
theorem dX12_target_51 : decode cX12_target 51 = .ok (.aload_n 0, 1) := by decide +kernel
theorem dX12_target_52 : decode cX12_target 52 = .ok (.iload 4, 2) := by decide +kernel
theorem dX12_target_54 : decode cX12_target 54 = .ok (.bipush 9, 2) := by decide +kernel
theorem dX12_target_56 : decode cX12_target 56 = .ok (.invokevirtual 63, 3) := by decide +kernel
theorem dX12_target_59 : decode cX12_target 59 = .ok (.ifCond .le 28, 3) := by decide +kernel
theorem dX12_target_62 : decode cX12_target 62 = .ok (.iload_n 2, 1) := by decide +kernel
theorem dX12_target_63 : decode cX12_target 63 = .ok (.ifCond .lt 21, 3) := by decide +kernel
theorem dX12_target_66 : decode cX12_target 66 = .ok (.aload_n 0, 1) := by decide +kernel
theorem dX12_target_67 : decode cX12_target 67 = .ok (.iload 4, 2) := by decide +kernel
theorem dX12_target_69 : decode cX12_target 69 = .ok (.bipush 9, 2) := by decide +kernel
theorem dX12_target_71 : decode cX12_target 71 = .ok (.invokevirtual 63, 3) := by decide +kernel
theorem dX12_target_74 : decode cX12_target 74 = .ok (.aload_n 0, 1) := by decide +kernel
theorem dX12_target_75 : decode cX12_target 75 = .ok (.iload_n 2, 1) := by decide +kernel
theorem dX12_target_76 : decode cX12_target 76 = .ok (.bipush 9, 2) := by decide +kernel
theorem dX12_target_78 : decode cX12_target 78 = .ok (.invokevirtual 63, 3) := by decide +kernel
theorem dX12_target_81 : decode cX12_target 81 = .ok (.if_icmp .le 6, 3) := by decide +kernel
theorem dX12_target_84 : decode cX12_target 84 = .ok (.iload 4, 2) := by decide +kernel
theorem dX12_target_86 : decode cX12_target 86 = .ok (.istore_n 2, 1) := by decide +kernel
theorem dX12_target_87 : decode cX12_target 87 = .ok (.iinc 4 1, 3) := by decide +kernel
theorem dX12_target_90 : decode cX12_target 90 = .ok (.goto (-57), 3) := by decide +kernel
theorem dX12_target_93 : decode cX12_target 93 = .ok (.iload_n 2, 1) := by decide +kernel
theorem dX12_target_94 : decode cX12_target 94 = .ok (.ireturn, 1) := by decide +kernel
theorem dX12_rule_0 : decode cX12_rule 0 = .ok (.aload_n 0, 1) := by decide +kernel
theorem dX12_rule_1 : decode cX12_rule 1 = .ok (.iconst 0, 1) := by decide +kernel
theorem dX12_rule_2 : decode cX12_rule 2 = .ok (.putfield 3, 3) := by decide +kernel
theorem dX12_rule_5 : decode cX12_rule 5 = .ok (.aload_n 0, 1) := by decide +kernel
theorem dX12_rule_6 : decode cX12_rule 6 = .ok (.aload_n 0, 1) := by decide +kernel
theorem dX12_rule_7 : decode cX12_rule 7 = .ok (.iload_n 1, 1) := by decide +kernel
theorem dX12_rule_8 : decode cX12_rule 8 = .ok (.invokevirtual 322, 3) := by decide +kernel
theorem dX12_rule_11 : decode cX12_rule 11 = .ok (.iconst 1, 1) := by decide +kernel
theorem dX12_rule_12 : decode cX12_rule 12 = .ok (.invokevirtual 269, 3) := by decide +kernel
theorem dX12_rule_15 : decode cX12_rule 15 = .ok (.ifCond .ne 25, 3) := by decide +kernel
theorem dX12_rule_18 : decode cX12_rule 18 = .ok (.aload_n 0, 1) := by decide +kernel
theorem dX12_rule_19 : decode cX12_rule 19 = .ok (.iload_n 2, 1) := by decide +kernel
theorem dX12_rule_20 : decode cX12_rule 20 = .ok (.iconst 0, 1) := by decide +kernel
theorem dX12_rule_21 : decode cX12_rule 21 = .ok (.iconst 3, 1) := by decide +kernel
theorem dX12_rule_22 : decode cX12_rule 22 = .ok (.invokestatic 71, 3) := by decide +kernel
theorem dX12_rule_25 : decode cX12_rule 25 = .ok (.ifCond .ne 7, 3) := by decide +kernel
theorem dX12_rule_28 : decode cX12_rule 28 = .ok (.iconst 1, 1) := by decide +kernel
theorem dX12_rule_29 : decode cX12_rule 29 = .ok (.goto 4, 3) := by decide +kernel
theorem dX12_rule_32 : decode cX12_rule 32 = .ok (.iconst 0, 1) := by decide +kernel
theorem dX12_rule_33 : decode cX12_rule 33 = .ok (.iconst 2, 1) := by decide +kernel
theorem dX12_rule_34 : decode cX12_rule 34 = .ok (.invokevirtual 269, 3) := by decide +kernel
theorem dX12_rule_37 : decode cX12_rule 37 = .ok (.ifCond .eq 5, 3) := by decide +kernel
theorem dX12_rule_40 : decode cX12_rule 40 = .ok (.iconst 0, 1) := by decide +kernel
theorem dX12_rule_41 : decode cX12_rule 41 = .ok (.ireturn, 1) := by decide +kernel
theorem dX12_rule_42 : decode cX12_rule 42 = .ok (.iload_n 2, 1) := by decide +kernel
theorem dX12_rule_43 : decode cX12_rule 43 = .ok (.iconst 3, 1) := by decide +kernel
theorem dX12_rule_44 : decode cX12_rule 44 = .ok (.if_icmp .ge 12, 3) := by decide +kernel
theorem dX12_rule_47 : decode cX12_rule 47 = .ok (.aload_n 0, 1) := by decide +kernel
theorem dX12_rule_48 : decode cX12_rule 48 = .ok (.iload_n 2, 1) := by decide +kernel
theorem dX12_rule_49 : decode cX12_rule 49 = .ok (.iload_n 1, 1) := by decide +kernel
theorem dX12_rule_50 : decode cX12_rule 50 = .ok (.invokevirtual 343, 3) := by decide +kernel
theorem dX12_rule_53 : decode cX12_rule 53 = .ok (.goto 8, 3) := by decide +kernel
theorem dX12_rule_56 : decode cX12_rule 56 = .ok (.aload_n 0, 1) := by decide +kernel
theorem dX12_rule_57 : decode cX12_rule 57 = .ok (.iload_n 1, 1) := by decide +kernel
theorem dX12_rule_58 : decode cX12_rule 58 = .ok (.invokevirtual 346, 3) := by decide +kernel
theorem dX12_rule_61 : decode cX12_rule 61 = .ok (.ireturn, 1) := by decide +kernel
theorem dX12_takes_0 : decode cX12_takes 0 = .ok (.iload_n 2, 1) := by decide +kernel
theorem dX12_takes_1 : decode cX12_takes 1 = .ok (.ifCond .ne 21, 3) := by decide +kernel
theorem dX12_takes_4 : decode cX12_takes 4 = .ok (.aload_n 0, 1) := by decide +kernel
theorem dX12_takes_5 : decode cX12_takes 5 = .ok (.iload_n 1, 1) := by decide +kernel
theorem dX12_takes_6 : decode cX12_takes 6 = .ok (.bipush 10, 2) := by decide +kernel
theorem dX12_takes_8 : decode cX12_takes 8 = .ok (.aload_n 0, 1) := by decide +kernel
theorem dX12_takes_9 : decode cX12_takes 9 = .ok (.iload_n 1, 1) := by decide +kernel
theorem dX12_takes_10 : decode cX12_takes 10 = .ok (.bipush 9, 2) := by decide +kernel
theorem dX12_takes_12 : decode cX12_takes 12 = .ok (.invokevirtual 63, 3) := by decide +kernel
theorem dX12_takes_15 : decode cX12_takes 15 = .ok (.iadd, 1) := by decide +kernel
theorem dX12_takes_16 : decode cX12_takes 16 = .ok (.iconst 1, 1) := by decide +kernel
theorem dX12_takes_17 : decode cX12_takes 17 = .ok (.isub, 1) := by decide +kernel
theorem dX12_takes_18 : decode cX12_takes 18 = .ok (.invokevirtual 63, 3) := by decide +kernel
theorem dX12_takes_21 : decode cX12_takes 21 = .ok (.ireturn, 1) := by decide +kernel
theorem dX12_takes_22 : decode cX12_takes 22 = .ok (.aload_n 0, 1) := by decide +kernel
theorem dX12_takes_23 : decode cX12_takes 23 = .ok (.iload_n 1, 1) := by decide +kernel
theorem dX12_takes_24 : decode cX12_takes 24 = .ok (.invokevirtual 88, 3) := by decide +kernel
theorem dX12_takes_27 : decode cX12_takes 27 = .ok (.istore_n 3, 1) := by decide +kernel
theorem dX12_takes_28 : decode cX12_takes 28 = .ok (.iconst (-1), 1) := by decide +kernel
theorem dX12_takes_29 : decode cX12_takes 29 = .ok (.istore 4, 2) := by decide +kernel
theorem dX12_takes_31 : decode cX12_takes 31 = .ok (.iconst 0, 1) := by decide +kernel
theorem dX12_takes_32 : decode cX12_takes 32 = .ok (.istore 5, 2) := by decide +kernel
theorem dX12_takes_34 : decode cX12_takes 34 = .ok (.iload 5, 2) := by decide +kernel
theorem dX12_takes_36 : decode cX12_takes 36 = .ok (.aload_n 0, 1) := by decide +kernel
theorem dX12_takes_37 : decode cX12_takes 37 = .ok (.invokevirtual 67, 3) := by decide +kernel
theorem dX12_takes_40 : decode cX12_takes 40 = .ok (.if_icmp .ge 44, 3) := by decide +kernel
theorem dX12_takes_43 : decode cX12_takes 43 = .ok (.iload_n 3, 1) := by decide +kernel
theorem dX12_takes_44 : decode cX12_takes 44 = .ok (.iload 5, 2) := by decide +kernel
theorem dX12_takes_46 : decode cX12_takes 46 = .ok (.invokestatic 81, 3) := by decide +kernel
theorem dX12_takes_49 : decode cX12_takes 49 = .ok (.ifCond .eq 29, 3) := by decide +kernel
theorem dX12_takes_52 : decode cX12_takes 52 = .ok (.iload 4, 2) := by decide +kernel
theorem dX12_takes_54 : decode cX12_takes 54 = .ok (.ifCond .lt 20, 3) := by decide +kernel
theorem dX12_takes_57 : decode cX12_takes 57 = .ok (.aload_n 0, 1) := by decide +kernel
theorem dX12_takes_58 : decode cX12_takes 58 = .ok (.iload_n 3, 1) := by decide +kernel
theorem dX12_takes_59 : decode cX12_takes 59 = .ok (.iload 5, 2) := by decide +kernel
theorem dX12_takes_61 : decode cX12_takes 61 = .ok (.invokevirtual 337, 3) := by decide +kernel
theorem dX12_takes_64 : decode cX12_takes 64 = .ok (.aload_n 0, 1) := by decide +kernel
theorem dX12_takes_65 : decode cX12_takes 65 = .ok (.iload_n 3, 1) := by decide +kernel
theorem dX12_takes_66 : decode cX12_takes 66 = .ok (.iload 4, 2) := by decide +kernel
theorem dX12_takes_68 : decode cX12_takes 68 = .ok (.invokevirtual 337, 3) := by decide +kernel
theorem dX12_takes_71 : decode cX12_takes 71 = .ok (.if_icmp .le 7, 3) := by decide +kernel
theorem dX12_takes_74 : decode cX12_takes 74 = .ok (.iload 5, 2) := by decide +kernel
theorem dX12_takes_76 : decode cX12_takes 76 = .ok (.istore 4, 2) := by decide +kernel
theorem dX12_takes_78 : decode cX12_takes 78 = .ok (.iinc 5 1, 3) := by decide +kernel
theorem dX12_takes_81 : decode cX12_takes 81 = .ok (.goto (-47), 3) := by decide +kernel
theorem dX12_takes_84 : decode cX12_takes 84 = .ok (.iload 4, 2) := by decide +kernel
theorem dX12_takes_86 : decode cX12_takes 86 = .ok (.ireturn, 1) := by decide +kernel
theorem dX12_loses_0 : decode cX12_loses 0 = .ok (.iconst 0, 1) := by decide +kernel
theorem dX12_loses_1 : decode cX12_loses 1 = .ok (.istore_n 3, 1) := by decide +kernel
theorem dX12_loses_2 : decode cX12_loses 2 = .ok (.aload_n 0, 1) := by decide +kernel
theorem dX12_loses_3 : decode cX12_loses 3 = .ok (.iload_n 1, 1) := by decide +kernel
theorem dX12_loses_4 : decode cX12_loses 4 = .ok (.bipush 10, 2) := by decide +kernel
theorem dX12_loses_6 : decode cX12_loses 6 = .ok (.iload_n 3, 1) := by decide +kernel
theorem dX12_loses_7 : decode cX12_loses 7 = .ok (.iadd, 1) := by decide +kernel
theorem dX12_loses_8 : decode cX12_loses 8 = .ok (.invokevirtual 63, 3) := by decide +kernel
theorem dX12_loses_11 : decode cX12_loses 11 = .ok (.iload_n 2, 1) := by decide +kernel
theorem dX12_loses_12 : decode cX12_loses 12 = .ok (.if_icmp .eq 9, 3) := by decide +kernel
theorem dX12_loses_15 : decode cX12_loses 15 = .ok (.iinc 3 1, 3) := by decide +kernel
theorem dX12_loses_18 : decode cX12_loses 18 = .ok (.goto (-16), 3) := by decide +kernel
theorem dX12_loses_21 : decode cX12_loses 21 = .ok (.iload_n 3, 1) := by decide +kernel
theorem dX12_loses_22 : decode cX12_loses 22 = .ok (.iconst 1, 1) := by decide +kernel
theorem dX12_loses_23 : decode cX12_loses 23 = .ok (.iadd, 1) := by decide +kernel
theorem dX12_loses_24 : decode cX12_loses 24 = .ok (.aload_n 0, 1) := by decide +kernel
theorem dX12_loses_25 : decode cX12_loses 25 = .ok (.iload_n 1, 1) := by decide +kernel
theorem dX12_loses_26 : decode cX12_loses 26 = .ok (.bipush 9, 2) := by decide +kernel
theorem dX12_loses_28 : decode cX12_loses 28 = .ok (.invokevirtual 63, 3) := by decide +kernel
theorem dX12_loses_31 : decode cX12_loses 31 = .ok (.if_icmp .ge 29, 3) := by decide +kernel
theorem dX12_loses_34 : decode cX12_loses 34 = .ok (.aload_n 0, 1) := by decide +kernel
theorem dX12_loses_35 : decode cX12_loses 35 = .ok (.iload_n 1, 1) := by decide +kernel
theorem dX12_loses_36 : decode cX12_loses 36 = .ok (.bipush 10, 2) := by decide +kernel
theorem dX12_loses_38 : decode cX12_loses 38 = .ok (.iload_n 3, 1) := by decide +kernel
theorem dX12_loses_39 : decode cX12_loses 39 = .ok (.iadd, 1) := by decide +kernel
theorem dX12_loses_40 : decode cX12_loses 40 = .ok (.aload_n 0, 1) := by decide +kernel
theorem dX12_loses_41 : decode cX12_loses 41 = .ok (.iload_n 1, 1) := by decide +kernel
theorem dX12_loses_42 : decode cX12_loses 42 = .ok (.bipush 10, 2) := by decide +kernel
theorem dX12_loses_44 : decode cX12_loses 44 = .ok (.iload_n 3, 1) := by decide +kernel
theorem dX12_loses_45 : decode cX12_loses 45 = .ok (.iadd, 1) := by decide +kernel
theorem dX12_loses_46 : decode cX12_loses 46 = .ok (.iconst 1, 1) := by decide +kernel
theorem dX12_loses_47 : decode cX12_loses 47 = .ok (.iadd, 1) := by decide +kernel
theorem dX12_loses_48 : decode cX12_loses 48 = .ok (.invokevirtual 63, 3) := by decide +kernel
theorem dX12_loses_51 : decode cX12_loses 51 = .ok (.invokevirtual 148, 3) := by decide +kernel
theorem dX12_loses_54 : decode cX12_loses 54 = .ok (.iinc 3 1, 3) := by decide +kernel
theorem dX12_loses_57 : decode cX12_loses 57 = .ok (.goto (-36), 3) := by decide +kernel
theorem dX12_loses_60 : decode cX12_loses 60 = .ok (.aload_n 0, 1) := by decide +kernel
theorem dX12_loses_61 : decode cX12_loses 61 = .ok (.iload_n 1, 1) := by decide +kernel
theorem dX12_loses_62 : decode cX12_loses 62 = .ok (.bipush 9, 2) := by decide +kernel
theorem dX12_loses_64 : decode cX12_loses 64 = .ok (.aload_n 0, 1) := by decide +kernel
theorem dX12_loses_65 : decode cX12_loses 65 = .ok (.iload_n 1, 1) := by decide +kernel
theorem dX12_loses_66 : decode cX12_loses 66 = .ok (.bipush 9, 2) := by decide +kernel
theorem dX12_loses_68 : decode cX12_loses 68 = .ok (.invokevirtual 63, 3) := by decide +kernel
theorem dX12_loses_71 : decode cX12_loses 71 = .ok (.iconst 1, 1) := by decide +kernel
theorem dX12_loses_72 : decode cX12_loses 72 = .ok (.isub, 1) := by decide +kernel
theorem dX12_loses_73 : decode cX12_loses 73 = .ok (.invokevirtual 148, 3) := by decide +kernel
theorem dX12_loses_76 : decode cX12_loses 76 = .ok (.return_, 1) := by decide +kernel
theorem dX12_lies_0 : decode cX12_lies 0 = .ok (.aload_n 0, 1) := by decide +kernel
theorem dX12_lies_1 : decode cX12_lies 1 = .ok (.getfield 13, 3) := by decide +kernel
theorem dX12_lies_4 : decode cX12_lies 4 = .ok (.bipush 6, 2) := by decide +kernel
theorem dX12_lies_6 : decode cX12_lies 6 = .ok (.iaload, 1) := by decide +kernel
theorem dX12_lies_7 : decode cX12_lies 7 = .ok (.bipush 40, 2) := by decide +kernel
theorem dX12_lies_9 : decode cX12_lies 9 = .ok (.if_icmp .ne 8, 3) := by decide +kernel
theorem dX12_lies_12 : decode cX12_lies 12 = .ok (.aload_n 0, 1) := by decide +kernel
theorem dX12_lies_13 : decode cX12_lies 13 = .ok (.iconst 0, 1) := by decide +kernel
theorem dX12_lies_14 : decode cX12_lies 14 = .ok (.invokevirtual 349, 3) := by decide +kernel
theorem dX12_lies_17 : decode cX12_lies 17 = .ok (.sipush 311, 3) := by decide +kernel
theorem dX12_lies_20 : decode cX12_lies 20 = .ok (.iconst 3, 1) := by decide +kernel
theorem dX12_lies_21 : decode cX12_lies 21 = .ok (.aload_n 0, 1) := by decide +kernel
theorem dX12_lies_22 : decode cX12_lies 22 = .ok (.getfield 13, 3) := by decide +kernel
theorem dX12_lies_25 : decode cX12_lies 25 = .ok (.bipush 6, 2) := by decide +kernel
theorem dX12_lies_27 : decode cX12_lies 27 = .ok (.iaload, 1) := by decide +kernel
theorem dX12_lies_28 : decode cX12_lies 28 = .ok (.imul, 1) := by decide +kernel
theorem dX12_lies_29 : decode cX12_lies 29 = .ok (.iadd, 1) := by decide +kernel
theorem dX12_lies_30 : decode cX12_lies 30 = .ok (.istore 4, 2) := by decide +kernel
theorem dX12_lies_32 : decode cX12_lies 32 = .ok (.aload_n 0, 1) := by decide +kernel
theorem dX12_lies_33 : decode cX12_lies 33 = .ok (.getfield 13, 3) := by decide +kernel
theorem dX12_lies_36 : decode cX12_lies 36 = .ok (.iload 4, 2) := by decide +kernel
theorem dX12_lies_38 : decode cX12_lies 38 = .ok (.iload_n 1, 1) := by decide +kernel
theorem dX12_lies_39 : decode cX12_lies 39 = .ok (.iastore, 1) := by decide +kernel
theorem dX12_lies_40 : decode cX12_lies 40 = .ok (.aload_n 0, 1) := by decide +kernel
theorem dX12_lies_41 : decode cX12_lies 41 = .ok (.getfield 13, 3) := by decide +kernel
theorem dX12_lies_44 : decode cX12_lies 44 = .ok (.iload 4, 2) := by decide +kernel
theorem dX12_lies_46 : decode cX12_lies 46 = .ok (.iconst 1, 1) := by decide +kernel
theorem dX12_lies_47 : decode cX12_lies 47 = .ok (.iadd, 1) := by decide +kernel
theorem dX12_lies_48 : decode cX12_lies 48 = .ok (.iload_n 2, 1) := by decide +kernel
theorem dX12_lies_49 : decode cX12_lies 49 = .ok (.iastore, 1) := by decide +kernel
theorem dX12_lies_50 : decode cX12_lies 50 = .ok (.aload_n 0, 1) := by decide +kernel
theorem dX12_lies_51 : decode cX12_lies 51 = .ok (.getfield 13, 3) := by decide +kernel
theorem dX12_lies_54 : decode cX12_lies 54 = .ok (.iload 4, 2) := by decide +kernel
theorem dX12_lies_56 : decode cX12_lies 56 = .ok (.iconst 2, 1) := by decide +kernel
theorem dX12_lies_57 : decode cX12_lies 57 = .ok (.iadd, 1) := by decide +kernel
theorem dX12_lies_58 : decode cX12_lies 58 = .ok (.iload_n 3, 1) := by decide +kernel
theorem dX12_lies_59 : decode cX12_lies 59 = .ok (.iastore, 1) := by decide +kernel
theorem dX12_lies_60 : decode cX12_lies 60 = .ok (.aload_n 0, 1) := by decide +kernel
theorem dX12_lies_61 : decode cX12_lies 61 = .ok (.getfield 13, 3) := by decide +kernel
theorem dX12_lies_64 : decode cX12_lies 64 = .ok (.bipush 6, 2) := by decide +kernel
theorem dX12_lies_66 : decode cX12_lies 66 = .ok (.dup2, 1) := by decide +kernel
theorem dX12_lies_67 : decode cX12_lies 67 = .ok (.iaload, 1) := by decide +kernel
theorem dX12_lies_68 : decode cX12_lies 68 = .ok (.iconst 1, 1) := by decide +kernel
theorem dX12_lies_69 : decode cX12_lies 69 = .ok (.iadd, 1) := by decide +kernel
theorem dX12_lies_70 : decode cX12_lies 70 = .ok (.iastore, 1) := by decide +kernel
theorem dX12_lies_71 : decode cX12_lies 71 = .ok (.return_, 1) := by decide +kernel
theorem dX12_removes_0 : decode cX12_removes 0 = .ok (.iconst 3, 1) := by decide +kernel
theorem dX12_removes_1 : decode cX12_removes 1 = .ok (.iload_n 1, 1) := by decide +kernel
theorem dX12_removes_2 : decode cX12_removes 2 = .ok (.imul, 1) := by decide +kernel
theorem dX12_removes_3 : decode cX12_removes 3 = .ok (.istore_n 2, 1) := by decide +kernel
theorem dX12_removes_4 : decode cX12_removes 4 = .ok (.iload_n 2, 1) := by decide +kernel
theorem dX12_removes_5 : decode cX12_removes 5 = .ok (.iconst 3, 1) := by decide +kernel
theorem dX12_removes_6 : decode cX12_removes 6 = .ok (.iadd, 1) := by decide +kernel
theorem dX12_removes_7 : decode cX12_removes 7 = .ok (.iconst 3, 1) := by decide +kernel
theorem dX12_removes_8 : decode cX12_removes 8 = .ok (.aload_n 0, 1) := by decide +kernel
theorem dX12_removes_9 : decode cX12_removes 9 = .ok (.getfield 13, 3) := by decide +kernel
theorem dX12_removes_12 : decode cX12_removes 12 = .ok (.bipush 6, 2) := by decide +kernel
theorem dX12_removes_14 : decode cX12_removes 14 = .ok (.iaload, 1) := by decide +kernel
theorem dX12_removes_15 : decode cX12_removes 15 = .ok (.imul, 1) := by decide +kernel
theorem dX12_removes_16 : decode cX12_removes 16 = .ok (.if_icmp .ge 31, 3) := by decide +kernel
theorem dX12_removes_19 : decode cX12_removes 19 = .ok (.aload_n 0, 1) := by decide +kernel
theorem dX12_removes_20 : decode cX12_removes 20 = .ok (.getfield 13, 3) := by decide +kernel
theorem dX12_removes_23 : decode cX12_removes 23 = .ok (.sipush 311, 3) := by decide +kernel
theorem dX12_removes_26 : decode cX12_removes 26 = .ok (.iload_n 2, 1) := by decide +kernel
theorem dX12_removes_27 : decode cX12_removes 27 = .ok (.iadd, 1) := by decide +kernel
theorem dX12_removes_28 : decode cX12_removes 28 = .ok (.aload_n 0, 1) := by decide +kernel
theorem dX12_removes_29 : decode cX12_removes 29 = .ok (.getfield 13, 3) := by decide +kernel
theorem dX12_removes_32 : decode cX12_removes 32 = .ok (.sipush 311, 3) := by decide +kernel
theorem dX12_removes_35 : decode cX12_removes 35 = .ok (.iload_n 2, 1) := by decide +kernel
theorem dX12_removes_36 : decode cX12_removes 36 = .ok (.iadd, 1) := by decide +kernel
theorem dX12_removes_37 : decode cX12_removes 37 = .ok (.iconst 3, 1) := by decide +kernel
theorem dX12_removes_38 : decode cX12_removes 38 = .ok (.iadd, 1) := by decide +kernel
theorem dX12_removes_39 : decode cX12_removes 39 = .ok (.iaload, 1) := by decide +kernel
theorem dX12_removes_40 : decode cX12_removes 40 = .ok (.iastore, 1) := by decide +kernel
theorem dX12_removes_41 : decode cX12_removes 41 = .ok (.iinc 2 1, 3) := by decide +kernel
theorem dX12_removes_44 : decode cX12_removes 44 = .ok (.goto (-40), 3) := by decide +kernel
theorem dX12_removes_47 : decode cX12_removes 47 = .ok (.aload_n 0, 1) := by decide +kernel
theorem dX12_removes_48 : decode cX12_removes 48 = .ok (.getfield 13, 3) := by decide +kernel
theorem dX12_removes_51 : decode cX12_removes 51 = .ok (.bipush 6, 2) := by decide +kernel
theorem dX12_removes_53 : decode cX12_removes 53 = .ok (.dup2, 1) := by decide +kernel
theorem dX12_removes_54 : decode cX12_removes 54 = .ok (.iaload, 1) := by decide +kernel
theorem dX12_removes_55 : decode cX12_removes 55 = .ok (.iconst 1, 1) := by decide +kernel
theorem dX12_removes_56 : decode cX12_removes 56 = .ok (.isub, 1) := by decide +kernel
theorem dX12_removes_57 : decode cX12_removes 57 = .ok (.iastore, 1) := by decide +kernel
theorem dX12_removes_58 : decode cX12_removes 58 = .ok (.return_, 1) := by decide +kernel
theorem dX12_hits_0 : decode cX12_hits 0 = .ok (.aload_n 0, 1) := by decide +kernel
theorem dX12_hits_1 : decode cX12_hits 1 = .ok (.iload_n 2, 1) := by decide +kernel
theorem dX12_hits_2 : decode cX12_hits 2 = .ok (.iload_n 3, 1) := by decide +kernel
theorem dX12_hits_3 : decode cX12_hits 3 = .ok (.invokevirtual 353, 3) := by decide +kernel
theorem dX12_hits_6 : decode cX12_hits 6 = .ok (.istore 4, 2) := by decide +kernel
theorem dX12_hits_8 : decode cX12_hits 8 = .ok (.aload_n 0, 1) := by decide +kernel
theorem dX12_hits_9 : decode cX12_hits 9 = .ok (.iload_n 2, 1) := by decide +kernel
theorem dX12_hits_10 : decode cX12_hits 10 = .ok (.iload 4, 2) := by decide +kernel
theorem dX12_hits_12 : decode cX12_hits 12 = .ok (.invokevirtual 357, 3) := by decide +kernel
theorem dX12_hits_15 : decode cX12_hits 15 = .ok (.aload_n 0, 1) := by decide +kernel
theorem dX12_hits_16 : decode cX12_hits 16 = .ok (.iload 4, 2) := by decide +kernel
theorem dX12_hits_18 : decode cX12_hits 18 = .ok (.aload_n 0, 1) := by decide +kernel
theorem dX12_hits_19 : decode cX12_hits 19 = .ok (.iload_n 2, 1) := by decide +kernel
theorem dX12_hits_20 : decode cX12_hits 20 = .ok (.invokevirtual 272, 3) := by decide +kernel
theorem dX12_hits_23 : decode cX12_hits 23 = .ok (.iload_n 2, 1) := by decide +kernel
theorem dX12_hits_24 : decode cX12_hits 24 = .ok (.invokevirtual 360, 3) := by decide +kernel
theorem dX12_hits_27 : decode cX12_hits 27 = .ok (.aload_n 0, 1) := by decide +kernel
theorem dX12_hits_28 : decode cX12_hits 28 = .ok (.getfield 13, 3) := by decide +kernel
theorem dX12_hits_31 : decode cX12_hits 31 = .ok (.bipush 7, 2) := by decide +kernel
theorem dX12_hits_33 : decode cX12_hits 33 = .ok (.dup2, 1) := by decide +kernel
theorem dX12_hits_34 : decode cX12_hits 34 = .ok (.iaload, 1) := by decide +kernel
theorem dX12_hits_35 : decode cX12_hits 35 = .ok (.iconst 1, 1) := by decide +kernel
theorem dX12_hits_36 : decode cX12_hits 36 = .ok (.iadd, 1) := by decide +kernel
theorem dX12_hits_37 : decode cX12_hits 37 = .ok (.iastore, 1) := by decide +kernel
theorem dX12_hits_38 : decode cX12_hits 38 = .ok (.sipush 299, 3) := by decide +kernel
theorem dX12_hits_41 : decode cX12_hits 41 = .ok (.istore 5, 2) := by decide +kernel
theorem dX12_hits_43 : decode cX12_hits 43 = .ok (.iload 5, 2) := by decide +kernel
theorem dX12_hits_45 : decode cX12_hits 45 = .ok (.iconst 5, 1) := by decide +kernel
theorem dX12_hits_46 : decode cX12_hits 46 = .ok (.if_icmp .lt 33, 3) := by decide +kernel
theorem dX12_hits_49 : decode cX12_hits 49 = .ok (.aload_n 0, 1) := by decide +kernel
theorem dX12_hits_50 : decode cX12_hits 50 = .ok (.getfield 13, 3) := by decide +kernel
theorem dX12_hits_53 : decode cX12_hits 53 = .ok (.sipush 431, 3) := by decide +kernel
theorem dX12_hits_56 : decode cX12_hits 56 = .ok (.iload 5, 2) := by decide +kernel
theorem dX12_hits_58 : decode cX12_hits 58 = .ok (.iadd, 1) := by decide +kernel
theorem dX12_hits_59 : decode cX12_hits 59 = .ok (.aload_n 0, 1) := by decide +kernel
theorem dX12_hits_60 : decode cX12_hits 60 = .ok (.getfield 13, 3) := by decide +kernel
theorem dX12_hits_63 : decode cX12_hits 63 = .ok (.sipush 431, 3) := by decide +kernel
theorem dX12_hits_66 : decode cX12_hits 66 = .ok (.iload 5, 2) := by decide +kernel
theorem dX12_hits_68 : decode cX12_hits 68 = .ok (.iadd, 1) := by decide +kernel
theorem dX12_hits_69 : decode cX12_hits 69 = .ok (.iconst 5, 1) := by decide +kernel
theorem dX12_hits_70 : decode cX12_hits 70 = .ok (.isub, 1) := by decide +kernel
theorem dX12_hits_71 : decode cX12_hits 71 = .ok (.iaload, 1) := by decide +kernel
theorem dX12_hits_72 : decode cX12_hits 72 = .ok (.iastore, 1) := by decide +kernel
theorem dX12_hits_73 : decode cX12_hits 73 = .ok (.iinc 5 (-1), 3) := by decide +kernel
theorem dX12_hits_76 : decode cX12_hits 76 = .ok (.goto (-33), 3) := by decide +kernel
theorem dX12_hits_79 : decode cX12_hits 79 = .ok (.aload_n 0, 1) := by decide +kernel
theorem dX12_hits_80 : decode cX12_hits 80 = .ok (.getfield 13, 3) := by decide +kernel
theorem dX12_hits_83 : decode cX12_hits 83 = .ok (.sipush 431, 3) := by decide +kernel
theorem dX12_hits_86 : decode cX12_hits 86 = .ok (.aload_n 0, 1) := by decide +kernel
theorem dX12_hits_87 : decode cX12_hits 87 = .ok (.getfield 13, 3) := by decide +kernel
theorem dX12_hits_90 : decode cX12_hits 90 = .ok (.iconst 5, 1) := by decide +kernel
theorem dX12_hits_91 : decode cX12_hits 91 = .ok (.iaload, 1) := by decide +kernel
theorem dX12_hits_92 : decode cX12_hits 92 = .ok (.iastore, 1) := by decide +kernel
theorem dX12_hits_93 : decode cX12_hits 93 = .ok (.aload_n 0, 1) := by decide +kernel
theorem dX12_hits_94 : decode cX12_hits 94 = .ok (.getfield 13, 3) := by decide +kernel
theorem dX12_hits_97 : decode cX12_hits 97 = .ok (.sipush 432, 3) := by decide +kernel
theorem dX12_hits_100 : decode cX12_hits 100 = .ok (.iload_n 1, 1) := by decide +kernel
theorem dX12_hits_101 : decode cX12_hits 101 = .ok (.iastore, 1) := by decide +kernel
theorem dX12_hits_102 : decode cX12_hits 102 = .ok (.aload_n 0, 1) := by decide +kernel
theorem dX12_hits_103 : decode cX12_hits 103 = .ok (.getfield 13, 3) := by decide +kernel
theorem dX12_hits_106 : decode cX12_hits 106 = .ok (.sipush 433, 3) := by decide +kernel
theorem dX12_hits_109 : decode cX12_hits 109 = .ok (.iload_n 2, 1) := by decide +kernel
theorem dX12_hits_110 : decode cX12_hits 110 = .ok (.iastore, 1) := by decide +kernel
theorem dX12_hits_111 : decode cX12_hits 111 = .ok (.aload_n 0, 1) := by decide +kernel
theorem dX12_hits_112 : decode cX12_hits 112 = .ok (.getfield 13, 3) := by decide +kernel
theorem dX12_hits_115 : decode cX12_hits 115 = .ok (.sipush 434, 3) := by decide +kernel
theorem dX12_hits_118 : decode cX12_hits 118 = .ok (.iload 4, 2) := by decide +kernel
theorem dX12_hits_120 : decode cX12_hits 120 = .ok (.iastore, 1) := by decide +kernel
theorem dX12_hits_121 : decode cX12_hits 121 = .ok (.aload_n 0, 1) := by decide +kernel
theorem dX12_hits_122 : decode cX12_hits 122 = .ok (.getfield 13, 3) := by decide +kernel
theorem dX12_hits_125 : decode cX12_hits 125 = .ok (.sipush 435, 3) := by decide +kernel
theorem dX12_hits_128 : decode cX12_hits 128 = .ok (.iload_n 3, 1) := by decide +kernel
theorem dX12_hits_129 : decode cX12_hits 129 = .ok (.ifCond .eq 7, 3) := by decide +kernel
theorem dX12_hits_132 : decode cX12_hits 132 = .ok (.iconst 1, 1) := by decide +kernel
theorem dX12_hits_133 : decode cX12_hits 133 = .ok (.goto 4, 3) := by decide +kernel
theorem dX12_hits_136 : decode cX12_hits 136 = .ok (.iconst 0, 1) := by decide +kernel
theorem dX12_hits_137 : decode cX12_hits 137 = .ok (.iastore, 1) := by decide +kernel
theorem dX12_hits_138 : decode cX12_hits 138 = .ok (.aload_n 0, 1) := by decide +kernel
theorem dX12_hits_139 : decode cX12_hits 139 = .ok (.getfield 13, 3) := by decide +kernel
theorem dX12_hits_142 : decode cX12_hits 142 = .ok (.bipush 9, 2) := by decide +kernel
theorem dX12_hits_144 : decode cX12_hits 144 = .ok (.bipush 60, 2) := by decide +kernel
theorem dX12_hits_146 : decode cX12_hits 146 = .ok (.aload_n 0, 1) := by decide +kernel
theorem dX12_hits_147 : decode cX12_hits 147 = .ok (.getfield 13, 3) := by decide +kernel
theorem dX12_hits_150 : decode cX12_hits 150 = .ok (.bipush 9, 2) := by decide +kernel
theorem dX12_hits_152 : decode cX12_hits 152 = .ok (.iaload, 1) := by decide +kernel
theorem dX12_hits_153 : decode cX12_hits 153 = .ok (.iconst 1, 1) := by decide +kernel
theorem dX12_hits_154 : decode cX12_hits 154 = .ok (.iadd, 1) := by decide +kernel
theorem dX12_hits_155 : decode cX12_hits 155 = .ok (.invokestatic 293, 3) := by decide +kernel
theorem dX12_hits_158 : decode cX12_hits 158 = .ok (.iastore, 1) := by decide +kernel
theorem dX12_hits_159 : decode cX12_hits 159 = .ok (.iload 4, 2) := by decide +kernel
theorem dX12_hits_161 : decode cX12_hits 161 = .ok (.ireturn, 1) := by decide +kernel
theorem dX12_canLearn_0 : decode cX12_canLearn 0 = .ok (.aload_n 0, 1) := by decide +kernel
theorem dX12_canLearn_1 : decode cX12_canLearn 1 = .ok (.iload_n 1, 1) := by decide +kernel
theorem dX12_canLearn_2 : decode cX12_canLearn 2 = .ok (.invokevirtual 88, 3) := by decide +kernel
theorem dX12_canLearn_5 : decode cX12_canLearn 5 = .ok (.iload_n 2, 1) := by decide +kernel
theorem dX12_canLearn_6 : decode cX12_canLearn 6 = .ok (.invokestatic 81, 3) := by decide +kernel
theorem dX12_canLearn_9 : decode cX12_canLearn 9 = .ok (.ifCond .ne 36, 3) := by decide +kernel
theorem dX12_canLearn_12 : decode cX12_canLearn 12 = .ok (.aload_n 0, 1) := by decide +kernel
theorem dX12_canLearn_13 : decode cX12_canLearn 13 = .ok (.iload_n 1, 1) := by decide +kernel
theorem dX12_canLearn_14 : decode cX12_canLearn 14 = .ok (.bipush 9, 2) := by decide +kernel
theorem dX12_canLearn_16 : decode cX12_canLearn 16 = .ok (.invokevirtual 63, 3) := by decide +kernel
theorem dX12_canLearn_19 : decode cX12_canLearn 19 = .ok (.bipush 12, 2) := by decide +kernel
theorem dX12_canLearn_21 : decode cX12_canLearn 21 = .ok (.if_icmp .ge 24, 3) := by decide +kernel
theorem dX12_canLearn_24 : decode cX12_canLearn 24 = .ok (.aload_n 0, 1) := by decide +kernel
theorem dX12_canLearn_25 : decode cX12_canLearn 25 = .ok (.iload_n 2, 1) := by decide +kernel
theorem dX12_canLearn_26 : decode cX12_canLearn 26 = .ok (.iconst 1, 1) := by decide +kernel
theorem dX12_canLearn_27 : decode cX12_canLearn 27 = .ok (.invokevirtual 85, 3) := by decide +kernel
theorem dX12_canLearn_30 : decode cX12_canLearn 30 = .ok (.aload_n 0, 1) := by decide +kernel
theorem dX12_canLearn_31 : decode cX12_canLearn 31 = .ok (.iload_n 1, 1) := by decide +kernel
theorem dX12_canLearn_32 : decode cX12_canLearn 32 = .ok (.invokevirtual 275, 3) := by decide +kernel
theorem dX12_canLearn_35 : decode cX12_canLearn 35 = .ok (.iconst (-1), 1) := by decide +kernel
theorem dX12_canLearn_36 : decode cX12_canLearn 36 = .ok (.ixor, 1) := by decide +kernel
theorem dX12_canLearn_37 : decode cX12_canLearn 37 = .ok (.iand, 1) := by decide +kernel
theorem dX12_canLearn_38 : decode cX12_canLearn 38 = .ok (.ifCond .ne 7, 3) := by decide +kernel
theorem dX12_canLearn_41 : decode cX12_canLearn 41 = .ok (.iconst 1, 1) := by decide +kernel
theorem dX12_canLearn_42 : decode cX12_canLearn 42 = .ok (.goto 4, 3) := by decide +kernel
theorem dX12_canLearn_45 : decode cX12_canLearn 45 = .ok (.iconst 0, 1) := by decide +kernel
theorem dX12_canLearn_46 : decode cX12_canLearn 46 = .ok (.ireturn, 1) := by decide +kernel
theorem dX12_learns_0 : decode cX12_learns 0 = .ok (.aload_n 0, 1) := by decide +kernel
theorem dX12_learns_1 : decode cX12_learns 1 = .ok (.iload_n 1, 1) := by decide +kernel
theorem dX12_learns_2 : decode cX12_learns 2 = .ok (.iload_n 2, 1) := by decide +kernel
theorem dX12_learns_3 : decode cX12_learns 3 = .ok (.invokevirtual 363, 3) := by decide +kernel
theorem dX12_learns_6 : decode cX12_learns 6 = .ok (.ifCond .ne 5, 3) := by decide +kernel
theorem dX12_learns_9 : decode cX12_learns 9 = .ok (.iconst 0, 1) := by decide +kernel
theorem dX12_learns_10 : decode cX12_learns 10 = .ok (.ireturn, 1) := by decide +kernel
theorem dX12_learns_11 : decode cX12_learns 11 = .ok (.aload_n 0, 1) := by decide +kernel
theorem dX12_learns_12 : decode cX12_learns 12 = .ok (.iload_n 1, 1) := by decide +kernel
theorem dX12_learns_13 : decode cX12_learns 13 = .ok (.iload_n 2, 1) := by decide +kernel
theorem dX12_learns_14 : decode cX12_learns 14 = .ok (.invokevirtual 155, 3) := by decide +kernel
theorem dX12_learns_17 : decode cX12_learns 17 = .ok (.aload_n 0, 1) := by decide +kernel
theorem dX12_learns_18 : decode cX12_learns 18 = .ok (.getfield 13, 3) := by decide +kernel
theorem dX12_learns_21 : decode cX12_learns 21 = .ok (.bipush 8, 2) := by decide +kernel
theorem dX12_learns_23 : decode cX12_learns 23 = .ok (.dup2, 1) := by decide +kernel
theorem dX12_learns_24 : decode cX12_learns 24 = .ok (.iaload, 1) := by decide +kernel
theorem dX12_learns_25 : decode cX12_learns 25 = .ok (.iconst 1, 1) := by decide +kernel
theorem dX12_learns_26 : decode cX12_learns 26 = .ok (.iadd, 1) := by decide +kernel
theorem dX12_learns_27 : decode cX12_learns 27 = .ok (.iastore, 1) := by decide +kernel
theorem dX12_learns_28 : decode cX12_learns 28 = .ok (.iconst 1, 1) := by decide +kernel
theorem dX12_learns_29 : decode cX12_learns 29 = .ok (.ireturn, 1) := by decide +kernel
theorem dX12_reads_0 : decode cX12_reads 0 = .ok (.iconst 0, 1) := by decide +kernel
theorem dX12_reads_1 : decode cX12_reads 1 = .ok (.istore_n 2, 1) := by decide +kernel
theorem dX12_reads_2 : decode cX12_reads 2 = .ok (.aload_n 0, 1) := by decide +kernel
theorem dX12_reads_3 : decode cX12_reads 3 = .ok (.aload_n 0, 1) := by decide +kernel
theorem dX12_reads_4 : decode cX12_reads 4 = .ok (.iload_n 1, 1) := by decide +kernel
theorem dX12_reads_5 : decode cX12_reads 5 = .ok (.iconst 0, 1) := by decide +kernel
theorem dX12_reads_6 : decode cX12_reads 6 = .ok (.invokevirtual 63, 3) := by decide +kernel
theorem dX12_reads_9 : decode cX12_reads 9 = .ok (.aload_n 0, 1) := by decide +kernel
theorem dX12_reads_10 : decode cX12_reads 10 = .ok (.iload_n 1, 1) := by decide +kernel
theorem dX12_reads_11 : decode cX12_reads 11 = .ok (.invokevirtual 272, 3) := by decide +kernel
theorem dX12_reads_14 : decode cX12_reads 14 = .ok (.invokevirtual 283, 3) := by decide +kernel
theorem dX12_reads_17 : decode cX12_reads 17 = .ok (.istore_n 3, 1) := by decide +kernel
theorem dX12_reads_18 : decode cX12_reads 18 = .ok (.iconst 0, 1) := by decide +kernel
theorem dX12_reads_19 : decode cX12_reads 19 = .ok (.istore 4, 2) := by decide +kernel
theorem dX12_reads_21 : decode cX12_reads 21 = .ok (.iload 4, 2) := by decide +kernel
theorem dX12_reads_23 : decode cX12_reads 23 = .ok (.aload_n 0, 1) := by decide +kernel
theorem dX12_reads_24 : decode cX12_reads 24 = .ok (.invokevirtual 75, 3) := by decide +kernel
theorem dX12_reads_27 : decode cX12_reads 27 = .ok (.if_icmp .ge 70, 3) := by decide +kernel
theorem dX12_reads_30 : decode cX12_reads 30 = .ok (.iconst 0, 1) := by decide +kernel
theorem dX12_reads_31 : decode cX12_reads 31 = .ok (.istore 5, 2) := by decide +kernel
theorem dX12_reads_33 : decode cX12_reads 33 = .ok (.iload 5, 2) := by decide +kernel
theorem dX12_reads_35 : decode cX12_reads 35 = .ok (.aload_n 0, 1) := by decide +kernel
theorem dX12_reads_36 : decode cX12_reads 36 = .ok (.invokevirtual 67, 3) := by decide +kernel
theorem dX12_reads_39 : decode cX12_reads 39 = .ok (.if_icmp .ge 52, 3) := by decide +kernel
theorem dX12_reads_42 : decode cX12_reads 42 = .ok (.iload_n 3, 1) := by decide +kernel
theorem dX12_reads_43 : decode cX12_reads 43 = .ok (.iload 4, 2) := by decide +kernel
theorem dX12_reads_45 : decode cX12_reads 45 = .ok (.invokestatic 81, 3) := by decide +kernel
theorem dX12_reads_48 : decode cX12_reads 48 = .ok (.ifCond .eq 37, 3) := by decide +kernel
theorem dX12_reads_51 : decode cX12_reads 51 = .ok (.aload_n 0, 1) := by decide +kernel
theorem dX12_reads_52 : decode cX12_reads 52 = .ok (.iload_n 1, 1) := by decide +kernel
theorem dX12_reads_53 : decode cX12_reads 53 = .ok (.bipush 22, 2) := by decide +kernel
theorem dX12_reads_55 : decode cX12_reads 55 = .ok (.invokevirtual 63, 3) := by decide +kernel
theorem dX12_reads_58 : decode cX12_reads 58 = .ok (.iload 5, 2) := by decide +kernel
theorem dX12_reads_60 : decode cX12_reads 60 = .ok (.invokestatic 81, 3) := by decide +kernel
theorem dX12_reads_63 : decode cX12_reads 63 = .ok (.ifCond .eq 22, 3) := by decide +kernel
theorem dX12_reads_66 : decode cX12_reads 66 = .ok (.iload_n 2, 1) := by decide +kernel
theorem dX12_reads_67 : decode cX12_reads 67 = .ok (.aload_n 0, 1) := by decide +kernel
theorem dX12_reads_68 : decode cX12_reads 68 = .ok (.iload 4, 2) := by decide +kernel
theorem dX12_reads_70 : decode cX12_reads 70 = .ok (.iload 5, 2) := by decide +kernel
theorem dX12_reads_72 : decode cX12_reads 72 = .ok (.invokevirtual 366, 3) := by decide +kernel
theorem dX12_reads_75 : decode cX12_reads 75 = .ok (.ifCond .eq 7, 3) := by decide +kernel
theorem dX12_reads_78 : decode cX12_reads 78 = .ok (.iconst 1, 1) := by decide +kernel
theorem dX12_reads_79 : decode cX12_reads 79 = .ok (.goto 4, 3) := by decide +kernel
theorem dX12_reads_82 : decode cX12_reads 82 = .ok (.iconst 0, 1) := by decide +kernel
theorem dX12_reads_83 : decode cX12_reads 83 = .ok (.iadd, 1) := by decide +kernel
theorem dX12_reads_84 : decode cX12_reads 84 = .ok (.istore_n 2, 1) := by decide +kernel
theorem dX12_reads_85 : decode cX12_reads 85 = .ok (.iinc 5 1, 3) := by decide +kernel
theorem dX12_reads_88 : decode cX12_reads 88 = .ok (.goto (-55), 3) := by decide +kernel
theorem dX12_reads_91 : decode cX12_reads 91 = .ok (.iinc 4 1, 3) := by decide +kernel
theorem dX12_reads_94 : decode cX12_reads 94 = .ok (.goto (-73), 3) := by decide +kernel
theorem dX12_reads_97 : decode cX12_reads 97 = .ok (.iload_n 2, 1) := by decide +kernel
theorem dX12_reads_98 : decode cX12_reads 98 = .ok (.ireturn, 1) := by decide +kernel
theorem dX12_shoots_0 : decode cX12_shoots 0 = .ok (.aload_n 0, 1) := by decide +kernel
theorem dX12_shoots_1 : decode cX12_shoots 1 = .ok (.iload_n 1, 1) := by decide +kernel
theorem dX12_shoots_2 : decode cX12_shoots 2 = .ok (.invokevirtual 346, 3) := by decide +kernel
theorem dX12_shoots_5 : decode cX12_shoots 5 = .ok (.istore_n 2, 1) := by decide +kernel
theorem dX12_shoots_6 : decode cX12_shoots 6 = .ok (.iload_n 2, 1) := by decide +kernel
theorem dX12_shoots_7 : decode cX12_shoots 7 = .ok (.ifCond .lt 18, 3) := by decide +kernel
theorem dX12_shoots_10 : decode cX12_shoots 10 = .ok (.aload_n 0, 1) := by decide +kernel
theorem dX12_shoots_11 : decode cX12_shoots 11 = .ok (.bipush 100, 2) := by decide +kernel
theorem dX12_shoots_13 : decode cX12_shoots 13 = .ok (.invokevirtual 369, 3) := by decide +kernel
theorem dX12_shoots_16 : decode cX12_shoots 16 = .ok (.aload_n 0, 1) := by decide +kernel
theorem dX12_shoots_17 : decode cX12_shoots 17 = .ok (.iconst 0, 1) := by decide +kernel
theorem dX12_shoots_18 : decode cX12_shoots 18 = .ok (.iload_n 1, 1) := by decide +kernel
theorem dX12_shoots_19 : decode cX12_shoots 19 = .ok (.invokevirtual 343, 3) := by decide +kernel
theorem dX12_shoots_22 : decode cX12_shoots 22 = .ok (.if_icmp .lt 4, 3) := by decide +kernel
theorem dX12_shoots_25 : decode cX12_shoots 25 = .ok (.return_, 1) := by decide +kernel
theorem dX12_shoots_26 : decode cX12_shoots 26 = .ok (.aload_n 0, 1) := by decide +kernel
theorem dX12_shoots_27 : decode cX12_shoots 27 = .ok (.iload_n 1, 1) := by decide +kernel
theorem dX12_shoots_28 : decode cX12_shoots 28 = .ok (.iload_n 2, 1) := by decide +kernel
theorem dX12_shoots_29 : decode cX12_shoots 29 = .ok (.aload_n 0, 1) := by decide +kernel
theorem dX12_shoots_30 : decode cX12_shoots 30 = .ok (.bipush 100, 2) := by decide +kernel
theorem dX12_shoots_32 : decode cX12_shoots 32 = .ok (.invokevirtual 369, 3) := by decide +kernel
theorem dX12_shoots_35 : decode cX12_shoots 35 = .ok (.aload_n 0, 1) := by decide +kernel
theorem dX12_shoots_36 : decode cX12_shoots 36 = .ok (.iconst 1, 1) := by decide +kernel
theorem dX12_shoots_37 : decode cX12_shoots 37 = .ok (.iload_n 1, 1) := by decide +kernel
theorem dX12_shoots_38 : decode cX12_shoots 38 = .ok (.invokevirtual 343, 3) := by decide +kernel
theorem dX12_shoots_41 : decode cX12_shoots 41 = .ok (.if_icmp .ge 7, 3) := by decide +kernel
theorem dX12_shoots_44 : decode cX12_shoots 44 = .ok (.iconst 1, 1) := by decide +kernel
theorem dX12_shoots_45 : decode cX12_shoots 45 = .ok (.goto 4, 3) := by decide +kernel
theorem dX12_shoots_48 : decode cX12_shoots 48 = .ok (.iconst 0, 1) := by decide +kernel
theorem dX12_shoots_49 : decode cX12_shoots 49 = .ok (.invokevirtual 372, 3) := by decide +kernel
theorem dX12_shoots_52 : decode cX12_shoots 52 = .ok (.pop, 1) := by decide +kernel
theorem dX12_shoots_53 : decode cX12_shoots 53 = .ok (.return_, 1) := by decide +kernel
theorem dX12_hour_0 : decode cX12_hour 0 = .ok (.iconst 0, 1) := by decide +kernel
theorem dX12_hour_1 : decode cX12_hour 1 = .ok (.istore_n 1, 1) := by decide +kernel
theorem dX12_hour_2 : decode cX12_hour 2 = .ok (.iload_n 1, 1) := by decide +kernel
theorem dX12_hour_3 : decode cX12_hour 3 = .ok (.aload_n 0, 1) := by decide +kernel
theorem dX12_hour_4 : decode cX12_hour 4 = .ok (.invokevirtual 75, 3) := by decide +kernel
theorem dX12_hour_7 : decode cX12_hour 7 = .ok (.if_icmp .ge 30, 3) := by decide +kernel
theorem dX12_hour_10 : decode cX12_hour 10 = .ok (.aload_n 0, 1) := by decide +kernel
theorem dX12_hour_11 : decode cX12_hour 11 = .ok (.iload_n 1, 1) := by decide +kernel
theorem dX12_hour_12 : decode cX12_hour 12 = .ok (.iconst 1, 1) := by decide +kernel
theorem dX12_hour_13 : decode cX12_hour 13 = .ok (.aload_n 0, 1) := by decide +kernel
theorem dX12_hour_14 : decode cX12_hour 14 = .ok (.iload_n 1, 1) := by decide +kernel
theorem dX12_hour_15 : decode cX12_hour 15 = .ok (.iconst 1, 1) := by decide +kernel
theorem dX12_hour_16 : decode cX12_hour 16 = .ok (.invokevirtual 63, 3) := by decide +kernel
theorem dX12_hour_19 : decode cX12_hour 19 = .ok (.iconst 1, 1) := by decide +kernel
theorem dX12_hour_20 : decode cX12_hour 20 = .ok (.iadd, 1) := by decide +kernel
theorem dX12_hour_21 : decode cX12_hour 21 = .ok (.aload_n 0, 1) := by decide +kernel
theorem dX12_hour_22 : decode cX12_hour 22 = .ok (.iload_n 1, 1) := by decide +kernel
theorem dX12_hour_23 : decode cX12_hour 23 = .ok (.iconst 2, 1) := by decide +kernel
theorem dX12_hour_24 : decode cX12_hour 24 = .ok (.invokevirtual 63, 3) := by decide +kernel
theorem dX12_hour_27 : decode cX12_hour 27 = .ok (.irem, 1) := by decide +kernel
theorem dX12_hour_28 : decode cX12_hour 28 = .ok (.invokevirtual 148, 3) := by decide +kernel
theorem dX12_hour_31 : decode cX12_hour 31 = .ok (.iinc 1 1, 3) := by decide +kernel
theorem dX12_hour_34 : decode cX12_hour 34 = .ok (.goto (-32), 3) := by decide +kernel
theorem dX12_hour_37 : decode cX12_hour 37 = .ok (.iconst 0, 1) := by decide +kernel
theorem dX12_hour_38 : decode cX12_hour 38 = .ok (.istore_n 1, 1) := by decide +kernel
theorem dX12_hour_39 : decode cX12_hour 39 = .ok (.iload_n 1, 1) := by decide +kernel
theorem dX12_hour_40 : decode cX12_hour 40 = .ok (.aload_n 0, 1) := by decide +kernel
theorem dX12_hour_41 : decode cX12_hour 41 = .ok (.invokevirtual 75, 3) := by decide +kernel
theorem dX12_hour_44 : decode cX12_hour 44 = .ok (.if_icmp .ge 14, 3) := by decide +kernel
theorem dX12_hour_47 : decode cX12_hour 47 = .ok (.aload_n 0, 1) := by decide +kernel
theorem dX12_hour_48 : decode cX12_hour 48 = .ok (.iload_n 1, 1) := by decide +kernel
theorem dX12_hour_49 : decode cX12_hour 49 = .ok (.invokevirtual 376, 3) := by decide +kernel
theorem dX12_hour_52 : decode cX12_hour 52 = .ok (.iinc 1 1, 3) := by decide +kernel
theorem dX12_hour_55 : decode cX12_hour 55 = .ok (.goto (-16), 3) := by decide +kernel
theorem dX12_hour_58 : decode cX12_hour 58 = .ok (.iconst 0, 1) := by decide +kernel
theorem dX12_hour_59 : decode cX12_hour 59 = .ok (.istore_n 1, 1) := by decide +kernel
theorem dX12_hour_60 : decode cX12_hour 60 = .ok (.iload_n 1, 1) := by decide +kernel
theorem dX12_hour_61 : decode cX12_hour 61 = .ok (.aload_n 0, 1) := by decide +kernel
theorem dX12_hour_62 : decode cX12_hour 62 = .ok (.invokevirtual 75, 3) := by decide +kernel
theorem dX12_hour_65 : decode cX12_hour 65 = .ok (.if_icmp .ge 35, 3) := by decide +kernel
theorem dX12_hour_68 : decode cX12_hour 68 = .ok (.aload_n 0, 1) := by decide +kernel
theorem dX12_hour_69 : decode cX12_hour 69 = .ok (.iload_n 1, 1) := by decide +kernel
theorem dX12_hour_70 : decode cX12_hour 70 = .ok (.bipush 22, 2) := by decide +kernel
theorem dX12_hour_72 : decode cX12_hour 72 = .ok (.invokevirtual 63, 3) := by decide +kernel
theorem dX12_hour_75 : decode cX12_hour 75 = .ok (.ifCond .eq 19, 3) := by decide +kernel
theorem dX12_hour_78 : decode cX12_hour 78 = .ok (.aload_n 0, 1) := by decide +kernel
theorem dX12_hour_79 : decode cX12_hour 79 = .ok (.iconst 2, 1) := by decide +kernel
theorem dX12_hour_80 : decode cX12_hour 80 = .ok (.iload_n 1, 1) := by decide +kernel
theorem dX12_hour_81 : decode cX12_hour 81 = .ok (.invokevirtual 343, 3) := by decide +kernel
theorem dX12_hour_84 : decode cX12_hour 84 = .ok (.iconst 1, 1) := by decide +kernel
theorem dX12_hour_85 : decode cX12_hour 85 = .ok (.if_icmp .ne 9, 3) := by decide +kernel
theorem dX12_hour_88 : decode cX12_hour 88 = .ok (.aload_n 0, 1) := by decide +kernel
theorem dX12_hour_89 : decode cX12_hour 89 = .ok (.iload_n 1, 1) := by decide +kernel
theorem dX12_hour_90 : decode cX12_hour 90 = .ok (.invokevirtual 379, 3) := by decide +kernel
theorem dX12_hour_93 : decode cX12_hour 93 = .ok (.pop, 1) := by decide +kernel
theorem dX12_hour_94 : decode cX12_hour 94 = .ok (.iinc 1 1, 3) := by decide +kernel
theorem dX12_hour_97 : decode cX12_hour 97 = .ok (.goto (-37), 3) := by decide +kernel
theorem dX12_hour_100 : decode cX12_hour 100 = .ok (.aload_n 0, 1) := by decide +kernel
theorem dX12_hour_101 : decode cX12_hour 101 = .ok (.getfield 13, 3) := by decide +kernel
theorem dX12_hour_104 : decode cX12_hour 104 = .ok (.iconst 5, 1) := by decide +kernel
theorem dX12_hour_105 : decode cX12_hour 105 = .ok (.dup2, 1) := by decide +kernel
theorem dX12_hour_106 : decode cX12_hour 106 = .ok (.iaload, 1) := by decide +kernel
theorem dX12_hour_107 : decode cX12_hour 107 = .ok (.iconst 1, 1) := by decide +kernel
theorem dX12_hour_108 : decode cX12_hour 108 = .ok (.iadd, 1) := by decide +kernel
theorem dX12_hour_109 : decode cX12_hour 109 = .ok (.iastore, 1) := by decide +kernel
theorem dX12_hour_110 : decode cX12_hour 110 = .ok (.return_, 1) := by decide +kernel
theorem dX12_hours_0 : decode cX12_hours 0 = .ok (.aload_n 0, 1) := by decide +kernel
theorem dX12_hours_1 : decode cX12_hours 1 = .ok (.iconst 0, 1) := by decide +kernel
theorem dX12_hours_2 : decode cX12_hours 2 = .ok (.putfield 3, 3) := by decide +kernel
theorem dX12_hours_5 : decode cX12_hours 5 = .ok (.aload_n 0, 1) := by decide +kernel
theorem dX12_hours_6 : decode cX12_hours 6 = .ok (.iload_n 1, 1) := by decide +kernel
theorem dX12_hours_7 : decode cX12_hours 7 = .ok (.iconst 1, 1) := by decide +kernel
theorem dX12_hours_8 : decode cX12_hours 8 = .ok (.bipush 60, 2) := by decide +kernel
theorem dX12_hours_10 : decode cX12_hours 10 = .ok (.invokestatic 71, 3) := by decide +kernel
theorem dX12_hours_13 : decode cX12_hours 13 = .ok (.ifCond .ne 7, 3) := by decide +kernel
theorem dX12_hours_16 : decode cX12_hours 16 = .ok (.iconst 1, 1) := by decide +kernel
theorem dX12_hours_17 : decode cX12_hours 17 = .ok (.goto 4, 3) := by decide +kernel
theorem dX12_hours_20 : decode cX12_hours 20 = .ok (.iconst 0, 1) := by decide +kernel
theorem dX12_hours_21 : decode cX12_hours 21 = .ok (.iconst 1, 1) := by decide +kernel
theorem dX12_hours_22 : decode cX12_hours 22 = .ok (.invokevirtual 269, 3) := by decide +kernel
theorem dX12_hours_25 : decode cX12_hours 25 = .ok (.ifCond .eq 5, 3) := by decide +kernel
theorem dX12_hours_28 : decode cX12_hours 28 = .ok (.iconst 0, 1) := by decide +kernel
theorem dX12_hours_29 : decode cX12_hours 29 = .ok (.ireturn, 1) := by decide +kernel
theorem dX12_hours_30 : decode cX12_hours 30 = .ok (.aload_n 0, 1) := by decide +kernel
theorem dX12_hours_31 : decode cX12_hours 31 = .ok (.invokevirtual 382, 3) := by decide +kernel
theorem dX12_hours_34 : decode cX12_hours 34 = .ok (.aload_n 0, 1) := by decide +kernel
theorem dX12_hours_35 : decode cX12_hours 35 = .ok (.getfield 13, 3) := by decide +kernel
theorem dX12_hours_38 : decode cX12_hours 38 = .ok (.bipush 7, 2) := by decide +kernel
theorem dX12_hours_40 : decode cX12_hours 40 = .ok (.iaload, 1) := by decide +kernel
theorem dX12_hours_41 : decode cX12_hours 41 = .ok (.istore_n 2, 1) := by decide +kernel
theorem dX12_hours_42 : decode cX12_hours 42 = .ok (.iconst 0, 1) := by decide +kernel
theorem dX12_hours_43 : decode cX12_hours 43 = .ok (.istore_n 3, 1) := by decide +kernel
theorem dX12_hours_44 : decode cX12_hours 44 = .ok (.iload_n 3, 1) := by decide +kernel
theorem dX12_hours_45 : decode cX12_hours 45 = .ok (.iload_n 1, 1) := by decide +kernel
theorem dX12_hours_46 : decode cX12_hours 46 = .ok (.if_icmp .ge 13, 3) := by decide +kernel
theorem dX12_hours_49 : decode cX12_hours 49 = .ok (.aload_n 0, 1) := by decide +kernel
theorem dX12_hours_50 : decode cX12_hours 50 = .ok (.invokevirtual 385, 3) := by decide +kernel
theorem dX12_hours_53 : decode cX12_hours 53 = .ok (.iinc 3 1, 3) := by decide +kernel
theorem dX12_hours_56 : decode cX12_hours 56 = .ok (.goto (-12), 3) := by decide +kernel
theorem dX12_hours_59 : decode cX12_hours 59 = .ok (.aload_n 0, 1) := by decide +kernel
theorem dX12_hours_60 : decode cX12_hours 60 = .ok (.getfield 13, 3) := by decide +kernel
theorem dX12_hours_63 : decode cX12_hours 63 = .ok (.bipush 7, 2) := by decide +kernel
theorem dX12_hours_65 : decode cX12_hours 65 = .ok (.iaload, 1) := by decide +kernel
theorem dX12_hours_66 : decode cX12_hours 66 = .ok (.iload_n 2, 1) := by decide +kernel
theorem dX12_hours_67 : decode cX12_hours 67 = .ok (.isub, 1) := by decide +kernel
theorem dX12_hours_68 : decode cX12_hours 68 = .ok (.ireturn, 1) := by decide +kernel
theorem dX12_shoot_0 : decode cX12_shoot 0 = .ok (.aload_n 0, 1) := by decide +kernel
theorem dX12_shoot_1 : decode cX12_shoot 1 = .ok (.iconst 0, 1) := by decide +kernel
theorem dX12_shoot_2 : decode cX12_shoot 2 = .ok (.putfield 3, 3) := by decide +kernel
theorem dX12_shoot_5 : decode cX12_shoot 5 = .ok (.aload_n 0, 1) := by decide +kernel
theorem dX12_shoot_6 : decode cX12_shoot 6 = .ok (.aload_n 0, 1) := by decide +kernel
theorem dX12_shoot_7 : decode cX12_shoot 7 = .ok (.iload_n 1, 1) := by decide +kernel
theorem dX12_shoot_8 : decode cX12_shoot 8 = .ok (.invokevirtual 322, 3) := by decide +kernel
theorem dX12_shoot_11 : decode cX12_shoot 11 = .ok (.ifCond .ne 11, 3) := by decide +kernel
theorem dX12_shoot_14 : decode cX12_shoot 14 = .ok (.aload_n 0, 1) := by decide +kernel
theorem dX12_shoot_15 : decode cX12_shoot 15 = .ok (.iload_n 2, 1) := by decide +kernel
theorem dX12_shoot_16 : decode cX12_shoot 16 = .ok (.invokevirtual 322, 3) := by decide +kernel
theorem dX12_shoot_19 : decode cX12_shoot 19 = .ok (.ifCond .eq 7, 3) := by decide +kernel
theorem dX12_shoot_22 : decode cX12_shoot 22 = .ok (.iconst 1, 1) := by decide +kernel
theorem dX12_shoot_23 : decode cX12_shoot 23 = .ok (.goto 4, 3) := by decide +kernel
theorem dX12_shoot_26 : decode cX12_shoot 26 = .ok (.iconst 0, 1) := by decide +kernel
theorem dX12_shoot_27 : decode cX12_shoot 27 = .ok (.iconst 1, 1) := by decide +kernel
theorem dX12_shoot_28 : decode cX12_shoot 28 = .ok (.invokevirtual 269, 3) := by decide +kernel
theorem dX12_shoot_31 : decode cX12_shoot 31 = .ok (.ifCond .ne 21, 3) := by decide +kernel
theorem dX12_shoot_34 : decode cX12_shoot 34 = .ok (.aload_n 0, 1) := by decide +kernel
theorem dX12_shoot_35 : decode cX12_shoot 35 = .ok (.iload_n 1, 1) := by decide +kernel
theorem dX12_shoot_36 : decode cX12_shoot 36 = .ok (.iload_n 2, 1) := by decide +kernel
theorem dX12_shoot_37 : decode cX12_shoot 37 = .ok (.if_icmp .ne 7, 3) := by decide +kernel
theorem dX12_shoot_40 : decode cX12_shoot 40 = .ok (.iconst 1, 1) := by decide +kernel
theorem dX12_shoot_41 : decode cX12_shoot 41 = .ok (.goto 4, 3) := by decide +kernel
theorem dX12_shoot_44 : decode cX12_shoot 44 = .ok (.iconst 0, 1) := by decide +kernel
theorem dX12_shoot_45 : decode cX12_shoot 45 = .ok (.iconst 2, 1) := by decide +kernel
theorem dX12_shoot_46 : decode cX12_shoot 46 = .ok (.invokevirtual 269, 3) := by decide +kernel
theorem dX12_shoot_49 : decode cX12_shoot 49 = .ok (.ifCond .eq 5, 3) := by decide +kernel
theorem dX12_shoot_52 : decode cX12_shoot 52 = .ok (.iconst 0, 1) := by decide +kernel
theorem dX12_shoot_53 : decode cX12_shoot 53 = .ok (.ireturn, 1) := by decide +kernel
theorem dX12_shoot_54 : decode cX12_shoot 54 = .ok (.aload_n 0, 1) := by decide +kernel
theorem dX12_shoot_55 : decode cX12_shoot 55 = .ok (.iload_n 1, 1) := by decide +kernel
theorem dX12_shoot_56 : decode cX12_shoot 56 = .ok (.iconst 0, 1) := by decide +kernel
theorem dX12_shoot_57 : decode cX12_shoot 57 = .ok (.invokevirtual 63, 3) := by decide +kernel
theorem dX12_shoot_60 : decode cX12_shoot 60 = .ok (.aload_n 0, 1) := by decide +kernel
theorem dX12_shoot_61 : decode cX12_shoot 61 = .ok (.iload_n 2, 1) := by decide +kernel
theorem dX12_shoot_62 : decode cX12_shoot 62 = .ok (.iconst 0, 1) := by decide +kernel
theorem dX12_shoot_63 : decode cX12_shoot 63 = .ok (.invokevirtual 63, 3) := by decide +kernel
theorem dX12_shoot_66 : decode cX12_shoot 66 = .ok (.if_icmp .eq 30, 3) := by decide +kernel
theorem dX12_shoot_69 : decode cX12_shoot 69 = .ok (.aload_n 0, 1) := by decide +kernel
theorem dX12_shoot_70 : decode cX12_shoot 70 = .ok (.iload_n 1, 1) := by decide +kernel
theorem dX12_shoot_71 : decode cX12_shoot 71 = .ok (.invokevirtual 272, 3) := by decide +kernel
theorem dX12_shoot_74 : decode cX12_shoot 74 = .ok (.aload_n 0, 1) := by decide +kernel
theorem dX12_shoot_75 : decode cX12_shoot 75 = .ok (.iload_n 2, 1) := by decide +kernel
theorem dX12_shoot_76 : decode cX12_shoot 76 = .ok (.invokevirtual 272, 3) := by decide +kernel
theorem dX12_shoot_79 : decode cX12_shoot 79 = .ok (.if_icmp .ne 17, 3) := by decide +kernel
theorem dX12_shoot_82 : decode cX12_shoot 82 = .ok (.aload_n 0, 1) := by decide +kernel
theorem dX12_shoot_83 : decode cX12_shoot 83 = .ok (.iload_n 2, 1) := by decide +kernel
theorem dX12_shoot_84 : decode cX12_shoot 84 = .ok (.bipush 9, 2) := by decide +kernel
theorem dX12_shoot_86 : decode cX12_shoot 86 = .ok (.invokevirtual 63, 3) := by decide +kernel
theorem dX12_shoot_89 : decode cX12_shoot 89 = .ok (.ifCond .le 7, 3) := by decide +kernel
theorem dX12_shoot_92 : decode cX12_shoot 92 = .ok (.iconst 1, 1) := by decide +kernel
theorem dX12_shoot_93 : decode cX12_shoot 93 = .ok (.goto 4, 3) := by decide +kernel
theorem dX12_shoot_96 : decode cX12_shoot 96 = .ok (.iconst 0, 1) := by decide +kernel
theorem dX12_shoot_97 : decode cX12_shoot 97 = .ok (.istore 4, 2) := by decide +kernel
theorem dX12_shoot_99 : decode cX12_shoot 99 = .ok (.aload_n 0, 1) := by decide +kernel
theorem dX12_shoot_100 : decode cX12_shoot 100 = .ok (.iload 4, 2) := by decide +kernel
theorem dX12_shoot_102 : decode cX12_shoot 102 = .ok (.ifCond .ne 7, 3) := by decide +kernel
theorem dX12_shoot_105 : decode cX12_shoot 105 = .ok (.iconst 1, 1) := by decide +kernel
theorem dX12_shoot_106 : decode cX12_shoot 106 = .ok (.goto 4, 3) := by decide +kernel
theorem dX12_shoot_109 : decode cX12_shoot 109 = .ok (.iconst 0, 1) := by decide +kernel
theorem dX12_shoot_110 : decode cX12_shoot 110 = .ok (.iconst 3, 1) := by decide +kernel
theorem dX12_shoot_111 : decode cX12_shoot 111 = .ok (.invokevirtual 269, 3) := by decide +kernel
theorem dX12_shoot_114 : decode cX12_shoot 114 = .ok (.ifCond .eq 5, 3) := by decide +kernel
theorem dX12_shoot_117 : decode cX12_shoot 117 = .ok (.iconst 0, 1) := by decide +kernel
theorem dX12_shoot_118 : decode cX12_shoot 118 = .ok (.ireturn, 1) := by decide +kernel
theorem dX12_shoot_119 : decode cX12_shoot 119 = .ok (.aload_n 0, 1) := by decide +kernel
theorem dX12_shoot_120 : decode cX12_shoot 120 = .ok (.invokevirtual 382, 3) := by decide +kernel
theorem dX12_shoot_123 : decode cX12_shoot 123 = .ok (.aload_n 0, 1) := by decide +kernel
theorem dX12_shoot_124 : decode cX12_shoot 124 = .ok (.iload_n 1, 1) := by decide +kernel
theorem dX12_shoot_125 : decode cX12_shoot 125 = .ok (.iload_n 2, 1) := by decide +kernel
theorem dX12_shoot_126 : decode cX12_shoot 126 = .ok (.iload_n 3, 1) := by decide +kernel
theorem dX12_shoot_127 : decode cX12_shoot 127 = .ok (.invokevirtual 372, 3) := by decide +kernel
theorem dX12_shoot_130 : decode cX12_shoot 130 = .ok (.ireturn, 1) := by decide +kernel
theorem dX12_teach_0 : decode cX12_teach 0 = .ok (.aload_n 0, 1) := by decide +kernel
theorem dX12_teach_1 : decode cX12_teach 1 = .ok (.iconst 0, 1) := by decide +kernel
theorem dX12_teach_2 : decode cX12_teach 2 = .ok (.putfield 3, 3) := by decide +kernel
theorem dX12_teach_5 : decode cX12_teach 5 = .ok (.aload_n 0, 1) := by decide +kernel
theorem dX12_teach_6 : decode cX12_teach 6 = .ok (.aload_n 0, 1) := by decide +kernel
theorem dX12_teach_7 : decode cX12_teach 7 = .ok (.iload_n 1, 1) := by decide +kernel
theorem dX12_teach_8 : decode cX12_teach 8 = .ok (.invokevirtual 322, 3) := by decide +kernel
theorem dX12_teach_11 : decode cX12_teach 11 = .ok (.ifCond .ne 19, 3) := by decide +kernel
theorem dX12_teach_14 : decode cX12_teach 14 = .ok (.aload_n 0, 1) := by decide +kernel
theorem dX12_teach_15 : decode cX12_teach 15 = .ok (.iload_n 2, 1) := by decide +kernel
theorem dX12_teach_16 : decode cX12_teach 16 = .ok (.invokevirtual 322, 3) := by decide +kernel
theorem dX12_teach_19 : decode cX12_teach 19 = .ok (.ifCond .ne 11, 3) := by decide +kernel
theorem dX12_teach_22 : decode cX12_teach 22 = .ok (.aload_n 0, 1) := by decide +kernel
theorem dX12_teach_23 : decode cX12_teach 23 = .ok (.iload_n 3, 1) := by decide +kernel
theorem dX12_teach_24 : decode cX12_teach 24 = .ok (.invokevirtual 304, 3) := by decide +kernel
theorem dX12_teach_27 : decode cX12_teach 27 = .ok (.ifCond .eq 7, 3) := by decide +kernel
theorem dX12_teach_30 : decode cX12_teach 30 = .ok (.iconst 1, 1) := by decide +kernel
theorem dX12_teach_31 : decode cX12_teach 31 = .ok (.goto 4, 3) := by decide +kernel
theorem dX12_teach_34 : decode cX12_teach 34 = .ok (.iconst 0, 1) := by decide +kernel
theorem dX12_teach_35 : decode cX12_teach 35 = .ok (.iconst 1, 1) := by decide +kernel
theorem dX12_teach_36 : decode cX12_teach 36 = .ok (.invokevirtual 269, 3) := by decide +kernel
theorem dX12_teach_39 : decode cX12_teach 39 = .ok (.ifCond .ne 21, 3) := by decide +kernel
theorem dX12_teach_42 : decode cX12_teach 42 = .ok (.aload_n 0, 1) := by decide +kernel
theorem dX12_teach_43 : decode cX12_teach 43 = .ok (.iload_n 1, 1) := by decide +kernel
theorem dX12_teach_44 : decode cX12_teach 44 = .ok (.iload_n 2, 1) := by decide +kernel
theorem dX12_teach_45 : decode cX12_teach 45 = .ok (.if_icmp .ne 7, 3) := by decide +kernel
theorem dX12_teach_48 : decode cX12_teach 48 = .ok (.iconst 1, 1) := by decide +kernel
theorem dX12_teach_49 : decode cX12_teach 49 = .ok (.goto 4, 3) := by decide +kernel
theorem dX12_teach_52 : decode cX12_teach 52 = .ok (.iconst 0, 1) := by decide +kernel
theorem dX12_teach_53 : decode cX12_teach 53 = .ok (.iconst 2, 1) := by decide +kernel
theorem dX12_teach_54 : decode cX12_teach 54 = .ok (.invokevirtual 269, 3) := by decide +kernel
theorem dX12_teach_57 : decode cX12_teach 57 = .ok (.ifCond .eq 5, 3) := by decide +kernel
theorem dX12_teach_60 : decode cX12_teach 60 = .ok (.iconst 0, 1) := by decide +kernel
theorem dX12_teach_61 : decode cX12_teach 61 = .ok (.ireturn, 1) := by decide +kernel
theorem dX12_teach_62 : decode cX12_teach 62 = .ok (.aload_n 0, 1) := by decide +kernel
theorem dX12_teach_63 : decode cX12_teach 63 = .ok (.iload_n 1, 1) := by decide +kernel
theorem dX12_teach_64 : decode cX12_teach 64 = .ok (.iconst 0, 1) := by decide +kernel
theorem dX12_teach_65 : decode cX12_teach 65 = .ok (.invokevirtual 63, 3) := by decide +kernel
theorem dX12_teach_68 : decode cX12_teach 68 = .ok (.aload_n 0, 1) := by decide +kernel
theorem dX12_teach_69 : decode cX12_teach 69 = .ok (.iload_n 2, 1) := by decide +kernel
theorem dX12_teach_70 : decode cX12_teach 70 = .ok (.iconst 0, 1) := by decide +kernel
theorem dX12_teach_71 : decode cX12_teach 71 = .ok (.invokevirtual 63, 3) := by decide +kernel
theorem dX12_teach_74 : decode cX12_teach 74 = .ok (.if_icmp .ne 41, 3) := by decide +kernel
theorem dX12_teach_77 : decode cX12_teach 77 = .ok (.aload_n 0, 1) := by decide +kernel
theorem dX12_teach_78 : decode cX12_teach 78 = .ok (.iload_n 1, 1) := by decide +kernel
theorem dX12_teach_79 : decode cX12_teach 79 = .ok (.invokevirtual 272, 3) := by decide +kernel
theorem dX12_teach_82 : decode cX12_teach 82 = .ok (.aload_n 0, 1) := by decide +kernel
theorem dX12_teach_83 : decode cX12_teach 83 = .ok (.iload_n 2, 1) := by decide +kernel
theorem dX12_teach_84 : decode cX12_teach 84 = .ok (.invokevirtual 272, 3) := by decide +kernel
theorem dX12_teach_87 : decode cX12_teach 87 = .ok (.if_icmp .ne 28, 3) := by decide +kernel
theorem dX12_teach_90 : decode cX12_teach 90 = .ok (.aload_n 0, 1) := by decide +kernel
theorem dX12_teach_91 : decode cX12_teach 91 = .ok (.iload_n 2, 1) := by decide +kernel
theorem dX12_teach_92 : decode cX12_teach 92 = .ok (.invokevirtual 275, 3) := by decide +kernel
theorem dX12_teach_95 : decode cX12_teach 95 = .ok (.iload_n 3, 1) := by decide +kernel
theorem dX12_teach_96 : decode cX12_teach 96 = .ok (.invokestatic 81, 3) := by decide +kernel
theorem dX12_teach_99 : decode cX12_teach 99 = .ok (.ifCond .eq 16, 3) := by decide +kernel
theorem dX12_teach_102 : decode cX12_teach 102 = .ok (.aload_n 0, 1) := by decide +kernel
theorem dX12_teach_103 : decode cX12_teach 103 = .ok (.iload_n 1, 1) := by decide +kernel
theorem dX12_teach_104 : decode cX12_teach 104 = .ok (.iload_n 3, 1) := by decide +kernel
theorem dX12_teach_105 : decode cX12_teach 105 = .ok (.invokevirtual 363, 3) := by decide +kernel
theorem dX12_teach_108 : decode cX12_teach 108 = .ok (.ifCond .eq 7, 3) := by decide +kernel
theorem dX12_teach_111 : decode cX12_teach 111 = .ok (.iconst 1, 1) := by decide +kernel
theorem dX12_teach_112 : decode cX12_teach 112 = .ok (.goto 4, 3) := by decide +kernel
theorem dX12_teach_115 : decode cX12_teach 115 = .ok (.iconst 0, 1) := by decide +kernel
theorem dX12_teach_116 : decode cX12_teach 116 = .ok (.istore 4, 2) := by decide +kernel
theorem dX12_teach_118 : decode cX12_teach 118 = .ok (.aload_n 0, 1) := by decide +kernel
theorem dX12_teach_119 : decode cX12_teach 119 = .ok (.iload 4, 2) := by decide +kernel
theorem dX12_teach_121 : decode cX12_teach 121 = .ok (.ifCond .ne 7, 3) := by decide +kernel
theorem dX12_teach_124 : decode cX12_teach 124 = .ok (.iconst 1, 1) := by decide +kernel
theorem dX12_teach_125 : decode cX12_teach 125 = .ok (.goto 4, 3) := by decide +kernel
theorem dX12_teach_128 : decode cX12_teach 128 = .ok (.iconst 0, 1) := by decide +kernel
theorem dX12_teach_129 : decode cX12_teach 129 = .ok (.iconst 3, 1) := by decide +kernel
theorem dX12_teach_130 : decode cX12_teach 130 = .ok (.invokevirtual 269, 3) := by decide +kernel
theorem dX12_teach_133 : decode cX12_teach 133 = .ok (.ifCond .eq 5, 3) := by decide +kernel
theorem dX12_teach_136 : decode cX12_teach 136 = .ok (.iconst 0, 1) := by decide +kernel
theorem dX12_teach_137 : decode cX12_teach 137 = .ok (.ireturn, 1) := by decide +kernel
theorem dX12_teach_138 : decode cX12_teach 138 = .ok (.aload_n 0, 1) := by decide +kernel
theorem dX12_teach_139 : decode cX12_teach 139 = .ok (.invokevirtual 382, 3) := by decide +kernel
theorem dX12_teach_142 : decode cX12_teach 142 = .ok (.aload_n 0, 1) := by decide +kernel
theorem dX12_teach_143 : decode cX12_teach 143 = .ok (.iload_n 1, 1) := by decide +kernel
theorem dX12_teach_144 : decode cX12_teach 144 = .ok (.iload_n 3, 1) := by decide +kernel
theorem dX12_teach_145 : decode cX12_teach 145 = .ok (.invokevirtual 366, 3) := by decide +kernel
theorem dX12_teach_148 : decode cX12_teach 148 = .ok (.pop, 1) := by decide +kernel
theorem dX12_teach_149 : decode cX12_teach 149 = .ok (.aload_n 0, 1) := by decide +kernel
theorem dX12_teach_150 : decode cX12_teach 150 = .ok (.iload_n 1, 1) := by decide +kernel
theorem dX12_teach_151 : decode cX12_teach 151 = .ok (.bipush 9, 2) := by decide +kernel
theorem dX12_teach_153 : decode cX12_teach 153 = .ok (.invokevirtual 63, 3) := by decide +kernel
theorem dX12_teach_156 : decode cX12_teach 156 = .ok (.ireturn, 1) := by decide +kernel
theorem dX12_gather_0 : decode cX12_gather 0 = .ok (.aload_n 0, 1) := by decide +kernel
theorem dX12_gather_1 : decode cX12_gather 1 = .ok (.iconst 0, 1) := by decide +kernel
theorem dX12_gather_2 : decode cX12_gather 2 = .ok (.putfield 3, 3) := by decide +kernel
theorem dX12_gather_5 : decode cX12_gather 5 = .ok (.aload_n 0, 1) := by decide +kernel
theorem dX12_gather_6 : decode cX12_gather 6 = .ok (.aload_n 0, 1) := by decide +kernel
theorem dX12_gather_7 : decode cX12_gather 7 = .ok (.iload_n 1, 1) := by decide +kernel
theorem dX12_gather_8 : decode cX12_gather 8 = .ok (.invokevirtual 322, 3) := by decide +kernel
theorem dX12_gather_11 : decode cX12_gather 11 = .ok (.ifCond .ne 20, 3) := by decide +kernel
theorem dX12_gather_14 : decode cX12_gather 14 = .ok (.iload_n 2, 1) := by decide +kernel
theorem dX12_gather_15 : decode cX12_gather 15 = .ok (.iconst 0, 1) := by decide +kernel
theorem dX12_gather_16 : decode cX12_gather 16 = .ok (.aload_n 0, 1) := by decide +kernel
theorem dX12_gather_17 : decode cX12_gather 17 = .ok (.getfield 13, 3) := by decide +kernel
theorem dX12_gather_20 : decode cX12_gather 20 = .ok (.bipush 6, 2) := by decide +kernel
theorem dX12_gather_22 : decode cX12_gather 22 = .ok (.iaload, 1) := by decide +kernel
theorem dX12_gather_23 : decode cX12_gather 23 = .ok (.iconst 1, 1) := by decide +kernel
theorem dX12_gather_24 : decode cX12_gather 24 = .ok (.isub, 1) := by decide +kernel
theorem dX12_gather_25 : decode cX12_gather 25 = .ok (.invokestatic 71, 3) := by decide +kernel
theorem dX12_gather_28 : decode cX12_gather 28 = .ok (.ifCond .ne 7, 3) := by decide +kernel
theorem dX12_gather_31 : decode cX12_gather 31 = .ok (.iconst 1, 1) := by decide +kernel
theorem dX12_gather_32 : decode cX12_gather 32 = .ok (.goto 4, 3) := by decide +kernel
theorem dX12_gather_35 : decode cX12_gather 35 = .ok (.iconst 0, 1) := by decide +kernel
theorem dX12_gather_36 : decode cX12_gather 36 = .ok (.iconst 1, 1) := by decide +kernel
theorem dX12_gather_37 : decode cX12_gather 37 = .ok (.invokevirtual 269, 3) := by decide +kernel
theorem dX12_gather_40 : decode cX12_gather 40 = .ok (.ifCond .eq 5, 3) := by decide +kernel
theorem dX12_gather_43 : decode cX12_gather 43 = .ok (.iconst 0, 1) := by decide +kernel
theorem dX12_gather_44 : decode cX12_gather 44 = .ok (.ireturn, 1) := by decide +kernel
theorem dX12_gather_45 : decode cX12_gather 45 = .ok (.aload_n 0, 1) := by decide +kernel
theorem dX12_gather_46 : decode cX12_gather 46 = .ok (.iload_n 2, 1) := by decide +kernel
theorem dX12_gather_47 : decode cX12_gather 47 = .ok (.iconst 0, 1) := by decide +kernel
theorem dX12_gather_48 : decode cX12_gather 48 = .ok (.invokevirtual 301, 3) := by decide +kernel
theorem dX12_gather_51 : decode cX12_gather 51 = .ok (.istore_n 3, 1) := by decide +kernel
theorem dX12_gather_52 : decode cX12_gather 52 = .ok (.aload_n 0, 1) := by decide +kernel
theorem dX12_gather_53 : decode cX12_gather 53 = .ok (.aload_n 0, 1) := by decide +kernel
theorem dX12_gather_54 : decode cX12_gather 54 = .ok (.iload_n 2, 1) := by decide +kernel
theorem dX12_gather_55 : decode cX12_gather 55 = .ok (.iconst 1, 1) := by decide +kernel
theorem dX12_gather_56 : decode cX12_gather 56 = .ok (.invokevirtual 301, 3) := by decide +kernel
theorem dX12_gather_59 : decode cX12_gather 59 = .ok (.aload_n 0, 1) := by decide +kernel
theorem dX12_gather_60 : decode cX12_gather 60 = .ok (.iload_n 1, 1) := by decide +kernel
theorem dX12_gather_61 : decode cX12_gather 61 = .ok (.invokevirtual 272, 3) := by decide +kernel
theorem dX12_gather_64 : decode cX12_gather 64 = .ok (.if_icmp .ne 12, 3) := by decide +kernel
theorem dX12_gather_67 : decode cX12_gather 67 = .ok (.aload_n 0, 1) := by decide +kernel
theorem dX12_gather_68 : decode cX12_gather 68 = .ok (.iload_n 1, 1) := by decide +kernel
theorem dX12_gather_69 : decode cX12_gather 69 = .ok (.iload_n 3, 1) := by decide +kernel
theorem dX12_gather_70 : decode cX12_gather 70 = .ok (.invokevirtual 363, 3) := by decide +kernel
theorem dX12_gather_73 : decode cX12_gather 73 = .ok (.ifCond .ne 7, 3) := by decide +kernel
theorem dX12_gather_76 : decode cX12_gather 76 = .ok (.iconst 1, 1) := by decide +kernel
theorem dX12_gather_77 : decode cX12_gather 77 = .ok (.goto 4, 3) := by decide +kernel
theorem dX12_gather_80 : decode cX12_gather 80 = .ok (.iconst 0, 1) := by decide +kernel
theorem dX12_gather_81 : decode cX12_gather 81 = .ok (.iconst 2, 1) := by decide +kernel
theorem dX12_gather_82 : decode cX12_gather 82 = .ok (.invokevirtual 269, 3) := by decide +kernel
theorem dX12_gather_85 : decode cX12_gather 85 = .ok (.ifCond .eq 5, 3) := by decide +kernel
theorem dX12_gather_88 : decode cX12_gather 88 = .ok (.iconst 0, 1) := by decide +kernel
theorem dX12_gather_89 : decode cX12_gather 89 = .ok (.ireturn, 1) := by decide +kernel
theorem dX12_gather_90 : decode cX12_gather 90 = .ok (.aload_n 0, 1) := by decide +kernel
theorem dX12_gather_91 : decode cX12_gather 91 = .ok (.invokevirtual 382, 3) := by decide +kernel
theorem dX12_gather_94 : decode cX12_gather 94 = .ok (.aload_n 0, 1) := by decide +kernel
theorem dX12_gather_95 : decode cX12_gather 95 = .ok (.iload_n 1, 1) := by decide +kernel
theorem dX12_gather_96 : decode cX12_gather 96 = .ok (.iload_n 3, 1) := by decide +kernel
theorem dX12_gather_97 : decode cX12_gather 97 = .ok (.invokevirtual 366, 3) := by decide +kernel
theorem dX12_gather_100 : decode cX12_gather 100 = .ok (.pop, 1) := by decide +kernel
theorem dX12_gather_101 : decode cX12_gather 101 = .ok (.aload_n 0, 1) := by decide +kernel
theorem dX12_gather_102 : decode cX12_gather 102 = .ok (.iload_n 2, 1) := by decide +kernel
theorem dX12_gather_103 : decode cX12_gather 103 = .ok (.invokevirtual 349, 3) := by decide +kernel
theorem dX12_gather_106 : decode cX12_gather 106 = .ok (.iload_n 3, 1) := by decide +kernel
theorem dX12_gather_107 : decode cX12_gather 107 = .ok (.ireturn, 1) := by decide +kernel
theorem dX12_read_0 : decode cX12_read 0 = .ok (.aload_n 0, 1) := by decide +kernel
theorem dX12_read_1 : decode cX12_read 1 = .ok (.iconst 0, 1) := by decide +kernel
theorem dX12_read_2 : decode cX12_read 2 = .ok (.putfield 3, 3) := by decide +kernel
theorem dX12_read_5 : decode cX12_read 5 = .ok (.aload_n 0, 1) := by decide +kernel
theorem dX12_read_6 : decode cX12_read 6 = .ok (.aload_n 0, 1) := by decide +kernel
theorem dX12_read_7 : decode cX12_read 7 = .ok (.iload_n 1, 1) := by decide +kernel
theorem dX12_read_8 : decode cX12_read 8 = .ok (.invokevirtual 322, 3) := by decide +kernel
theorem dX12_read_11 : decode cX12_read 11 = .ok (.iconst 1, 1) := by decide +kernel
theorem dX12_read_12 : decode cX12_read 12 = .ok (.invokevirtual 269, 3) := by decide +kernel
theorem dX12_read_15 : decode cX12_read 15 = .ok (.ifCond .ne 26, 3) := by decide +kernel
theorem dX12_read_18 : decode cX12_read 18 = .ok (.aload_n 0, 1) := by decide +kernel
theorem dX12_read_19 : decode cX12_read 19 = .ok (.aload_n 0, 1) := by decide +kernel
theorem dX12_read_20 : decode cX12_read 20 = .ok (.iload_n 1, 1) := by decide +kernel
theorem dX12_read_21 : decode cX12_read 21 = .ok (.bipush 22, 2) := by decide +kernel
theorem dX12_read_23 : decode cX12_read 23 = .ok (.invokevirtual 63, 3) := by decide +kernel
theorem dX12_read_26 : decode cX12_read 26 = .ok (.ifCond .ne 7, 3) := by decide +kernel
theorem dX12_read_29 : decode cX12_read 29 = .ok (.iconst 1, 1) := by decide +kernel
theorem dX12_read_30 : decode cX12_read 30 = .ok (.goto 4, 3) := by decide +kernel
theorem dX12_read_33 : decode cX12_read 33 = .ok (.iconst 0, 1) := by decide +kernel
theorem dX12_read_34 : decode cX12_read 34 = .ok (.iconst 2, 1) := by decide +kernel
theorem dX12_read_35 : decode cX12_read 35 = .ok (.invokevirtual 269, 3) := by decide +kernel
theorem dX12_read_38 : decode cX12_read 38 = .ok (.ifCond .eq 5, 3) := by decide +kernel
theorem dX12_read_41 : decode cX12_read 41 = .ok (.iconst 0, 1) := by decide +kernel
theorem dX12_read_42 : decode cX12_read 42 = .ok (.ireturn, 1) := by decide +kernel
theorem dX12_read_43 : decode cX12_read 43 = .ok (.aload_n 0, 1) := by decide +kernel
theorem dX12_read_44 : decode cX12_read 44 = .ok (.invokevirtual 382, 3) := by decide +kernel
theorem dX12_read_47 : decode cX12_read 47 = .ok (.aload_n 0, 1) := by decide +kernel
theorem dX12_read_48 : decode cX12_read 48 = .ok (.iload_n 1, 1) := by decide +kernel
theorem dX12_read_49 : decode cX12_read 49 = .ok (.invokevirtual 379, 3) := by decide +kernel
theorem dX12_read_52 : decode cX12_read 52 = .ok (.ireturn, 1) := by decide +kernel
theorem dX12_field_0 : decode cX12_field 0 = .ok (.aload_n 0, 1) := by decide +kernel
theorem dX12_field_1 : decode cX12_field 1 = .ok (.iconst 0, 1) := by decide +kernel
theorem dX12_field_2 : decode cX12_field 2 = .ok (.putfield 3, 3) := by decide +kernel
theorem dX12_field_5 : decode cX12_field 5 = .ok (.aload_n 0, 1) := by decide +kernel
theorem dX12_field_6 : decode cX12_field 6 = .ok (.iload_n 1, 1) := by decide +kernel
theorem dX12_field_7 : decode cX12_field 7 = .ok (.iconst 0, 1) := by decide +kernel
theorem dX12_field_8 : decode cX12_field 8 = .ok (.aload_n 0, 1) := by decide +kernel
theorem dX12_field_9 : decode cX12_field 9 = .ok (.getfield 13, 3) := by decide +kernel
theorem dX12_field_12 : decode cX12_field 12 = .ok (.bipush 6, 2) := by decide +kernel
theorem dX12_field_14 : decode cX12_field 14 = .ok (.iaload, 1) := by decide +kernel
theorem dX12_field_15 : decode cX12_field 15 = .ok (.iconst 1, 1) := by decide +kernel
theorem dX12_field_16 : decode cX12_field 16 = .ok (.isub, 1) := by decide +kernel
theorem dX12_field_17 : decode cX12_field 17 = .ok (.invokestatic 71, 3) := by decide +kernel
theorem dX12_field_20 : decode cX12_field 20 = .ok (.ifCond .ne 7, 3) := by decide +kernel
theorem dX12_field_23 : decode cX12_field 23 = .ok (.iconst 1, 1) := by decide +kernel
theorem dX12_field_24 : decode cX12_field 24 = .ok (.goto 4, 3) := by decide +kernel
theorem dX12_field_27 : decode cX12_field 27 = .ok (.iconst 0, 1) := by decide +kernel
theorem dX12_field_28 : decode cX12_field 28 = .ok (.iconst 1, 1) := by decide +kernel
theorem dX12_field_29 : decode cX12_field 29 = .ok (.invokevirtual 269, 3) := by decide +kernel
theorem dX12_field_32 : decode cX12_field 32 = .ok (.ifCond .ne 25, 3) := by decide +kernel
theorem dX12_field_35 : decode cX12_field 35 = .ok (.aload_n 0, 1) := by decide +kernel
theorem dX12_field_36 : decode cX12_field 36 = .ok (.iload_n 2, 1) := by decide +kernel
theorem dX12_field_37 : decode cX12_field 37 = .ok (.iconst 0, 1) := by decide +kernel
theorem dX12_field_38 : decode cX12_field 38 = .ok (.iconst 2, 1) := by decide +kernel
theorem dX12_field_39 : decode cX12_field 39 = .ok (.invokestatic 71, 3) := by decide +kernel
theorem dX12_field_42 : decode cX12_field 42 = .ok (.ifCond .ne 7, 3) := by decide +kernel
theorem dX12_field_45 : decode cX12_field 45 = .ok (.iconst 1, 1) := by decide +kernel
theorem dX12_field_46 : decode cX12_field 46 = .ok (.goto 4, 3) := by decide +kernel
theorem dX12_field_49 : decode cX12_field 49 = .ok (.iconst 0, 1) := by decide +kernel
theorem dX12_field_50 : decode cX12_field 50 = .ok (.iconst 2, 1) := by decide +kernel
theorem dX12_field_51 : decode cX12_field 51 = .ok (.invokevirtual 269, 3) := by decide +kernel
theorem dX12_field_54 : decode cX12_field 54 = .ok (.ifCond .eq 7, 3) := by decide +kernel
theorem dX12_field_57 : decode cX12_field 57 = .ok (.iconst 0, 1) := by decide +kernel
theorem dX12_field_58 : decode cX12_field 58 = .ok (.goto 9, 3) := by decide +kernel
theorem dX12_field_61 : decode cX12_field 61 = .ok (.aload_n 0, 1) := by decide +kernel
theorem dX12_field_62 : decode cX12_field 62 = .ok (.iload_n 1, 1) := by decide +kernel
theorem dX12_field_63 : decode cX12_field 63 = .ok (.iload_n 2, 1) := by decide +kernel
theorem dX12_field_64 : decode cX12_field 64 = .ok (.invokevirtual 301, 3) := by decide +kernel
theorem dX12_field_67 : decode cX12_field 67 = .ok (.ireturn, 1) := by decide +kernel
theorem dX12_usersOf_0 : decode cX12_usersOf 0 = .ok (.aload_n 0, 1) := by decide +kernel
theorem dX12_usersOf_1 : decode cX12_usersOf 1 = .ok (.iload_n 2, 1) := by decide +kernel
theorem dX12_usersOf_2 : decode cX12_usersOf 2 = .ok (.invokevirtual 313, 3) := by decide +kernel
theorem dX12_usersOf_5 : decode cX12_usersOf 5 = .ok (.aload_n 0, 1) := by decide +kernel
theorem dX12_usersOf_6 : decode cX12_usersOf 6 = .ok (.iload_n 1, 1) := by decide +kernel
theorem dX12_usersOf_7 : decode cX12_usersOf 7 = .ok (.invokevirtual 387, 3) := by decide +kernel
theorem dX12_usersOf_10 : decode cX12_usersOf 10 = .ok (.iand, 1) := by decide +kernel
theorem dX12_usersOf_11 : decode cX12_usersOf 11 = .ok (.ireturn, 1) := by decide +kernel
theorem dX12_lostOf_0 : decode cX12_lostOf 0 = .ok (.iconst 0, 1) := by decide +kernel
theorem dX12_lostOf_1 : decode cX12_lostOf 1 = .ok (.istore_n 2, 1) := by decide +kernel
theorem dX12_lostOf_2 : decode cX12_lostOf 2 = .ok (.iconst 0, 1) := by decide +kernel
theorem dX12_lostOf_3 : decode cX12_lostOf 3 = .ok (.istore_n 3, 1) := by decide +kernel
theorem dX12_lostOf_4 : decode cX12_lostOf 4 = .ok (.iload_n 3, 1) := by decide +kernel
theorem dX12_lostOf_5 : decode cX12_lostOf 5 = .ok (.aload_n 0, 1) := by decide +kernel
theorem dX12_lostOf_6 : decode cX12_lostOf 6 = .ok (.invokevirtual 67, 3) := by decide +kernel
theorem dX12_lostOf_9 : decode cX12_lostOf 9 = .ok (.if_icmp .ge 44, 3) := by decide +kernel
theorem dX12_lostOf_12 : decode cX12_lostOf 12 = .ok (.iload_n 2, 1) := by decide +kernel
theorem dX12_lostOf_13 : decode cX12_lostOf 13 = .ok (.aload_n 0, 1) := by decide +kernel
theorem dX12_lostOf_14 : decode cX12_lostOf 14 = .ok (.getfield 13, 3) := by decide +kernel
theorem dX12_lostOf_17 : decode cX12_lostOf 17 = .ok (.bipush 11, 2) := by decide +kernel
theorem dX12_lostOf_19 : decode cX12_lostOf 19 = .ok (.iload_n 1, 1) := by decide +kernel
theorem dX12_lostOf_20 : decode cX12_lostOf 20 = .ok (.iadd, 1) := by decide +kernel
theorem dX12_lostOf_21 : decode cX12_lostOf 21 = .ok (.iaload, 1) := by decide +kernel
theorem dX12_lostOf_22 : decode cX12_lostOf 22 = .ok (.iload_n 3, 1) := by decide +kernel
theorem dX12_lostOf_23 : decode cX12_lostOf 23 = .ok (.invokestatic 81, 3) := by decide +kernel
theorem dX12_lostOf_26 : decode cX12_lostOf 26 = .ok (.ifCond .eq 18, 3) := by decide +kernel
theorem dX12_lostOf_29 : decode cX12_lostOf 29 = .ok (.aload_n 0, 1) := by decide +kernel
theorem dX12_lostOf_30 : decode cX12_lostOf 30 = .ok (.iload_n 1, 1) := by decide +kernel
theorem dX12_lostOf_31 : decode cX12_lostOf 31 = .ok (.iload_n 3, 1) := by decide +kernel
theorem dX12_lostOf_32 : decode cX12_lostOf 32 = .ok (.invokevirtual 390, 3) := by decide +kernel
theorem dX12_lostOf_35 : decode cX12_lostOf 35 = .ok (.ifCond .ne 9, 3) := by decide +kernel
theorem dX12_lostOf_38 : decode cX12_lostOf 38 = .ok (.iconst 1, 1) := by decide +kernel
theorem dX12_lostOf_39 : decode cX12_lostOf 39 = .ok (.iload_n 3, 1) := by decide +kernel
theorem dX12_lostOf_40 : decode cX12_lostOf 40 = .ok (.ishl, 1) := by decide +kernel
theorem dX12_lostOf_41 : decode cX12_lostOf 41 = .ok (.goto 4, 3) := by decide +kernel
theorem dX12_lostOf_44 : decode cX12_lostOf 44 = .ok (.iconst 0, 1) := by decide +kernel
theorem dX12_lostOf_45 : decode cX12_lostOf 45 = .ok (.ior, 1) := by decide +kernel
theorem dX12_lostOf_46 : decode cX12_lostOf 46 = .ok (.istore_n 2, 1) := by decide +kernel
theorem dX12_lostOf_47 : decode cX12_lostOf 47 = .ok (.iinc 3 1, 3) := by decide +kernel
theorem dX12_lostOf_50 : decode cX12_lostOf 50 = .ok (.goto (-46), 3) := by decide +kernel
theorem dX12_lostOf_53 : decode cX12_lostOf 53 = .ok (.iload_n 2, 1) := by decide +kernel
theorem dX12_lostOf_54 : decode cX12_lostOf 54 = .ok (.ireturn, 1) := by decide +kernel
theorem dX12_plan_0 : decode cX12_plan 0 = .ok (.aload_n 0, 1) := by decide +kernel
theorem dX12_plan_1 : decode cX12_plan 1 = .ok (.iconst 0, 1) := by decide +kernel
theorem dX12_plan_2 : decode cX12_plan 2 = .ok (.putfield 3, 3) := by decide +kernel
theorem dX12_plan_5 : decode cX12_plan 5 = .ok (.aload_n 0, 1) := by decide +kernel
theorem dX12_plan_6 : decode cX12_plan 6 = .ok (.iload_n 1, 1) := by decide +kernel
theorem dX12_plan_7 : decode cX12_plan 7 = .ok (.invokestatic 393, 3) := by decide +kernel
theorem dX12_plan_10 : decode cX12_plan 10 = .ok (.iconst 1, 1) := by decide +kernel
theorem dX12_plan_11 : decode cX12_plan 11 = .ok (.invokevirtual 269, 3) := by decide +kernel
theorem dX12_plan_14 : decode cX12_plan 14 = .ok (.ifCond .eq 5, 3) := by decide +kernel
theorem dX12_plan_17 : decode cX12_plan 17 = .ok (.iconst 0, 1) := by decide +kernel
theorem dX12_plan_18 : decode cX12_plan 18 = .ok (.ireturn, 1) := by decide +kernel
theorem dX12_plan_19 : decode cX12_plan 19 = .ok (.iload_n 2, 1) := by decide +kernel
theorem dX12_plan_20 : decode cX12_plan 20 = .ok (.ifCond .eq 11, 3) := by decide +kernel
theorem dX12_plan_23 : decode cX12_plan 23 = .ok (.aload_n 0, 1) := by decide +kernel
theorem dX12_plan_24 : decode cX12_plan 24 = .ok (.iload_n 1, 1) := by decide +kernel
theorem dX12_plan_25 : decode cX12_plan 25 = .ok (.invokevirtual 396, 3) := by decide +kernel
theorem dX12_plan_28 : decode cX12_plan 28 = .ok (.goto 12, 3) := by decide +kernel
theorem dX12_plan_31 : decode cX12_plan 31 = .ok (.aload_n 0, 1) := by decide +kernel
theorem dX12_plan_32 : decode cX12_plan 32 = .ok (.getfield 13, 3) := by decide +kernel
theorem dX12_plan_35 : decode cX12_plan 35 = .ok (.bipush 11, 2) := by decide +kernel
theorem dX12_plan_37 : decode cX12_plan 37 = .ok (.iload_n 1, 1) := by decide +kernel
theorem dX12_plan_38 : decode cX12_plan 38 = .ok (.iadd, 1) := by decide +kernel
theorem dX12_plan_39 : decode cX12_plan 39 = .ok (.iaload, 1) := by decide +kernel
theorem dX12_plan_40 : decode cX12_plan 40 = .ok (.ireturn, 1) := by decide +kernel
theorem dX12_shotsAt_0 : decode cX12_shotsAt 0 = .ok (.aload_n 0, 1) := by decide +kernel
theorem dX12_shotsAt_1 : decode cX12_shotsAt 1 = .ok (.iload_n 1, 1) := by decide +kernel
theorem dX12_shotsAt_2 : decode cX12_shotsAt 2 = .ok (.invokevirtual 275, 3) := by decide +kernel
theorem dX12_shotsAt_5 : decode cX12_shotsAt 5 = .ok (.iload_n 2, 1) := by decide +kernel
theorem dX12_shotsAt_6 : decode cX12_shotsAt 6 = .ok (.invokestatic 81, 3) := by decide +kernel
theorem dX12_shotsAt_9 : decode cX12_shotsAt 9 = .ok (.ifCond .ne 5, 3) := by decide +kernel
theorem dX12_shotsAt_12 : decode cX12_shotsAt 12 = .ok (.iconst 0, 1) := by decide +kernel
theorem dX12_shotsAt_13 : decode cX12_shotsAt 13 = .ok (.ireturn, 1) := by decide +kernel
theorem dX12_shotsAt_14 : decode cX12_shotsAt 14 = .ok (.iconst 1, 1) := by decide +kernel
theorem dX12_shotsAt_15 : decode cX12_shotsAt 15 = .ok (.istore 4, 2) := by decide +kernel
theorem dX12_shotsAt_17 : decode cX12_shotsAt 17 = .ok (.iload_n 3, 1) := by decide +kernel
theorem dX12_shotsAt_18 : decode cX12_shotsAt 18 = .ok (.ifCond .ne 35, 3) := by decide +kernel
theorem dX12_shotsAt_21 : decode cX12_shotsAt 21 = .ok (.aload_n 0, 1) := by decide +kernel
theorem dX12_shotsAt_22 : decode cX12_shotsAt 22 = .ok (.aload_n 0, 1) := by decide +kernel
theorem dX12_shotsAt_23 : decode cX12_shotsAt 23 = .ok (.iload_n 1, 1) := by decide +kernel
theorem dX12_shotsAt_24 : decode cX12_shotsAt 24 = .ok (.aload_n 0, 1) := by decide +kernel
theorem dX12_shotsAt_25 : decode cX12_shotsAt 25 = .ok (.iload_n 1, 1) := by decide +kernel
theorem dX12_shotsAt_26 : decode cX12_shotsAt 26 = .ok (.bipush 9, 2) := by decide +kernel
theorem dX12_shotsAt_28 : decode cX12_shotsAt 28 = .ok (.invokevirtual 63, 3) := by decide +kernel
theorem dX12_shotsAt_31 : decode cX12_shotsAt 31 = .ok (.iload 4, 2) := by decide +kernel
theorem dX12_shotsAt_33 : decode cX12_shotsAt 33 = .ok (.isub, 1) := by decide +kernel
theorem dX12_shotsAt_34 : decode cX12_shotsAt 34 = .ok (.invokevirtual 78, 3) := by decide +kernel
theorem dX12_shotsAt_37 : decode cX12_shotsAt 37 = .ok (.invokevirtual 92, 3) := by decide +kernel
theorem dX12_shotsAt_40 : decode cX12_shotsAt 40 = .ok (.iload_n 2, 1) := by decide +kernel
theorem dX12_shotsAt_41 : decode cX12_shotsAt 41 = .ok (.invokestatic 81, 3) := by decide +kernel
theorem dX12_shotsAt_44 : decode cX12_shotsAt 44 = .ok (.ifCond .eq 9, 3) := by decide +kernel
theorem dX12_shotsAt_47 : decode cX12_shotsAt 47 = .ok (.iinc 4 1, 3) := by decide +kernel
theorem dX12_shotsAt_50 : decode cX12_shotsAt 50 = .ok (.goto (-33), 3) := by decide +kernel
theorem dX12_shotsAt_53 : decode cX12_shotsAt 53 = .ok (.iload 4, 2) := by decide +kernel
theorem dX12_shotsAt_55 : decode cX12_shotsAt 55 = .ok (.ireturn, 1) := by decide +kernel
theorem dX12_shots_0 : decode cX12_shots 0 = .ok (.aload_n 0, 1) := by decide +kernel
theorem dX12_shots_1 : decode cX12_shots 1 = .ok (.iconst 0, 1) := by decide +kernel
theorem dX12_shots_2 : decode cX12_shots 2 = .ok (.putfield 3, 3) := by decide +kernel
theorem dX12_shots_5 : decode cX12_shots 5 = .ok (.aload_n 0, 1) := by decide +kernel
theorem dX12_shots_6 : decode cX12_shots 6 = .ok (.aload_n 0, 1) := by decide +kernel
theorem dX12_shots_7 : decode cX12_shots 7 = .ok (.iload_n 1, 1) := by decide +kernel
theorem dX12_shots_8 : decode cX12_shots 8 = .ok (.invokevirtual 322, 3) := by decide +kernel
theorem dX12_shots_11 : decode cX12_shots 11 = .ok (.ifCond .ne 11, 3) := by decide +kernel
theorem dX12_shots_14 : decode cX12_shots 14 = .ok (.aload_n 0, 1) := by decide +kernel
theorem dX12_shots_15 : decode cX12_shots 15 = .ok (.iload_n 2, 1) := by decide +kernel
theorem dX12_shots_16 : decode cX12_shots 16 = .ok (.invokevirtual 304, 3) := by decide +kernel
theorem dX12_shots_19 : decode cX12_shots 19 = .ok (.ifCond .eq 7, 3) := by decide +kernel
theorem dX12_shots_22 : decode cX12_shots 22 = .ok (.iconst 1, 1) := by decide +kernel
theorem dX12_shots_23 : decode cX12_shots 23 = .ok (.goto 4, 3) := by decide +kernel
theorem dX12_shots_26 : decode cX12_shots 26 = .ok (.iconst 0, 1) := by decide +kernel
theorem dX12_shots_27 : decode cX12_shots 27 = .ok (.iconst 1, 1) := by decide +kernel
theorem dX12_shots_28 : decode cX12_shots 28 = .ok (.invokevirtual 269, 3) := by decide +kernel
theorem dX12_shots_31 : decode cX12_shots 31 = .ok (.ifCond .eq 7, 3) := by decide +kernel
theorem dX12_shots_34 : decode cX12_shots 34 = .ok (.iconst 0, 1) := by decide +kernel
theorem dX12_shots_35 : decode cX12_shots 35 = .ok (.goto 10, 3) := by decide +kernel
theorem dX12_shots_38 : decode cX12_shots 38 = .ok (.aload_n 0, 1) := by decide +kernel
theorem dX12_shots_39 : decode cX12_shots 39 = .ok (.iload_n 1, 1) := by decide +kernel
theorem dX12_shots_40 : decode cX12_shots 40 = .ok (.iload_n 2, 1) := by decide +kernel
theorem dX12_shots_41 : decode cX12_shots 41 = .ok (.iload_n 3, 1) := by decide +kernel
theorem dX12_shots_42 : decode cX12_shots 42 = .ok (.invokevirtual 399, 3) := by decide +kernel
theorem dX12_shots_45 : decode cX12_shots 45 = .ok (.ireturn, 1) := by decide +kernel
theorem dX12_outlasts_0 : decode cX12_outlasts 0 = .ok (.aload_n 0, 1) := by decide +kernel
theorem dX12_outlasts_1 : decode cX12_outlasts 1 = .ok (.iconst 0, 1) := by decide +kernel
theorem dX12_outlasts_2 : decode cX12_outlasts 2 = .ok (.putfield 3, 3) := by decide +kernel
theorem dX12_outlasts_5 : decode cX12_outlasts 5 = .ok (.aload_n 0, 1) := by decide +kernel
theorem dX12_outlasts_6 : decode cX12_outlasts 6 = .ok (.iload_n 1, 1) := by decide +kernel
theorem dX12_outlasts_7 : decode cX12_outlasts 7 = .ok (.invokestatic 393, 3) := by decide +kernel
theorem dX12_outlasts_10 : decode cX12_outlasts 10 = .ok (.iconst 1, 1) := by decide +kernel
theorem dX12_outlasts_11 : decode cX12_outlasts 11 = .ok (.invokevirtual 269, 3) := by decide +kernel
theorem dX12_outlasts_14 : decode cX12_outlasts 14 = .ok (.ifCond .eq 5, 3) := by decide +kernel
theorem dX12_outlasts_17 : decode cX12_outlasts 17 = .ok (.iconst 0, 1) := by decide +kernel
theorem dX12_outlasts_18 : decode cX12_outlasts 18 = .ok (.ireturn, 1) := by decide +kernel
theorem dX12_outlasts_19 : decode cX12_outlasts 19 = .ok (.iconst (-1), 1) := by decide +kernel
theorem dX12_outlasts_20 : decode cX12_outlasts 20 = .ok (.istore 4, 2) := by decide +kernel
theorem dX12_outlasts_22 : decode cX12_outlasts 22 = .ok (.iconst (-1), 1) := by decide +kernel
theorem dX12_outlasts_23 : decode cX12_outlasts 23 = .ok (.istore 5, 2) := by decide +kernel
theorem dX12_outlasts_25 : decode cX12_outlasts 25 = .ok (.iconst 0, 1) := by decide +kernel
theorem dX12_outlasts_26 : decode cX12_outlasts 26 = .ok (.istore 6, 2) := by decide +kernel
theorem dX12_outlasts_28 : decode cX12_outlasts 28 = .ok (.iload 6, 2) := by decide +kernel
theorem dX12_outlasts_30 : decode cX12_outlasts 30 = .ok (.aload_n 0, 1) := by decide +kernel
theorem dX12_outlasts_31 : decode cX12_outlasts 31 = .ok (.invokevirtual 67, 3) := by decide +kernel
theorem dX12_outlasts_34 : decode cX12_outlasts 34 = .ok (.if_icmp .ge 102, 3) := by decide +kernel
theorem dX12_outlasts_37 : decode cX12_outlasts 37 = .ok (.aload_n 0, 1) := by decide +kernel
theorem dX12_outlasts_38 : decode cX12_outlasts 38 = .ok (.getfield 13, 3) := by decide +kernel
theorem dX12_outlasts_41 : decode cX12_outlasts 41 = .ok (.bipush 11, 2) := by decide +kernel
theorem dX12_outlasts_43 : decode cX12_outlasts 43 = .ok (.iload_n 1, 1) := by decide +kernel
theorem dX12_outlasts_44 : decode cX12_outlasts 44 = .ok (.iadd, 1) := by decide +kernel
theorem dX12_outlasts_45 : decode cX12_outlasts 45 = .ok (.iaload, 1) := by decide +kernel
theorem dX12_outlasts_46 : decode cX12_outlasts 46 = .ok (.iload 6, 2) := by decide +kernel
theorem dX12_outlasts_48 : decode cX12_outlasts 48 = .ok (.invokestatic 81, 3) := by decide +kernel
theorem dX12_outlasts_51 : decode cX12_outlasts 51 = .ok (.ifCond .ne 6, 3) := by decide +kernel
theorem dX12_outlasts_54 : decode cX12_outlasts 54 = .ok (.goto 76, 3) := by decide +kernel
theorem dX12_outlasts_57 : decode cX12_outlasts 57 = .ok (.iconst 0, 1) := by decide +kernel
theorem dX12_outlasts_58 : decode cX12_outlasts 58 = .ok (.istore 7, 2) := by decide +kernel
theorem dX12_outlasts_60 : decode cX12_outlasts 60 = .ok (.iconst 0, 1) := by decide +kernel
theorem dX12_outlasts_61 : decode cX12_outlasts 61 = .ok (.istore 8, 2) := by decide +kernel
theorem dX12_outlasts_63 : decode cX12_outlasts 63 = .ok (.iload 8, 2) := by decide +kernel
theorem dX12_outlasts_65 : decode cX12_outlasts 65 = .ok (.aload_n 0, 1) := by decide +kernel
theorem dX12_outlasts_66 : decode cX12_outlasts 66 = .ok (.invokevirtual 75, 3) := by decide +kernel
theorem dX12_outlasts_69 : decode cX12_outlasts 69 = .ok (.if_icmp .ge 38, 3) := by decide +kernel
theorem dX12_outlasts_72 : decode cX12_outlasts 72 = .ok (.iload 7, 2) := by decide +kernel
theorem dX12_outlasts_74 : decode cX12_outlasts 74 = .ok (.aload_n 0, 1) := by decide +kernel
theorem dX12_outlasts_75 : decode cX12_outlasts 75 = .ok (.iload 8, 2) := by decide +kernel
theorem dX12_outlasts_77 : decode cX12_outlasts 77 = .ok (.iconst 0, 1) := by decide +kernel
theorem dX12_outlasts_78 : decode cX12_outlasts 78 = .ok (.invokevirtual 63, 3) := by decide +kernel
theorem dX12_outlasts_81 : decode cX12_outlasts 81 = .ok (.iload_n 1, 1) := by decide +kernel
theorem dX12_outlasts_82 : decode cX12_outlasts 82 = .ok (.if_icmp .ne 15, 3) := by decide +kernel
theorem dX12_outlasts_85 : decode cX12_outlasts 85 = .ok (.aload_n 0, 1) := by decide +kernel
theorem dX12_outlasts_86 : decode cX12_outlasts 86 = .ok (.iload 8, 2) := by decide +kernel
theorem dX12_outlasts_88 : decode cX12_outlasts 88 = .ok (.iload 6, 2) := by decide +kernel
theorem dX12_outlasts_90 : decode cX12_outlasts 90 = .ok (.iload_n 2, 1) := by decide +kernel
theorem dX12_outlasts_91 : decode cX12_outlasts 91 = .ok (.invokevirtual 399, 3) := by decide +kernel
theorem dX12_outlasts_94 : decode cX12_outlasts 94 = .ok (.goto 4, 3) := by decide +kernel
theorem dX12_outlasts_97 : decode cX12_outlasts 97 = .ok (.iconst 0, 1) := by decide +kernel
theorem dX12_outlasts_98 : decode cX12_outlasts 98 = .ok (.iadd, 1) := by decide +kernel
theorem dX12_outlasts_99 : decode cX12_outlasts 99 = .ok (.istore 7, 2) := by decide +kernel
theorem dX12_outlasts_101 : decode cX12_outlasts 101 = .ok (.iinc 8 1, 3) := by decide +kernel
theorem dX12_outlasts_104 : decode cX12_outlasts 104 = .ok (.goto (-41), 3) := by decide +kernel
theorem dX12_outlasts_107 : decode cX12_outlasts 107 = .ok (.iload 4, 2) := by decide +kernel
theorem dX12_outlasts_109 : decode cX12_outlasts 109 = .ok (.ifCond .lt 13, 3) := by decide +kernel
theorem dX12_outlasts_112 : decode cX12_outlasts 112 = .ok (.iload 7, 2) := by decide +kernel
theorem dX12_outlasts_114 : decode cX12_outlasts 114 = .ok (.iload 5, 2) := by decide +kernel
theorem dX12_outlasts_116 : decode cX12_outlasts 116 = .ok (.if_icmp .lt 6, 3) := by decide +kernel
theorem dX12_outlasts_119 : decode cX12_outlasts 119 = .ok (.goto 11, 3) := by decide +kernel
theorem dX12_outlasts_122 : decode cX12_outlasts 122 = .ok (.iload 6, 2) := by decide +kernel
theorem dX12_outlasts_124 : decode cX12_outlasts 124 = .ok (.istore 4, 2) := by decide +kernel
theorem dX12_outlasts_126 : decode cX12_outlasts 126 = .ok (.iload 7, 2) := by decide +kernel
theorem dX12_outlasts_128 : decode cX12_outlasts 128 = .ok (.istore 5, 2) := by decide +kernel
theorem dX12_outlasts_130 : decode cX12_outlasts 130 = .ok (.iinc 6 1, 3) := by decide +kernel
theorem dX12_outlasts_133 : decode cX12_outlasts 133 = .ok (.goto (-105), 3) := by decide +kernel
theorem dX12_outlasts_136 : decode cX12_outlasts 136 = .ok (.iload_n 3, 1) := by decide +kernel
theorem dX12_outlasts_137 : decode cX12_outlasts 137 = .ok (.ifCond .eq 8, 3) := by decide +kernel
theorem dX12_outlasts_140 : decode cX12_outlasts 140 = .ok (.iload 4, 2) := by decide +kernel
theorem dX12_outlasts_142 : decode cX12_outlasts 142 = .ok (.goto 5, 3) := by decide +kernel
theorem dX12_outlasts_145 : decode cX12_outlasts 145 = .ok (.iload 5, 2) := by decide +kernel
theorem dX12_outlasts_147 : decode cX12_outlasts 147 = .ok (.ireturn, 1) := by decide +kernel
theorem dX12_reserves_0 : decode cX12_reserves 0 = .ok (.aload_n 0, 1) := by decide +kernel
theorem dX12_reserves_1 : decode cX12_reserves 1 = .ok (.iconst 0, 1) := by decide +kernel
theorem dX12_reserves_2 : decode cX12_reserves 2 = .ok (.putfield 3, 3) := by decide +kernel
theorem dX12_reserves_5 : decode cX12_reserves 5 = .ok (.aload_n 0, 1) := by decide +kernel
theorem dX12_reserves_6 : decode cX12_reserves 6 = .ok (.iload_n 1, 1) := by decide +kernel
theorem dX12_reserves_7 : decode cX12_reserves 7 = .ok (.invokestatic 393, 3) := by decide +kernel
theorem dX12_reserves_10 : decode cX12_reserves 10 = .ok (.iconst 1, 1) := by decide +kernel
theorem dX12_reserves_11 : decode cX12_reserves 11 = .ok (.invokevirtual 269, 3) := by decide +kernel
theorem dX12_reserves_14 : decode cX12_reserves 14 = .ok (.ifCond .ne 26, 3) := by decide +kernel
theorem dX12_reserves_17 : decode cX12_reserves 17 = .ok (.aload_n 0, 1) := by decide +kernel
theorem dX12_reserves_18 : decode cX12_reserves 18 = .ok (.iload_n 2, 1) := by decide +kernel
theorem dX12_reserves_19 : decode cX12_reserves 19 = .ok (.iconst 1, 1) := by decide +kernel
theorem dX12_reserves_20 : decode cX12_reserves 20 = .ok (.bipush 10, 2) := by decide +kernel
theorem dX12_reserves_22 : decode cX12_reserves 22 = .ok (.invokestatic 71, 3) := by decide +kernel
theorem dX12_reserves_25 : decode cX12_reserves 25 = .ok (.ifCond .ne 7, 3) := by decide +kernel
theorem dX12_reserves_28 : decode cX12_reserves 28 = .ok (.iconst 1, 1) := by decide +kernel
theorem dX12_reserves_29 : decode cX12_reserves 29 = .ok (.goto 4, 3) := by decide +kernel
theorem dX12_reserves_32 : decode cX12_reserves 32 = .ok (.iconst 0, 1) := by decide +kernel
theorem dX12_reserves_33 : decode cX12_reserves 33 = .ok (.iconst 2, 1) := by decide +kernel
theorem dX12_reserves_34 : decode cX12_reserves 34 = .ok (.invokevirtual 269, 3) := by decide +kernel
theorem dX12_reserves_37 : decode cX12_reserves 37 = .ok (.ifCond .eq 5, 3) := by decide +kernel
theorem dX12_reserves_40 : decode cX12_reserves 40 = .ok (.iconst 0, 1) := by decide +kernel
theorem dX12_reserves_41 : decode cX12_reserves 41 = .ok (.ireturn, 1) := by decide +kernel
theorem dX12_reserves_42 : decode cX12_reserves 42 = .ok (.iconst 0, 1) := by decide +kernel
theorem dX12_reserves_43 : decode cX12_reserves 43 = .ok (.istore_n 3, 1) := by decide +kernel
theorem dX12_reserves_44 : decode cX12_reserves 44 = .ok (.iconst 0, 1) := by decide +kernel
theorem dX12_reserves_45 : decode cX12_reserves 45 = .ok (.istore 4, 2) := by decide +kernel
theorem dX12_reserves_47 : decode cX12_reserves 47 = .ok (.iload 4, 2) := by decide +kernel
theorem dX12_reserves_49 : decode cX12_reserves 49 = .ok (.aload_n 0, 1) := by decide +kernel
theorem dX12_reserves_50 : decode cX12_reserves 50 = .ok (.invokevirtual 67, 3) := by decide +kernel
theorem dX12_reserves_53 : decode cX12_reserves 53 = .ok (.if_icmp .ge 114, 3) := by decide +kernel
theorem dX12_reserves_56 : decode cX12_reserves 56 = .ok (.aload_n 0, 1) := by decide +kernel
theorem dX12_reserves_57 : decode cX12_reserves 57 = .ok (.getfield 13, 3) := by decide +kernel
theorem dX12_reserves_60 : decode cX12_reserves 60 = .ok (.bipush 11, 2) := by decide +kernel
theorem dX12_reserves_62 : decode cX12_reserves 62 = .ok (.iload_n 1, 1) := by decide +kernel
theorem dX12_reserves_63 : decode cX12_reserves 63 = .ok (.iadd, 1) := by decide +kernel
theorem dX12_reserves_64 : decode cX12_reserves 64 = .ok (.iaload, 1) := by decide +kernel
theorem dX12_reserves_65 : decode cX12_reserves 65 = .ok (.iload 4, 2) := by decide +kernel
theorem dX12_reserves_67 : decode cX12_reserves 67 = .ok (.invokestatic 81, 3) := by decide +kernel
theorem dX12_reserves_70 : decode cX12_reserves 70 = .ok (.ifCond .ne 6, 3) := by decide +kernel
theorem dX12_reserves_73 : decode cX12_reserves 73 = .ok (.goto 88, 3) := by decide +kernel
theorem dX12_reserves_76 : decode cX12_reserves 76 = .ok (.iconst 0, 1) := by decide +kernel
theorem dX12_reserves_77 : decode cX12_reserves 77 = .ok (.iload_n 2, 1) := by decide +kernel
theorem dX12_reserves_78 : decode cX12_reserves 78 = .ok (.aload_n 0, 1) := by decide +kernel
theorem dX12_reserves_79 : decode cX12_reserves 79 = .ok (.iload_n 1, 1) := by decide +kernel
theorem dX12_reserves_80 : decode cX12_reserves 80 = .ok (.iload 4, 2) := by decide +kernel
theorem dX12_reserves_82 : decode cX12_reserves 82 = .ok (.invokevirtual 390, 3) := by decide +kernel
theorem dX12_reserves_85 : decode cX12_reserves 85 = .ok (.invokestatic 278, 3) := by decide +kernel
theorem dX12_reserves_88 : decode cX12_reserves 88 = .ok (.isub, 1) := by decide +kernel
theorem dX12_reserves_89 : decode cX12_reserves 89 = .ok (.invokestatic 402, 3) := by decide +kernel
theorem dX12_reserves_92 : decode cX12_reserves 92 = .ok (.istore 5, 2) := by decide +kernel
theorem dX12_reserves_94 : decode cX12_reserves 94 = .ok (.iconst 0, 1) := by decide +kernel
theorem dX12_reserves_95 : decode cX12_reserves 95 = .ok (.istore 6, 2) := by decide +kernel
theorem dX12_reserves_97 : decode cX12_reserves 97 = .ok (.iconst 0, 1) := by decide +kernel
theorem dX12_reserves_98 : decode cX12_reserves 98 = .ok (.istore 7, 2) := by decide +kernel
theorem dX12_reserves_100 : decode cX12_reserves 100 = .ok (.iload 7, 2) := by decide +kernel
theorem dX12_reserves_102 : decode cX12_reserves 102 = .ok (.aload_n 0, 1) := by decide +kernel
theorem dX12_reserves_103 : decode cX12_reserves 103 = .ok (.invokevirtual 75, 3) := by decide +kernel
theorem dX12_reserves_106 : decode cX12_reserves 106 = .ok (.if_icmp .ge 41, 3) := by decide +kernel
theorem dX12_reserves_109 : decode cX12_reserves 109 = .ok (.iload 6, 2) := by decide +kernel
theorem dX12_reserves_111 : decode cX12_reserves 111 = .ok (.aload_n 0, 1) := by decide +kernel
theorem dX12_reserves_112 : decode cX12_reserves 112 = .ok (.iload 7, 2) := by decide +kernel
theorem dX12_reserves_114 : decode cX12_reserves 114 = .ok (.iconst 0, 1) := by decide +kernel
theorem dX12_reserves_115 : decode cX12_reserves 115 = .ok (.invokevirtual 63, 3) := by decide +kernel
theorem dX12_reserves_118 : decode cX12_reserves 118 = .ok (.iload_n 1, 1) := by decide +kernel
theorem dX12_reserves_119 : decode cX12_reserves 119 = .ok (.if_icmp .ne 18, 3) := by decide +kernel
theorem dX12_reserves_122 : decode cX12_reserves 122 = .ok (.aload_n 0, 1) := by decide +kernel
theorem dX12_reserves_123 : decode cX12_reserves 123 = .ok (.iload 7, 2) := by decide +kernel
theorem dX12_reserves_125 : decode cX12_reserves 125 = .ok (.iload 4, 2) := by decide +kernel
theorem dX12_reserves_127 : decode cX12_reserves 127 = .ok (.invokevirtual 363, 3) := by decide +kernel
theorem dX12_reserves_130 : decode cX12_reserves 130 = .ok (.ifCond .eq 7, 3) := by decide +kernel
theorem dX12_reserves_133 : decode cX12_reserves 133 = .ok (.iconst 1, 1) := by decide +kernel
theorem dX12_reserves_134 : decode cX12_reserves 134 = .ok (.goto 4, 3) := by decide +kernel
theorem dX12_reserves_137 : decode cX12_reserves 137 = .ok (.iconst 0, 1) := by decide +kernel
theorem dX12_reserves_138 : decode cX12_reserves 138 = .ok (.iadd, 1) := by decide +kernel
theorem dX12_reserves_139 : decode cX12_reserves 139 = .ok (.istore 6, 2) := by decide +kernel
theorem dX12_reserves_141 : decode cX12_reserves 141 = .ok (.iinc 7 1, 3) := by decide +kernel
theorem dX12_reserves_144 : decode cX12_reserves 144 = .ok (.goto (-44), 3) := by decide +kernel
theorem dX12_reserves_147 : decode cX12_reserves 147 = .ok (.iload 5, 2) := by decide +kernel
theorem dX12_reserves_149 : decode cX12_reserves 149 = .ok (.iload 6, 2) := by decide +kernel
theorem dX12_reserves_151 : decode cX12_reserves 151 = .ok (.if_icmp .le 5, 3) := by decide +kernel
theorem dX12_reserves_154 : decode cX12_reserves 154 = .ok (.iconst (-1), 1) := by decide +kernel
theorem dX12_reserves_155 : decode cX12_reserves 155 = .ok (.ireturn, 1) := by decide +kernel
theorem dX12_reserves_156 : decode cX12_reserves 156 = .ok (.iload_n 3, 1) := by decide +kernel
theorem dX12_reserves_157 : decode cX12_reserves 157 = .ok (.iload 5, 2) := by decide +kernel
theorem dX12_reserves_159 : decode cX12_reserves 159 = .ok (.iadd, 1) := by decide +kernel
theorem dX12_reserves_160 : decode cX12_reserves 160 = .ok (.istore_n 3, 1) := by decide +kernel
theorem dX12_reserves_161 : decode cX12_reserves 161 = .ok (.iinc 4 1, 3) := by decide +kernel
theorem dX12_reserves_164 : decode cX12_reserves 164 = .ok (.goto (-117), 3) := by decide +kernel
theorem dX12_reserves_167 : decode cX12_reserves 167 = .ok (.iload_n 3, 1) := by decide +kernel
theorem dX12_reserves_168 : decode cX12_reserves 168 = .ok (.ireturn, 1) := by decide +kernel
theorem dX12_company_0 : decode cX12_company 0 = .ok (.aload_n 0, 1) := by decide +kernel
theorem dX12_company_1 : decode cX12_company 1 = .ok (.iconst 0, 1) := by decide +kernel
theorem dX12_company_2 : decode cX12_company 2 = .ok (.putfield 3, 3) := by decide +kernel
theorem dX12_company_5 : decode cX12_company 5 = .ok (.aload_n 0, 1) := by decide +kernel
theorem dX12_company_6 : decode cX12_company 6 = .ok (.iload_n 1, 1) := by decide +kernel
theorem dX12_company_7 : decode cX12_company 7 = .ok (.iconst 0, 1) := by decide +kernel
theorem dX12_company_8 : decode cX12_company 8 = .ok (.bipush 12, 2) := by decide +kernel
theorem dX12_company_10 : decode cX12_company 10 = .ok (.invokestatic 71, 3) := by decide +kernel
theorem dX12_company_13 : decode cX12_company 13 = .ok (.ifCond .ne 7, 3) := by decide +kernel
theorem dX12_company_16 : decode cX12_company 16 = .ok (.iconst 1, 1) := by decide +kernel
theorem dX12_company_17 : decode cX12_company 17 = .ok (.goto 4, 3) := by decide +kernel
theorem dX12_company_20 : decode cX12_company 20 = .ok (.iconst 0, 1) := by decide +kernel
theorem dX12_company_21 : decode cX12_company 21 = .ok (.iconst 1, 1) := by decide +kernel
theorem dX12_company_22 : decode cX12_company 22 = .ok (.invokevirtual 269, 3) := by decide +kernel
theorem dX12_company_25 : decode cX12_company 25 = .ok (.ifCond .eq 7, 3) := by decide +kernel
theorem dX12_company_28 : decode cX12_company 28 = .ok (.iconst 0, 1) := by decide +kernel
theorem dX12_company_29 : decode cX12_company 29 = .ok (.goto 8, 3) := by decide +kernel
theorem dX12_company_32 : decode cX12_company 32 = .ok (.aload_n 0, 1) := by decide +kernel
theorem dX12_company_33 : decode cX12_company 33 = .ok (.iload_n 1, 1) := by decide +kernel
theorem dX12_company_34 : decode cX12_company 34 = .ok (.invokevirtual 328, 3) := by decide +kernel
theorem dX12_company_37 : decode cX12_company 37 = .ok (.ireturn, 1) := by decide +kernel
theorem dX12_drill_0 : decode cX12_drill 0 = .ok (.aload_n 0, 1) := by decide +kernel
theorem dX12_drill_1 : decode cX12_drill 1 = .ok (.iconst 0, 1) := by decide +kernel
theorem dX12_drill_2 : decode cX12_drill 2 = .ok (.putfield 3, 3) := by decide +kernel
theorem dX12_drill_5 : decode cX12_drill 5 = .ok (.iconst (-1), 1) := by decide +kernel
theorem dX12_drill_6 : decode cX12_drill 6 = .ok (.istore_n 2, 1) := by decide +kernel
theorem dX12_drill_7 : decode cX12_drill 7 = .ok (.iconst (-1), 1) := by decide +kernel
theorem dX12_drill_8 : decode cX12_drill 8 = .ok (.istore_n 3, 1) := by decide +kernel
theorem dX12_drill_9 : decode cX12_drill 9 = .ok (.iconst 0, 1) := by decide +kernel
theorem dX12_drill_10 : decode cX12_drill 10 = .ok (.istore 4, 2) := by decide +kernel
theorem dX12_drill_12 : decode cX12_drill 12 = .ok (.iload 4, 2) := by decide +kernel
theorem dX12_drill_14 : decode cX12_drill 14 = .ok (.aload_n 0, 1) := by decide +kernel
theorem dX12_drill_15 : decode cX12_drill 15 = .ok (.invokevirtual 159, 3) := by decide +kernel
theorem dX12_drill_18 : decode cX12_drill 18 = .ok (.if_icmp .ge 44, 3) := by decide +kernel
theorem dX12_drill_21 : decode cX12_drill 21 = .ok (.aload_n 0, 1) := by decide +kernel
theorem dX12_drill_22 : decode cX12_drill 22 = .ok (.aload_n 0, 1) := by decide +kernel
theorem dX12_drill_23 : decode cX12_drill 23 = .ok (.iload 4, 2) := by decide +kernel
theorem dX12_drill_25 : decode cX12_drill 25 = .ok (.iconst 1, 1) := by decide +kernel
theorem dX12_drill_26 : decode cX12_drill 26 = .ok (.invokevirtual 319, 3) := by decide +kernel
theorem dX12_drill_29 : decode cX12_drill 29 = .ok (.invokevirtual 340, 3) := by decide +kernel
theorem dX12_drill_32 : decode cX12_drill 32 = .ok (.invokestatic 278, 3) := by decide +kernel
theorem dX12_drill_35 : decode cX12_drill 35 = .ok (.istore 5, 2) := by decide +kernel
theorem dX12_drill_37 : decode cX12_drill 37 = .ok (.iload_n 2, 1) := by decide +kernel
theorem dX12_drill_38 : decode cX12_drill 38 = .ok (.ifCond .lt 12, 3) := by decide +kernel
theorem dX12_drill_41 : decode cX12_drill 41 = .ok (.iload 5, 2) := by decide +kernel
theorem dX12_drill_43 : decode cX12_drill 43 = .ok (.iload_n 3, 1) := by decide +kernel
theorem dX12_drill_44 : decode cX12_drill 44 = .ok (.if_icmp .lt 6, 3) := by decide +kernel
theorem dX12_drill_47 : decode cX12_drill 47 = .ok (.goto 9, 3) := by decide +kernel
theorem dX12_drill_50 : decode cX12_drill 50 = .ok (.iload 4, 2) := by decide +kernel
theorem dX12_drill_52 : decode cX12_drill 52 = .ok (.istore_n 2, 1) := by decide +kernel
theorem dX12_drill_53 : decode cX12_drill 53 = .ok (.iload 5, 2) := by decide +kernel
theorem dX12_drill_55 : decode cX12_drill 55 = .ok (.istore_n 3, 1) := by decide +kernel
theorem dX12_drill_56 : decode cX12_drill 56 = .ok (.iinc 4 1, 3) := by decide +kernel
theorem dX12_drill_59 : decode cX12_drill 59 = .ok (.goto (-47), 3) := by decide +kernel
theorem dX12_drill_62 : decode cX12_drill 62 = .ok (.iload_n 1, 1) := by decide +kernel
theorem dX12_drill_63 : decode cX12_drill 63 = .ok (.ifCond .eq 7, 3) := by decide +kernel
theorem dX12_drill_66 : decode cX12_drill 66 = .ok (.iload_n 3, 1) := by decide +kernel
theorem dX12_drill_67 : decode cX12_drill 67 = .ok (.goto 4, 3) := by decide +kernel
theorem dX12_drill_70 : decode cX12_drill 70 = .ok (.iload_n 2, 1) := by decide +kernel
theorem dX12_drill_71 : decode cX12_drill 71 = .ok (.ireturn, 1) := by decide +kernel
theorem dX12_setOf_0 : decode cX12_setOf 0 = .ok (.iconst 0, 1) := by decide +kernel
theorem dX12_setOf_1 : decode cX12_setOf 1 = .ok (.istore_n 3, 1) := by decide +kernel
theorem dX12_setOf_2 : decode cX12_setOf 2 = .ok (.iconst 0, 1) := by decide +kernel
theorem dX12_setOf_3 : decode cX12_setOf 3 = .ok (.istore 4, 2) := by decide +kernel
theorem dX12_setOf_5 : decode cX12_setOf 5 = .ok (.iload 4, 2) := by decide +kernel
theorem dX12_setOf_7 : decode cX12_setOf 7 = .ok (.aload_n 0, 1) := by decide +kernel
theorem dX12_setOf_8 : decode cX12_setOf 8 = .ok (.iload_n 1, 1) := by decide +kernel
theorem dX12_setOf_9 : decode cX12_setOf 9 = .ok (.bipush 9, 2) := by decide +kernel
theorem dX12_setOf_11 : decode cX12_setOf 11 = .ok (.invokevirtual 63, 3) := by decide +kernel
theorem dX12_setOf_14 : decode cX12_setOf 14 = .ok (.if_icmp .ge 37, 3) := by decide +kernel
theorem dX12_setOf_17 : decode cX12_setOf 17 = .ok (.iload_n 3, 1) := by decide +kernel
theorem dX12_setOf_18 : decode cX12_setOf 18 = .ok (.iload_n 2, 1) := by decide +kernel
theorem dX12_setOf_19 : decode cX12_setOf 19 = .ok (.iload 4, 2) := by decide +kernel
theorem dX12_setOf_21 : decode cX12_setOf 21 = .ok (.invokestatic 81, 3) := by decide +kernel
theorem dX12_setOf_24 : decode cX12_setOf 24 = .ok (.ifCond .eq 18, 3) := by decide +kernel
theorem dX12_setOf_27 : decode cX12_setOf 27 = .ok (.iconst 1, 1) := by decide +kernel
theorem dX12_setOf_28 : decode cX12_setOf 28 = .ok (.aload_n 0, 1) := by decide +kernel
theorem dX12_setOf_29 : decode cX12_setOf 29 = .ok (.iload_n 1, 1) := by decide +kernel
theorem dX12_setOf_30 : decode cX12_setOf 30 = .ok (.bipush 10, 2) := by decide +kernel
theorem dX12_setOf_32 : decode cX12_setOf 32 = .ok (.iload 4, 2) := by decide +kernel
theorem dX12_setOf_34 : decode cX12_setOf 34 = .ok (.iadd, 1) := by decide +kernel
theorem dX12_setOf_35 : decode cX12_setOf 35 = .ok (.invokevirtual 63, 3) := by decide +kernel
theorem dX12_setOf_38 : decode cX12_setOf 38 = .ok (.ishl, 1) := by decide +kernel
theorem dX12_setOf_39 : decode cX12_setOf 39 = .ok (.goto 4, 3) := by decide +kernel
theorem dX12_setOf_42 : decode cX12_setOf 42 = .ok (.iconst 0, 1) := by decide +kernel
theorem dX12_setOf_43 : decode cX12_setOf 43 = .ok (.ior, 1) := by decide +kernel
theorem dX12_setOf_44 : decode cX12_setOf 44 = .ok (.istore_n 3, 1) := by decide +kernel
theorem dX12_setOf_45 : decode cX12_setOf 45 = .ok (.iinc 4 1, 3) := by decide +kernel
theorem dX12_setOf_48 : decode cX12_setOf 48 = .ok (.goto (-43), 3) := by decide +kernel
theorem dX12_setOf_51 : decode cX12_setOf 51 = .ok (.iload_n 3, 1) := by decide +kernel
theorem dX12_setOf_52 : decode cX12_setOf 52 = .ok (.ireturn, 1) := by decide +kernel
theorem dX12_duelAt_0 : decode cX12_duelAt 0 = .ok (.iload_n 0, 1) := by decide +kernel
theorem dX12_duelAt_1 : decode cX12_duelAt 1 = .ok (.sipush 128, 3) := by decide +kernel
theorem dX12_duelAt_4 : decode cX12_duelAt 4 = .ok (.imul, 1) := by decide +kernel
theorem dX12_duelAt_5 : decode cX12_duelAt 5 = .ok (.iload_n 1, 1) := by decide +kernel
theorem dX12_duelAt_6 : decode cX12_duelAt 6 = .ok (.iadd, 1) := by decide +kernel
theorem dX12_duelAt_7 : decode cX12_duelAt 7 = .ok (.sipush 128, 3) := by decide +kernel
theorem dX12_duelAt_10 : decode cX12_duelAt 10 = .ok (.imul, 1) := by decide +kernel
theorem dX12_duelAt_11 : decode cX12_duelAt 11 = .ok (.iload_n 2, 1) := by decide +kernel
theorem dX12_duelAt_12 : decode cX12_duelAt 12 = .ok (.iadd, 1) := by decide +kernel
theorem dX12_duelAt_13 : decode cX12_duelAt 13 = .ok (.ireturn, 1) := by decide +kernel
theorem dX12_isWon_0 : decode cX12_isWon 0 = .ok (.aload_n 0, 1) := by decide +kernel
theorem dX12_isWon_1 : decode cX12_isWon 1 = .ok (.getfield 47, 3) := by decide +kernel
theorem dX12_isWon_4 : decode cX12_isWon 4 = .ok (.sipush 128, 3) := by decide +kernel
theorem dX12_isWon_7 : decode cX12_isWon 7 = .ok (.iload_n 1, 1) := by decide +kernel
theorem dX12_isWon_8 : decode cX12_isWon 8 = .ok (.imul, 1) := by decide +kernel
theorem dX12_isWon_9 : decode cX12_isWon 9 = .ok (.iload_n 2, 1) := by decide +kernel
theorem dX12_isWon_10 : decode cX12_isWon 10 = .ok (.iadd, 1) := by decide +kernel
theorem dX12_isWon_11 : decode cX12_isWon 11 = .ok (.baload, 1) := by decide +kernel
theorem dX12_isWon_12 : decode cX12_isWon 12 = .ok (.ifCond .ne 5, 3) := by decide +kernel
theorem dX12_isWon_15 : decode cX12_isWon 15 = .ok (.iconst 0, 1) := by decide +kernel
theorem dX12_isWon_16 : decode cX12_isWon 16 = .ok (.ireturn, 1) := by decide +kernel
theorem dX12_isWon_17 : decode cX12_isWon 17 = .ok (.iload_n 3, 1) := by decide +kernel
theorem dX12_isWon_18 : decode cX12_isWon 18 = .ok (.ifCond .ne 7, 3) := by decide +kernel
theorem dX12_isWon_21 : decode cX12_isWon 21 = .ok (.iconst 1, 1) := by decide +kernel
theorem dX12_isWon_22 : decode cX12_isWon 22 = .ok (.goto 4, 3) := by decide +kernel
theorem dX12_isWon_25 : decode cX12_isWon 25 = .ok (.iconst 0, 1) := by decide +kernel
theorem dX12_isWon_26 : decode cX12_isWon 26 = .ok (.istore 4, 2) := by decide +kernel
theorem dX12_isWon_28 : decode cX12_isWon 28 = .ok (.iconst 0, 1) := by decide +kernel
theorem dX12_isWon_29 : decode cX12_isWon 29 = .ok (.istore 5, 2) := by decide +kernel
theorem dX12_isWon_31 : decode cX12_isWon 31 = .ok (.iload 5, 2) := by decide +kernel
theorem dX12_isWon_33 : decode cX12_isWon 33 = .ok (.bipush 7, 2) := by decide +kernel
theorem dX12_isWon_35 : decode cX12_isWon 35 = .ok (.if_icmp .ge 53, 3) := by decide +kernel
theorem dX12_isWon_38 : decode cX12_isWon 38 = .ok (.iload 4, 2) := by decide +kernel
theorem dX12_isWon_40 : decode cX12_isWon 40 = .ok (.ifCond .ne 35, 3) := by decide +kernel
theorem dX12_isWon_43 : decode cX12_isWon 43 = .ok (.iload_n 3, 1) := by decide +kernel
theorem dX12_isWon_44 : decode cX12_isWon 44 = .ok (.iload 5, 2) := by decide +kernel
theorem dX12_isWon_46 : decode cX12_isWon 46 = .ok (.invokestatic 81, 3) := by decide +kernel
theorem dX12_isWon_49 : decode cX12_isWon 49 = .ok (.ifCond .eq 30, 3) := by decide +kernel
theorem dX12_isWon_52 : decode cX12_isWon 52 = .ok (.aload_n 0, 1) := by decide +kernel
theorem dX12_isWon_53 : decode cX12_isWon 53 = .ok (.getfield 43, 3) := by decide +kernel
theorem dX12_isWon_56 : decode cX12_isWon 56 = .ok (.iconst 1, 1) := by decide +kernel
theorem dX12_isWon_57 : decode cX12_isWon 57 = .ok (.iload_n 1, 1) := by decide +kernel
theorem dX12_isWon_58 : decode cX12_isWon 58 = .ok (.isub, 1) := by decide +kernel
theorem dX12_isWon_59 : decode cX12_isWon 59 = .ok (.iload_n 3, 1) := by decide +kernel
theorem dX12_isWon_60 : decode cX12_isWon 60 = .ok (.iconst 1, 1) := by decide +kernel
theorem dX12_isWon_61 : decode cX12_isWon 61 = .ok (.iload 5, 2) := by decide +kernel
theorem dX12_isWon_63 : decode cX12_isWon 63 = .ok (.ishl, 1) := by decide +kernel
theorem dX12_isWon_64 : decode cX12_isWon 64 = .ok (.iconst (-1), 1) := by decide +kernel
theorem dX12_isWon_65 : decode cX12_isWon 65 = .ok (.ixor, 1) := by decide +kernel
theorem dX12_isWon_66 : decode cX12_isWon 66 = .ok (.iand, 1) := by decide +kernel
theorem dX12_isWon_67 : decode cX12_isWon 67 = .ok (.iload_n 2, 1) := by decide +kernel
theorem dX12_isWon_68 : decode cX12_isWon 68 = .ok (.invokestatic 405, 3) := by decide +kernel
theorem dX12_isWon_71 : decode cX12_isWon 71 = .ok (.baload, 1) := by decide +kernel
theorem dX12_isWon_72 : decode cX12_isWon 72 = .ok (.ifCond .ne 7, 3) := by decide +kernel
theorem dX12_isWon_75 : decode cX12_isWon 75 = .ok (.iconst 1, 1) := by decide +kernel
theorem dX12_isWon_76 : decode cX12_isWon 76 = .ok (.goto 4, 3) := by decide +kernel
theorem dX12_isWon_79 : decode cX12_isWon 79 = .ok (.iconst 0, 1) := by decide +kernel
theorem dX12_isWon_80 : decode cX12_isWon 80 = .ok (.istore 4, 2) := by decide +kernel
theorem dX12_isWon_82 : decode cX12_isWon 82 = .ok (.iinc 5 1, 3) := by decide +kernel
theorem dX12_isWon_85 : decode cX12_isWon 85 = .ok (.goto (-54), 3) := by decide +kernel
theorem dX12_isWon_88 : decode cX12_isWon 88 = .ok (.iload 4, 2) := by decide +kernel
theorem dX12_isWon_90 : decode cX12_isWon 90 = .ok (.ireturn, 1) := by decide +kernel
theorem dX12_duels_0 : decode cX12_duels 0 = .ok (.iconst 1, 1) := by decide +kernel
theorem dX12_duels_1 : decode cX12_duels 1 = .ok (.aload_n 0, 1) := by decide +kernel
theorem dX12_duels_2 : decode cX12_duels 2 = .ok (.iload_n 1, 1) := by decide +kernel
theorem dX12_duels_3 : decode cX12_duels 3 = .ok (.bipush 9, 2) := by decide +kernel
theorem dX12_duels_5 : decode cX12_duels 5 = .ok (.invokevirtual 63, 3) := by decide +kernel
theorem dX12_duels_8 : decode cX12_duels 8 = .ok (.ishl, 1) := by decide +kernel
theorem dX12_duels_9 : decode cX12_duels 9 = .ok (.istore_n 3, 1) := by decide +kernel
theorem dX12_duels_10 : decode cX12_duels 10 = .ok (.iconst 1, 1) := by decide +kernel
theorem dX12_duels_11 : decode cX12_duels 11 = .ok (.aload_n 0, 1) := by decide +kernel
theorem dX12_duels_12 : decode cX12_duels 12 = .ok (.iload_n 2, 1) := by decide +kernel
theorem dX12_duels_13 : decode cX12_duels 13 = .ok (.bipush 9, 2) := by decide +kernel
theorem dX12_duels_15 : decode cX12_duels 15 = .ok (.invokevirtual 63, 3) := by decide +kernel
theorem dX12_duels_18 : decode cX12_duels 18 = .ok (.ishl, 1) := by decide +kernel
theorem dX12_duels_19 : decode cX12_duels 19 = .ok (.istore 4, 2) := by decide +kernel
theorem dX12_duels_21 : decode cX12_duels 21 = .ok (.iconst 0, 1) := by decide +kernel
theorem dX12_duels_22 : decode cX12_duels 22 = .ok (.istore 5, 2) := by decide +kernel
theorem dX12_duels_24 : decode cX12_duels 24 = .ok (.iload 5, 2) := by decide +kernel
theorem dX12_duels_26 : decode cX12_duels 26 = .ok (.iload_n 3, 1) := by decide +kernel
theorem dX12_duels_27 : decode cX12_duels 27 = .ok (.if_icmp .ge 35, 3) := by decide +kernel
theorem dX12_duels_30 : decode cX12_duels 30 = .ok (.aload_n 0, 1) := by decide +kernel
theorem dX12_duels_31 : decode cX12_duels 31 = .ok (.getfield 47, 3) := by decide +kernel
theorem dX12_duels_34 : decode cX12_duels 34 = .ok (.iload 5, 2) := by decide +kernel
theorem dX12_duels_36 : decode cX12_duels 36 = .ok (.aload_n 0, 1) := by decide +kernel
theorem dX12_duels_37 : decode cX12_duels 37 = .ok (.aload_n 0, 1) := by decide +kernel
theorem dX12_duels_38 : decode cX12_duels 38 = .ok (.iload_n 1, 1) := by decide +kernel
theorem dX12_duels_39 : decode cX12_duels 39 = .ok (.iload 5, 2) := by decide +kernel
theorem dX12_duels_41 : decode cX12_duels 41 = .ok (.invokevirtual 408, 3) := by decide +kernel
theorem dX12_duels_44 : decode cX12_duels 44 = .ok (.invokevirtual 92, 3) := by decide +kernel
theorem dX12_duels_47 : decode cX12_duels 47 = .ok (.ifCond .eq 7, 3) := by decide +kernel
theorem dX12_duels_50 : decode cX12_duels 50 = .ok (.iconst 1, 1) := by decide +kernel
theorem dX12_duels_51 : decode cX12_duels 51 = .ok (.goto 4, 3) := by decide +kernel
theorem dX12_duels_54 : decode cX12_duels 54 = .ok (.iconst 0, 1) := by decide +kernel
theorem dX12_duels_55 : decode cX12_duels 55 = .ok (.bastore, 1) := by decide +kernel
theorem dX12_duels_56 : decode cX12_duels 56 = .ok (.iinc 5 1, 3) := by decide +kernel
theorem dX12_duels_59 : decode cX12_duels 59 = .ok (.goto (-35), 3) := by decide +kernel
theorem dX12_duels_62 : decode cX12_duels 62 = .ok (.iconst 0, 1) := by decide +kernel
theorem dX12_duels_63 : decode cX12_duels 63 = .ok (.istore 5, 2) := by decide +kernel
theorem dX12_duels_65 : decode cX12_duels 65 = .ok (.iload 5, 2) := by decide +kernel
theorem dX12_duels_67 : decode cX12_duels 67 = .ok (.iload 4, 2) := by decide +kernel
theorem dX12_duels_69 : decode cX12_duels 69 = .ok (.if_icmp .ge 39, 3) := by decide +kernel
theorem dX12_duels_72 : decode cX12_duels 72 = .ok (.aload_n 0, 1) := by decide +kernel
theorem dX12_duels_73 : decode cX12_duels 73 = .ok (.getfield 47, 3) := by decide +kernel
theorem dX12_duels_76 : decode cX12_duels 76 = .ok (.sipush 128, 3) := by decide +kernel
theorem dX12_duels_79 : decode cX12_duels 79 = .ok (.iload 5, 2) := by decide +kernel
theorem dX12_duels_81 : decode cX12_duels 81 = .ok (.iadd, 1) := by decide +kernel
theorem dX12_duels_82 : decode cX12_duels 82 = .ok (.aload_n 0, 1) := by decide +kernel
theorem dX12_duels_83 : decode cX12_duels 83 = .ok (.aload_n 0, 1) := by decide +kernel
theorem dX12_duels_84 : decode cX12_duels 84 = .ok (.iload_n 2, 1) := by decide +kernel
theorem dX12_duels_85 : decode cX12_duels 85 = .ok (.iload 5, 2) := by decide +kernel
theorem dX12_duels_87 : decode cX12_duels 87 = .ok (.invokevirtual 408, 3) := by decide +kernel
theorem dX12_duels_90 : decode cX12_duels 90 = .ok (.invokevirtual 92, 3) := by decide +kernel
theorem dX12_duels_93 : decode cX12_duels 93 = .ok (.ifCond .eq 7, 3) := by decide +kernel
theorem dX12_duels_96 : decode cX12_duels 96 = .ok (.iconst 1, 1) := by decide +kernel
theorem dX12_duels_97 : decode cX12_duels 97 = .ok (.goto 4, 3) := by decide +kernel
theorem dX12_duels_100 : decode cX12_duels 100 = .ok (.iconst 0, 1) := by decide +kernel
theorem dX12_duels_101 : decode cX12_duels 101 = .ok (.bastore, 1) := by decide +kernel
theorem dX12_duels_102 : decode cX12_duels 102 = .ok (.iinc 5 1, 3) := by decide +kernel
theorem dX12_duels_105 : decode cX12_duels 105 = .ok (.goto (-40), 3) := by decide +kernel
theorem dX12_duels_108 : decode cX12_duels 108 = .ok (.iconst 0, 1) := by decide +kernel
theorem dX12_duels_109 : decode cX12_duels 109 = .ok (.istore 5, 2) := by decide +kernel
theorem dX12_duels_111 : decode cX12_duels 111 = .ok (.iload 5, 2) := by decide +kernel
theorem dX12_duels_113 : decode cX12_duels 113 = .ok (.bipush 14, 2) := by decide +kernel
theorem dX12_duels_115 : decode cX12_duels 115 = .ok (.if_icmp .gt 103, 3) := by decide +kernel
theorem dX12_duels_118 : decode cX12_duels 118 = .ok (.iconst 0, 1) := by decide +kernel
theorem dX12_duels_119 : decode cX12_duels 119 = .ok (.istore 6, 2) := by decide +kernel
theorem dX12_duels_121 : decode cX12_duels 121 = .ok (.iload 6, 2) := by decide +kernel
theorem dX12_duels_123 : decode cX12_duels 123 = .ok (.iload_n 3, 1) := by decide +kernel
theorem dX12_duels_124 : decode cX12_duels 124 = .ok (.if_icmp .ge 88, 3) := by decide +kernel
theorem dX12_duels_127 : decode cX12_duels 127 = .ok (.iconst 0, 1) := by decide +kernel
theorem dX12_duels_128 : decode cX12_duels 128 = .ok (.istore 7, 2) := by decide +kernel
theorem dX12_duels_130 : decode cX12_duels 130 = .ok (.iload 7, 2) := by decide +kernel
theorem dX12_duels_132 : decode cX12_duels 132 = .ok (.iload 4, 2) := by decide +kernel
theorem dX12_duels_134 : decode cX12_duels 134 = .ok (.if_icmp .ge 72, 3) := by decide +kernel
theorem dX12_duels_137 : decode cX12_duels 137 = .ok (.iload 6, 2) := by decide +kernel
theorem dX12_duels_139 : decode cX12_duels 139 = .ok (.invokestatic 278, 3) := by decide +kernel
theorem dX12_duels_142 : decode cX12_duels 142 = .ok (.iload 7, 2) := by decide +kernel
theorem dX12_duels_144 : decode cX12_duels 144 = .ok (.invokestatic 278, 3) := by decide +kernel
theorem dX12_duels_147 : decode cX12_duels 147 = .ok (.iadd, 1) := by decide +kernel
theorem dX12_duels_148 : decode cX12_duels 148 = .ok (.iload 5, 2) := by decide +kernel
theorem dX12_duels_150 : decode cX12_duels 150 = .ok (.if_icmp .eq 6, 3) := by decide +kernel
theorem dX12_duels_153 : decode cX12_duels 153 = .ok (.goto 47, 3) := by decide +kernel
theorem dX12_duels_156 : decode cX12_duels 156 = .ok (.aload_n 0, 1) := by decide +kernel
theorem dX12_duels_157 : decode cX12_duels 157 = .ok (.getfield 43, 3) := by decide +kernel
theorem dX12_duels_160 : decode cX12_duels 160 = .ok (.iconst 0, 1) := by decide +kernel
theorem dX12_duels_161 : decode cX12_duels 161 = .ok (.iload 6, 2) := by decide +kernel
theorem dX12_duels_163 : decode cX12_duels 163 = .ok (.iload 7, 2) := by decide +kernel
theorem dX12_duels_165 : decode cX12_duels 165 = .ok (.invokestatic 405, 3) := by decide +kernel
theorem dX12_duels_168 : decode cX12_duels 168 = .ok (.aload_n 0, 1) := by decide +kernel
theorem dX12_duels_169 : decode cX12_duels 169 = .ok (.iconst 0, 1) := by decide +kernel
theorem dX12_duels_170 : decode cX12_duels 170 = .ok (.iload 6, 2) := by decide +kernel
theorem dX12_duels_172 : decode cX12_duels 172 = .ok (.iload 7, 2) := by decide +kernel
theorem dX12_duels_174 : decode cX12_duels 174 = .ok (.invokevirtual 411, 3) := by decide +kernel
theorem dX12_duels_177 : decode cX12_duels 177 = .ok (.bastore, 1) := by decide +kernel
theorem dX12_duels_178 : decode cX12_duels 178 = .ok (.aload_n 0, 1) := by decide +kernel
theorem dX12_duels_179 : decode cX12_duels 179 = .ok (.getfield 43, 3) := by decide +kernel
theorem dX12_duels_182 : decode cX12_duels 182 = .ok (.iconst 1, 1) := by decide +kernel
theorem dX12_duels_183 : decode cX12_duels 183 = .ok (.iload 7, 2) := by decide +kernel
theorem dX12_duels_185 : decode cX12_duels 185 = .ok (.iload 6, 2) := by decide +kernel
theorem dX12_duels_187 : decode cX12_duels 187 = .ok (.invokestatic 405, 3) := by decide +kernel
theorem dX12_duels_190 : decode cX12_duels 190 = .ok (.aload_n 0, 1) := by decide +kernel
theorem dX12_duels_191 : decode cX12_duels 191 = .ok (.iconst 1, 1) := by decide +kernel
theorem dX12_duels_192 : decode cX12_duels 192 = .ok (.iload 7, 2) := by decide +kernel
theorem dX12_duels_194 : decode cX12_duels 194 = .ok (.iload 6, 2) := by decide +kernel
theorem dX12_duels_196 : decode cX12_duels 196 = .ok (.invokevirtual 411, 3) := by decide +kernel
theorem dX12_duels_199 : decode cX12_duels 199 = .ok (.bastore, 1) := by decide +kernel
theorem dX12_duels_200 : decode cX12_duels 200 = .ok (.iinc 7 1, 3) := by decide +kernel
theorem dX12_duels_203 : decode cX12_duels 203 = .ok (.goto (-73), 3) := by decide +kernel
theorem dX12_duels_206 : decode cX12_duels 206 = .ok (.iinc 6 1, 3) := by decide +kernel
theorem dX12_duels_209 : decode cX12_duels 209 = .ok (.goto (-88), 3) := by decide +kernel
theorem dX12_duels_212 : decode cX12_duels 212 = .ok (.iinc 5 1, 3) := by decide +kernel
theorem dX12_duels_215 : decode cX12_duels 215 = .ok (.goto (-104), 3) := by decide +kernel
theorem dX12_duels_218 : decode cX12_duels 218 = .ok (.return_, 1) := by decide +kernel
theorem dX12_tooMany_0 : decode cX12_tooMany 0 = .ok (.aload_n 0, 1) := by decide +kernel
theorem dX12_tooMany_1 : decode cX12_tooMany 1 = .ok (.iload_n 1, 1) := by decide +kernel
theorem dX12_tooMany_2 : decode cX12_tooMany 2 = .ok (.bipush 9, 2) := by decide +kernel
theorem dX12_tooMany_4 : decode cX12_tooMany 4 = .ok (.invokevirtual 63, 3) := by decide +kernel
theorem dX12_tooMany_7 : decode cX12_tooMany 7 = .ok (.bipush 7, 2) := by decide +kernel
theorem dX12_tooMany_9 : decode cX12_tooMany 9 = .ok (.if_icmp .gt 15, 3) := by decide +kernel
theorem dX12_tooMany_12 : decode cX12_tooMany 12 = .ok (.aload_n 0, 1) := by decide +kernel
theorem dX12_tooMany_13 : decode cX12_tooMany 13 = .ok (.iload_n 2, 1) := by decide +kernel
theorem dX12_tooMany_14 : decode cX12_tooMany 14 = .ok (.bipush 9, 2) := by decide +kernel
theorem dX12_tooMany_16 : decode cX12_tooMany 16 = .ok (.invokevirtual 63, 3) := by decide +kernel
theorem dX12_tooMany_19 : decode cX12_tooMany 19 = .ok (.bipush 7, 2) := by decide +kernel
theorem dX12_tooMany_21 : decode cX12_tooMany 21 = .ok (.if_icmp .le 7, 3) := by decide +kernel
theorem dX12_tooMany_24 : decode cX12_tooMany 24 = .ok (.iconst 1, 1) := by decide +kernel
theorem dX12_tooMany_25 : decode cX12_tooMany 25 = .ok (.goto 4, 3) := by decide +kernel
theorem dX12_tooMany_28 : decode cX12_tooMany 28 = .ok (.iconst 0, 1) := by decide +kernel
theorem dX12_tooMany_29 : decode cX12_tooMany 29 = .ok (.ireturn, 1) := by decide +kernel
theorem dX12_duel_0 : decode cX12_duel 0 = .ok (.aload_n 0, 1) := by decide +kernel
theorem dX12_duel_1 : decode cX12_duel 1 = .ok (.iconst 0, 1) := by decide +kernel
theorem dX12_duel_2 : decode cX12_duel 2 = .ok (.putfield 3, 3) := by decide +kernel
theorem dX12_duel_5 : decode cX12_duel 5 = .ok (.aload_n 0, 1) := by decide +kernel
theorem dX12_duel_6 : decode cX12_duel 6 = .ok (.aload_n 0, 1) := by decide +kernel
theorem dX12_duel_7 : decode cX12_duel 7 = .ok (.iload_n 1, 1) := by decide +kernel
theorem dX12_duel_8 : decode cX12_duel 8 = .ok (.invokevirtual 322, 3) := by decide +kernel
theorem dX12_duel_11 : decode cX12_duel 11 = .ok (.ifCond .ne 11, 3) := by decide +kernel
theorem dX12_duel_14 : decode cX12_duel 14 = .ok (.aload_n 0, 1) := by decide +kernel
theorem dX12_duel_15 : decode cX12_duel 15 = .ok (.iload_n 2, 1) := by decide +kernel
theorem dX12_duel_16 : decode cX12_duel 16 = .ok (.invokevirtual 322, 3) := by decide +kernel
theorem dX12_duel_19 : decode cX12_duel 19 = .ok (.ifCond .eq 7, 3) := by decide +kernel
theorem dX12_duel_22 : decode cX12_duel 22 = .ok (.iconst 1, 1) := by decide +kernel
theorem dX12_duel_23 : decode cX12_duel 23 = .ok (.goto 4, 3) := by decide +kernel
theorem dX12_duel_26 : decode cX12_duel 26 = .ok (.iconst 0, 1) := by decide +kernel
theorem dX12_duel_27 : decode cX12_duel 27 = .ok (.iconst 1, 1) := by decide +kernel
theorem dX12_duel_28 : decode cX12_duel 28 = .ok (.invokevirtual 269, 3) := by decide +kernel
theorem dX12_duel_31 : decode cX12_duel 31 = .ok (.ifCond .ne 21, 3) := by decide +kernel
theorem dX12_duel_34 : decode cX12_duel 34 = .ok (.aload_n 0, 1) := by decide +kernel
theorem dX12_duel_35 : decode cX12_duel 35 = .ok (.iload_n 1, 1) := by decide +kernel
theorem dX12_duel_36 : decode cX12_duel 36 = .ok (.iload_n 2, 1) := by decide +kernel
theorem dX12_duel_37 : decode cX12_duel 37 = .ok (.if_icmp .ne 7, 3) := by decide +kernel
theorem dX12_duel_40 : decode cX12_duel 40 = .ok (.iconst 1, 1) := by decide +kernel
theorem dX12_duel_41 : decode cX12_duel 41 = .ok (.goto 4, 3) := by decide +kernel
theorem dX12_duel_44 : decode cX12_duel 44 = .ok (.iconst 0, 1) := by decide +kernel
theorem dX12_duel_45 : decode cX12_duel 45 = .ok (.iconst 2, 1) := by decide +kernel
theorem dX12_duel_46 : decode cX12_duel 46 = .ok (.invokevirtual 269, 3) := by decide +kernel
theorem dX12_duel_49 : decode cX12_duel 49 = .ok (.ifCond .eq 5, 3) := by decide +kernel
theorem dX12_duel_52 : decode cX12_duel 52 = .ok (.iconst 0, 1) := by decide +kernel
theorem dX12_duel_53 : decode cX12_duel 53 = .ok (.ireturn, 1) := by decide +kernel
theorem dX12_duel_54 : decode cX12_duel 54 = .ok (.aload_n 0, 1) := by decide +kernel
theorem dX12_duel_55 : decode cX12_duel 55 = .ok (.iload_n 1, 1) := by decide +kernel
theorem dX12_duel_56 : decode cX12_duel 56 = .ok (.iload_n 2, 1) := by decide +kernel
theorem dX12_duel_57 : decode cX12_duel 57 = .ok (.invokevirtual 414, 3) := by decide +kernel
theorem dX12_duel_60 : decode cX12_duel 60 = .ok (.ifCond .eq 6, 3) := by decide +kernel
theorem dX12_duel_63 : decode cX12_duel 63 = .ok (.bipush (-3), 2) := by decide +kernel
theorem dX12_duel_65 : decode cX12_duel 65 = .ok (.ireturn, 1) := by decide +kernel
theorem dX12_duel_66 : decode cX12_duel 66 = .ok (.aload_n 0, 1) := by decide +kernel
theorem dX12_duel_67 : decode cX12_duel 67 = .ok (.iload_n 1, 1) := by decide +kernel
theorem dX12_duel_68 : decode cX12_duel 68 = .ok (.iload_n 2, 1) := by decide +kernel
theorem dX12_duel_69 : decode cX12_duel 69 = .ok (.invokevirtual 417, 3) := by decide +kernel
theorem dX12_duel_72 : decode cX12_duel 72 = .ok (.aload_n 0, 1) := by decide +kernel
theorem dX12_duel_73 : decode cX12_duel 73 = .ok (.getfield 43, 3) := by decide +kernel
theorem dX12_duel_76 : decode cX12_duel 76 = .ok (.iconst 0, 1) := by decide +kernel
theorem dX12_duel_77 : decode cX12_duel 77 = .ok (.iconst 1, 1) := by decide +kernel
theorem dX12_duel_78 : decode cX12_duel 78 = .ok (.aload_n 0, 1) := by decide +kernel
theorem dX12_duel_79 : decode cX12_duel 79 = .ok (.iload_n 1, 1) := by decide +kernel
theorem dX12_duel_80 : decode cX12_duel 80 = .ok (.bipush 9, 2) := by decide +kernel
theorem dX12_duel_82 : decode cX12_duel 82 = .ok (.invokevirtual 63, 3) := by decide +kernel
theorem dX12_duel_85 : decode cX12_duel 85 = .ok (.ishl, 1) := by decide +kernel
theorem dX12_duel_86 : decode cX12_duel 86 = .ok (.iconst 1, 1) := by decide +kernel
theorem dX12_duel_87 : decode cX12_duel 87 = .ok (.isub, 1) := by decide +kernel
theorem dX12_duel_88 : decode cX12_duel 88 = .ok (.iconst 1, 1) := by decide +kernel
theorem dX12_duel_89 : decode cX12_duel 89 = .ok (.aload_n 0, 1) := by decide +kernel
theorem dX12_duel_90 : decode cX12_duel 90 = .ok (.iload_n 2, 1) := by decide +kernel
theorem dX12_duel_91 : decode cX12_duel 91 = .ok (.bipush 9, 2) := by decide +kernel
theorem dX12_duel_93 : decode cX12_duel 93 = .ok (.invokevirtual 63, 3) := by decide +kernel
theorem dX12_duel_96 : decode cX12_duel 96 = .ok (.ishl, 1) := by decide +kernel
theorem dX12_duel_97 : decode cX12_duel 97 = .ok (.iconst 1, 1) := by decide +kernel
theorem dX12_duel_98 : decode cX12_duel 98 = .ok (.isub, 1) := by decide +kernel
theorem dX12_duel_99 : decode cX12_duel 99 = .ok (.invokestatic 405, 3) := by decide +kernel
theorem dX12_duel_102 : decode cX12_duel 102 = .ok (.baload, 1) := by decide +kernel
theorem dX12_duel_103 : decode cX12_duel 103 = .ok (.ifCond .eq 7, 3) := by decide +kernel
theorem dX12_duel_106 : decode cX12_duel 106 = .ok (.iload_n 1, 1) := by decide +kernel
theorem dX12_duel_107 : decode cX12_duel 107 = .ok (.goto 4, 3) := by decide +kernel
theorem dX12_duel_110 : decode cX12_duel 110 = .ok (.iload_n 2, 1) := by decide +kernel
theorem dX12_duel_111 : decode cX12_duel 111 = .ok (.ireturn, 1) := by decide +kernel
theorem dX12_best_0 : decode cX12_best 0 = .ok (.aload_n 0, 1) := by decide +kernel
theorem dX12_best_1 : decode cX12_best 1 = .ok (.iconst 0, 1) := by decide +kernel
theorem dX12_best_2 : decode cX12_best 2 = .ok (.putfield 3, 3) := by decide +kernel
theorem dX12_best_5 : decode cX12_best 5 = .ok (.aload_n 0, 1) := by decide +kernel
theorem dX12_best_6 : decode cX12_best 6 = .ok (.aload_n 0, 1) := by decide +kernel
theorem dX12_best_7 : decode cX12_best 7 = .ok (.iload_n 1, 1) := by decide +kernel
theorem dX12_best_8 : decode cX12_best 8 = .ok (.invokevirtual 322, 3) := by decide +kernel
theorem dX12_best_11 : decode cX12_best 11 = .ok (.ifCond .ne 11, 3) := by decide +kernel
theorem dX12_best_14 : decode cX12_best 14 = .ok (.aload_n 0, 1) := by decide +kernel
theorem dX12_best_15 : decode cX12_best 15 = .ok (.iload_n 2, 1) := by decide +kernel
theorem dX12_best_16 : decode cX12_best 16 = .ok (.invokevirtual 322, 3) := by decide +kernel
theorem dX12_best_19 : decode cX12_best 19 = .ok (.ifCond .eq 7, 3) := by decide +kernel
theorem dX12_best_22 : decode cX12_best 22 = .ok (.iconst 1, 1) := by decide +kernel
theorem dX12_best_23 : decode cX12_best 23 = .ok (.goto 4, 3) := by decide +kernel
theorem dX12_best_26 : decode cX12_best 26 = .ok (.iconst 0, 1) := by decide +kernel
theorem dX12_best_27 : decode cX12_best 27 = .ok (.iconst 1, 1) := by decide +kernel
theorem dX12_best_28 : decode cX12_best 28 = .ok (.invokevirtual 269, 3) := by decide +kernel
theorem dX12_best_31 : decode cX12_best 31 = .ok (.ifCond .ne 21, 3) := by decide +kernel
theorem dX12_best_34 : decode cX12_best 34 = .ok (.aload_n 0, 1) := by decide +kernel
theorem dX12_best_35 : decode cX12_best 35 = .ok (.iload_n 1, 1) := by decide +kernel
theorem dX12_best_36 : decode cX12_best 36 = .ok (.iload_n 2, 1) := by decide +kernel
theorem dX12_best_37 : decode cX12_best 37 = .ok (.if_icmp .ne 7, 3) := by decide +kernel
theorem dX12_best_40 : decode cX12_best 40 = .ok (.iconst 1, 1) := by decide +kernel
theorem dX12_best_41 : decode cX12_best 41 = .ok (.goto 4, 3) := by decide +kernel
theorem dX12_best_44 : decode cX12_best 44 = .ok (.iconst 0, 1) := by decide +kernel
theorem dX12_best_45 : decode cX12_best 45 = .ok (.iconst 2, 1) := by decide +kernel
theorem dX12_best_46 : decode cX12_best 46 = .ok (.invokevirtual 269, 3) := by decide +kernel
theorem dX12_best_49 : decode cX12_best 49 = .ok (.ifCond .eq 5, 3) := by decide +kernel
theorem dX12_best_52 : decode cX12_best 52 = .ok (.iconst 0, 1) := by decide +kernel
theorem dX12_best_53 : decode cX12_best 53 = .ok (.ireturn, 1) := by decide +kernel
theorem dX12_best_54 : decode cX12_best 54 = .ok (.aload_n 0, 1) := by decide +kernel
theorem dX12_best_55 : decode cX12_best 55 = .ok (.iload_n 1, 1) := by decide +kernel
theorem dX12_best_56 : decode cX12_best 56 = .ok (.iload_n 2, 1) := by decide +kernel
theorem dX12_best_57 : decode cX12_best 57 = .ok (.invokevirtual 414, 3) := by decide +kernel
theorem dX12_best_60 : decode cX12_best 60 = .ok (.ifCond .eq 6, 3) := by decide +kernel
theorem dX12_best_63 : decode cX12_best 63 = .ok (.bipush (-3), 2) := by decide +kernel
theorem dX12_best_65 : decode cX12_best 65 = .ok (.ireturn, 1) := by decide +kernel
theorem dX12_best_66 : decode cX12_best 66 = .ok (.aload_n 0, 1) := by decide +kernel
theorem dX12_best_67 : decode cX12_best 67 = .ok (.iload_n 1, 1) := by decide +kernel
theorem dX12_best_68 : decode cX12_best 68 = .ok (.iload_n 2, 1) := by decide +kernel
theorem dX12_best_69 : decode cX12_best 69 = .ok (.invokevirtual 417, 3) := by decide +kernel
theorem dX12_best_72 : decode cX12_best 72 = .ok (.iconst 1, 1) := by decide +kernel
theorem dX12_best_73 : decode cX12_best 73 = .ok (.aload_n 0, 1) := by decide +kernel
theorem dX12_best_74 : decode cX12_best 74 = .ok (.iload_n 1, 1) := by decide +kernel
theorem dX12_best_75 : decode cX12_best 75 = .ok (.bipush 9, 2) := by decide +kernel
theorem dX12_best_77 : decode cX12_best 77 = .ok (.invokevirtual 63, 3) := by decide +kernel
theorem dX12_best_80 : decode cX12_best 80 = .ok (.ishl, 1) := by decide +kernel
theorem dX12_best_81 : decode cX12_best 81 = .ok (.iconst 1, 1) := by decide +kernel
theorem dX12_best_82 : decode cX12_best 82 = .ok (.isub, 1) := by decide +kernel
theorem dX12_best_83 : decode cX12_best 83 = .ok (.istore_n 3, 1) := by decide +kernel
theorem dX12_best_84 : decode cX12_best 84 = .ok (.iconst 1, 1) := by decide +kernel
theorem dX12_best_85 : decode cX12_best 85 = .ok (.aload_n 0, 1) := by decide +kernel
theorem dX12_best_86 : decode cX12_best 86 = .ok (.iload_n 2, 1) := by decide +kernel
theorem dX12_best_87 : decode cX12_best 87 = .ok (.bipush 9, 2) := by decide +kernel
theorem dX12_best_89 : decode cX12_best 89 = .ok (.invokevirtual 63, 3) := by decide +kernel
theorem dX12_best_92 : decode cX12_best 92 = .ok (.ishl, 1) := by decide +kernel
theorem dX12_best_93 : decode cX12_best 93 = .ok (.iconst 1, 1) := by decide +kernel
theorem dX12_best_94 : decode cX12_best 94 = .ok (.isub, 1) := by decide +kernel
theorem dX12_best_95 : decode cX12_best 95 = .ok (.istore 4, 2) := by decide +kernel
theorem dX12_best_97 : decode cX12_best 97 = .ok (.aload_n 0, 1) := by decide +kernel
theorem dX12_best_98 : decode cX12_best 98 = .ok (.getfield 47, 3) := by decide +kernel
theorem dX12_best_101 : decode cX12_best 101 = .ok (.iload_n 3, 1) := by decide +kernel
theorem dX12_best_102 : decode cX12_best 102 = .ok (.baload, 1) := by decide +kernel
theorem dX12_best_103 : decode cX12_best 103 = .ok (.ifCond .ne 5, 3) := by decide +kernel
theorem dX12_best_106 : decode cX12_best 106 = .ok (.iconst (-1), 1) := by decide +kernel
theorem dX12_best_107 : decode cX12_best 107 = .ok (.ireturn, 1) := by decide +kernel
theorem dX12_best_108 : decode cX12_best 108 = .ok (.iconst (-1), 1) := by decide +kernel
theorem dX12_best_109 : decode cX12_best 109 = .ok (.istore 5, 2) := by decide +kernel
theorem dX12_best_111 : decode cX12_best 111 = .ok (.iconst 0, 1) := by decide +kernel
theorem dX12_best_112 : decode cX12_best 112 = .ok (.istore 6, 2) := by decide +kernel
theorem dX12_best_114 : decode cX12_best 114 = .ok (.iload 6, 2) := by decide +kernel
theorem dX12_best_116 : decode cX12_best 116 = .ok (.aload_n 0, 1) := by decide +kernel
theorem dX12_best_117 : decode cX12_best 117 = .ok (.iload_n 2, 1) := by decide +kernel
theorem dX12_best_118 : decode cX12_best 118 = .ok (.bipush 9, 2) := by decide +kernel
theorem dX12_best_120 : decode cX12_best 120 = .ok (.invokevirtual 63, 3) := by decide +kernel
theorem dX12_best_123 : decode cX12_best 123 = .ok (.if_icmp .ge 59, 3) := by decide +kernel
theorem dX12_best_126 : decode cX12_best 126 = .ok (.aload_n 0, 1) := by decide +kernel
theorem dX12_best_127 : decode cX12_best 127 = .ok (.iload_n 2, 1) := by decide +kernel
theorem dX12_best_128 : decode cX12_best 128 = .ok (.bipush 10, 2) := by decide +kernel
theorem dX12_best_130 : decode cX12_best 130 = .ok (.iload 6, 2) := by decide +kernel
theorem dX12_best_132 : decode cX12_best 132 = .ok (.iadd, 1) := by decide +kernel
theorem dX12_best_133 : decode cX12_best 133 = .ok (.invokevirtual 63, 3) := by decide +kernel
theorem dX12_best_136 : decode cX12_best 136 = .ok (.istore 7, 2) := by decide +kernel
theorem dX12_best_138 : decode cX12_best 138 = .ok (.aload_n 0, 1) := by decide +kernel
theorem dX12_best_139 : decode cX12_best 139 = .ok (.getfield 43, 3) := by decide +kernel
theorem dX12_best_142 : decode cX12_best 142 = .ok (.iconst 1, 1) := by decide +kernel
theorem dX12_best_143 : decode cX12_best 143 = .ok (.iload 4, 2) := by decide +kernel
theorem dX12_best_145 : decode cX12_best 145 = .ok (.iconst 1, 1) := by decide +kernel
theorem dX12_best_146 : decode cX12_best 146 = .ok (.iload 6, 2) := by decide +kernel
theorem dX12_best_148 : decode cX12_best 148 = .ok (.ishl, 1) := by decide +kernel
theorem dX12_best_149 : decode cX12_best 149 = .ok (.iconst (-1), 1) := by decide +kernel
theorem dX12_best_150 : decode cX12_best 150 = .ok (.ixor, 1) := by decide +kernel
theorem dX12_best_151 : decode cX12_best 151 = .ok (.iand, 1) := by decide +kernel
theorem dX12_best_152 : decode cX12_best 152 = .ok (.iload_n 3, 1) := by decide +kernel
theorem dX12_best_153 : decode cX12_best 153 = .ok (.invokestatic 405, 3) := by decide +kernel
theorem dX12_best_156 : decode cX12_best 156 = .ok (.baload, 1) := by decide +kernel
theorem dX12_best_157 : decode cX12_best 157 = .ok (.ifCond .ne 19, 3) := by decide +kernel
theorem dX12_best_160 : decode cX12_best 160 = .ok (.iload 5, 2) := by decide +kernel
theorem dX12_best_162 : decode cX12_best 162 = .ok (.ifCond .lt 10, 3) := by decide +kernel
theorem dX12_best_165 : decode cX12_best 165 = .ok (.iload 7, 2) := by decide +kernel
theorem dX12_best_167 : decode cX12_best 167 = .ok (.iload 5, 2) := by decide +kernel
theorem dX12_best_169 : decode cX12_best 169 = .ok (.if_icmp .ge 7, 3) := by decide +kernel
theorem dX12_best_172 : decode cX12_best 172 = .ok (.iload 7, 2) := by decide +kernel
theorem dX12_best_174 : decode cX12_best 174 = .ok (.istore 5, 2) := by decide +kernel
theorem dX12_best_176 : decode cX12_best 176 = .ok (.iinc 6 1, 3) := by decide +kernel
theorem dX12_best_179 : decode cX12_best 179 = .ok (.goto (-65), 3) := by decide +kernel
theorem dX12_best_182 : decode cX12_best 182 = .ok (.iload 5, 2) := by decide +kernel
theorem dX12_best_184 : decode cX12_best 184 = .ok (.ireturn, 1) := by decide +kernel
theorem dX12_hears_0 : decode cX12_hears 0 = .ok (.iload_n 1, 1) := by decide +kernel
theorem dX12_hears_1 : decode cX12_hears 1 = .ok (.istore 5, 2) := by decide +kernel
theorem dX12_hears_3 : decode cX12_hears 3 = .ok (.iconst 0, 1) := by decide +kernel
theorem dX12_hears_4 : decode cX12_hears 4 = .ok (.istore 6, 2) := by decide +kernel
theorem dX12_hears_6 : decode cX12_hears 6 = .ok (.iload 6, 2) := by decide +kernel
theorem dX12_hears_8 : decode cX12_hears 8 = .ok (.iload_n 3, 1) := by decide +kernel
theorem dX12_hears_9 : decode cX12_hears 9 = .ok (.if_icmp .gt 122, 3) := by decide +kernel
theorem dX12_hears_12 : decode cX12_hears 12 = .ok (.iconst 0, 1) := by decide +kernel
theorem dX12_hears_13 : decode cX12_hears 13 = .ok (.istore 7, 2) := by decide +kernel
theorem dX12_hears_15 : decode cX12_hears 15 = .ok (.iconst 0, 1) := by decide +kernel
theorem dX12_hears_16 : decode cX12_hears 16 = .ok (.istore 8, 2) := by decide +kernel
theorem dX12_hears_18 : decode cX12_hears 18 = .ok (.iload 8, 2) := by decide +kernel
theorem dX12_hears_20 : decode cX12_hears 20 = .ok (.aload_n 0, 1) := by decide +kernel
theorem dX12_hears_21 : decode cX12_hears 21 = .ok (.invokevirtual 75, 3) := by decide +kernel
theorem dX12_hears_24 : decode cX12_hears 24 = .ok (.if_icmp .ge 43, 3) := by decide +kernel
theorem dX12_hears_27 : decode cX12_hears 27 = .ok (.iload 7, 2) := by decide +kernel
theorem dX12_hears_29 : decode cX12_hears 29 = .ok (.iload 5, 2) := by decide +kernel
theorem dX12_hears_31 : decode cX12_hears 31 = .ok (.iload 4, 2) := by decide +kernel
theorem dX12_hears_33 : decode cX12_hears 33 = .ok (.iconst (-1), 1) := by decide +kernel
theorem dX12_hears_34 : decode cX12_hears 34 = .ok (.ixor, 1) := by decide +kernel
theorem dX12_hears_35 : decode cX12_hears 35 = .ok (.iand, 1) := by decide +kernel
theorem dX12_hears_36 : decode cX12_hears 36 = .ok (.iload 8, 2) := by decide +kernel
theorem dX12_hears_38 : decode cX12_hears 38 = .ok (.invokestatic 81, 3) := by decide +kernel
theorem dX12_hears_41 : decode cX12_hears 41 = .ok (.ifCond .eq 16, 3) := by decide +kernel
theorem dX12_hears_44 : decode cX12_hears 44 = .ok (.iconst 1, 1) := by decide +kernel
theorem dX12_hears_45 : decode cX12_hears 45 = .ok (.aload_n 0, 1) := by decide +kernel
theorem dX12_hears_46 : decode cX12_hears 46 = .ok (.iload 8, 2) := by decide +kernel
theorem dX12_hears_48 : decode cX12_hears 48 = .ok (.iload 6, 2) := by decide +kernel
theorem dX12_hears_50 : decode cX12_hears 50 = .ok (.invokevirtual 334, 3) := by decide +kernel
theorem dX12_hears_53 : decode cX12_hears 53 = .ok (.ishl, 1) := by decide +kernel
theorem dX12_hears_54 : decode cX12_hears 54 = .ok (.goto 4, 3) := by decide +kernel
theorem dX12_hears_57 : decode cX12_hears 57 = .ok (.iconst 0, 1) := by decide +kernel
theorem dX12_hears_58 : decode cX12_hears 58 = .ok (.ior, 1) := by decide +kernel
theorem dX12_hears_59 : decode cX12_hears 59 = .ok (.istore 7, 2) := by decide +kernel
theorem dX12_hears_61 : decode cX12_hears 61 = .ok (.iinc 8 1, 3) := by decide +kernel
theorem dX12_hears_64 : decode cX12_hears 64 = .ok (.goto (-46), 3) := by decide +kernel
theorem dX12_hears_67 : decode cX12_hears 67 = .ok (.iconst 0, 1) := by decide +kernel
theorem dX12_hears_68 : decode cX12_hears 68 = .ok (.istore 8, 2) := by decide +kernel
theorem dX12_hears_70 : decode cX12_hears 70 = .ok (.iload 8, 2) := by decide +kernel
theorem dX12_hears_72 : decode cX12_hears 72 = .ok (.aload_n 0, 1) := by decide +kernel
theorem dX12_hears_73 : decode cX12_hears 73 = .ok (.invokevirtual 75, 3) := by decide +kernel
theorem dX12_hears_76 : decode cX12_hears 76 = .ok (.if_icmp .ge 49, 3) := by decide +kernel
theorem dX12_hears_79 : decode cX12_hears 79 = .ok (.iload 5, 2) := by decide +kernel
theorem dX12_hears_81 : decode cX12_hears 81 = .ok (.aload_n 0, 1) := by decide +kernel
theorem dX12_hears_82 : decode cX12_hears 82 = .ok (.iload 8, 2) := by decide +kernel
theorem dX12_hears_84 : decode cX12_hears 84 = .ok (.iconst 0, 1) := by decide +kernel
theorem dX12_hears_85 : decode cX12_hears 85 = .ok (.invokevirtual 63, 3) := by decide +kernel
theorem dX12_hears_88 : decode cX12_hears 88 = .ok (.iload_n 2, 1) := by decide +kernel
theorem dX12_hears_89 : decode cX12_hears 89 = .ok (.if_icmp .ne 26, 3) := by decide +kernel
theorem dX12_hears_92 : decode cX12_hears 92 = .ok (.iload 7, 2) := by decide +kernel
theorem dX12_hears_94 : decode cX12_hears 94 = .ok (.aload_n 0, 1) := by decide +kernel
theorem dX12_hears_95 : decode cX12_hears 95 = .ok (.iload 8, 2) := by decide +kernel
theorem dX12_hears_97 : decode cX12_hears 97 = .ok (.iload 6, 2) := by decide +kernel
theorem dX12_hears_99 : decode cX12_hears 99 = .ok (.invokevirtual 334, 3) := by decide +kernel
theorem dX12_hears_102 : decode cX12_hears 102 = .ok (.invokestatic 81, 3) := by decide +kernel
theorem dX12_hears_105 : decode cX12_hears 105 = .ok (.ifCond .eq 10, 3) := by decide +kernel
theorem dX12_hears_108 : decode cX12_hears 108 = .ok (.iconst 1, 1) := by decide +kernel
theorem dX12_hears_109 : decode cX12_hears 109 = .ok (.iload 8, 2) := by decide +kernel
theorem dX12_hears_111 : decode cX12_hears 111 = .ok (.ishl, 1) := by decide +kernel
theorem dX12_hears_112 : decode cX12_hears 112 = .ok (.goto 4, 3) := by decide +kernel
theorem dX12_hears_115 : decode cX12_hears 115 = .ok (.iconst 0, 1) := by decide +kernel
theorem dX12_hears_116 : decode cX12_hears 116 = .ok (.ior, 1) := by decide +kernel
theorem dX12_hears_117 : decode cX12_hears 117 = .ok (.istore 5, 2) := by decide +kernel
theorem dX12_hears_119 : decode cX12_hears 119 = .ok (.iinc 8 1, 3) := by decide +kernel
theorem dX12_hears_122 : decode cX12_hears 122 = .ok (.goto (-52), 3) := by decide +kernel
theorem dX12_hears_125 : decode cX12_hears 125 = .ok (.iinc 6 1, 3) := by decide +kernel
theorem dX12_hears_128 : decode cX12_hears 128 = .ok (.goto (-122), 3) := by decide +kernel
theorem dX12_hears_131 : decode cX12_hears 131 = .ok (.iload 5, 2) := by decide +kernel
theorem dX12_hears_133 : decode cX12_hears 133 = .ok (.ireturn, 1) := by decide +kernel
theorem dX12_spread_0 : decode cX12_spread 0 = .ok (.aload_n 0, 1) := by decide +kernel
theorem dX12_spread_1 : decode cX12_spread 1 = .ok (.iconst 0, 1) := by decide +kernel
theorem dX12_spread_2 : decode cX12_spread 2 = .ok (.putfield 3, 3) := by decide +kernel
theorem dX12_spread_5 : decode cX12_spread 5 = .ok (.aload_n 0, 1) := by decide +kernel
theorem dX12_spread_6 : decode cX12_spread 6 = .ok (.aload_n 0, 1) := by decide +kernel
theorem dX12_spread_7 : decode cX12_spread 7 = .ok (.iload_n 1, 1) := by decide +kernel
theorem dX12_spread_8 : decode cX12_spread 8 = .ok (.invokevirtual 304, 3) := by decide +kernel
theorem dX12_spread_11 : decode cX12_spread 11 = .ok (.ifCond .ne 10, 3) := by decide +kernel
theorem dX12_spread_14 : decode cX12_spread 14 = .ok (.iload_n 2, 1) := by decide +kernel
theorem dX12_spread_15 : decode cX12_spread 15 = .ok (.invokestatic 393, 3) := by decide +kernel
theorem dX12_spread_18 : decode cX12_spread 18 = .ok (.ifCond .eq 7, 3) := by decide +kernel
theorem dX12_spread_21 : decode cX12_spread 21 = .ok (.iconst 1, 1) := by decide +kernel
theorem dX12_spread_22 : decode cX12_spread 22 = .ok (.goto 4, 3) := by decide +kernel
theorem dX12_spread_25 : decode cX12_spread 25 = .ok (.iconst 0, 1) := by decide +kernel
theorem dX12_spread_26 : decode cX12_spread 26 = .ok (.iconst 1, 1) := by decide +kernel
theorem dX12_spread_27 : decode cX12_spread 27 = .ok (.invokevirtual 269, 3) := by decide +kernel
theorem dX12_spread_30 : decode cX12_spread 30 = .ok (.ifCond .ne 26, 3) := by decide +kernel
theorem dX12_spread_33 : decode cX12_spread 33 = .ok (.aload_n 0, 1) := by decide +kernel
theorem dX12_spread_34 : decode cX12_spread 34 = .ok (.iload_n 3, 1) := by decide +kernel
theorem dX12_spread_35 : decode cX12_spread 35 = .ok (.iconst 0, 1) := by decide +kernel
theorem dX12_spread_36 : decode cX12_spread 36 = .ok (.bipush 60, 2) := by decide +kernel
theorem dX12_spread_38 : decode cX12_spread 38 = .ok (.invokestatic 71, 3) := by decide +kernel
theorem dX12_spread_41 : decode cX12_spread 41 = .ok (.ifCond .ne 7, 3) := by decide +kernel
theorem dX12_spread_44 : decode cX12_spread 44 = .ok (.iconst 1, 1) := by decide +kernel
theorem dX12_spread_45 : decode cX12_spread 45 = .ok (.goto 4, 3) := by decide +kernel
theorem dX12_spread_48 : decode cX12_spread 48 = .ok (.iconst 0, 1) := by decide +kernel
theorem dX12_spread_49 : decode cX12_spread 49 = .ok (.iconst 2, 1) := by decide +kernel
theorem dX12_spread_50 : decode cX12_spread 50 = .ok (.invokevirtual 269, 3) := by decide +kernel
theorem dX12_spread_53 : decode cX12_spread 53 = .ok (.ifCond .eq 5, 3) := by decide +kernel
theorem dX12_spread_56 : decode cX12_spread 56 = .ok (.iconst 0, 1) := by decide +kernel
theorem dX12_spread_57 : decode cX12_spread 57 = .ok (.ireturn, 1) := by decide +kernel
theorem dX12_spread_58 : decode cX12_spread 58 = .ok (.aload_n 0, 1) := by decide +kernel
theorem dX12_spread_59 : decode cX12_spread 59 = .ok (.aload_n 0, 1) := by decide +kernel
theorem dX12_spread_60 : decode cX12_spread 60 = .ok (.iload_n 2, 1) := by decide +kernel
theorem dX12_spread_61 : decode cX12_spread 61 = .ok (.iload_n 1, 1) := by decide +kernel
theorem dX12_spread_62 : decode cX12_spread 62 = .ok (.invokevirtual 390, 3) := by decide +kernel
theorem dX12_spread_65 : decode cX12_spread 65 = .ok (.iload_n 2, 1) := by decide +kernel
theorem dX12_spread_66 : decode cX12_spread 66 = .ok (.iload_n 3, 1) := by decide +kernel
theorem dX12_spread_67 : decode cX12_spread 67 = .ok (.iconst 0, 1) := by decide +kernel
theorem dX12_spread_68 : decode cX12_spread 68 = .ok (.invokevirtual 420, 3) := by decide +kernel
theorem dX12_spread_71 : decode cX12_spread 71 = .ok (.ireturn, 1) := by decide +kernel
theorem dX12_soonest_0 : decode cX12_soonest 0 = .ok (.aload_n 0, 1) := by decide +kernel
theorem dX12_soonest_1 : decode cX12_soonest 1 = .ok (.iconst 0, 1) := by decide +kernel
theorem dX12_soonest_2 : decode cX12_soonest 2 = .ok (.putfield 3, 3) := by decide +kernel
theorem dX12_soonest_5 : decode cX12_soonest 5 = .ok (.aload_n 0, 1) := by decide +kernel
theorem dX12_soonest_6 : decode cX12_soonest 6 = .ok (.aload_n 0, 1) := by decide +kernel
theorem dX12_soonest_7 : decode cX12_soonest 7 = .ok (.iload_n 1, 1) := by decide +kernel
theorem dX12_soonest_8 : decode cX12_soonest 8 = .ok (.invokevirtual 322, 3) := by decide +kernel
theorem dX12_soonest_11 : decode cX12_soonest 11 = .ok (.ifCond .ne 11, 3) := by decide +kernel
theorem dX12_soonest_14 : decode cX12_soonest 14 = .ok (.aload_n 0, 1) := by decide +kernel
theorem dX12_soonest_15 : decode cX12_soonest 15 = .ok (.iload_n 2, 1) := by decide +kernel
theorem dX12_soonest_16 : decode cX12_soonest 16 = .ok (.invokevirtual 322, 3) := by decide +kernel
theorem dX12_soonest_19 : decode cX12_soonest 19 = .ok (.ifCond .eq 7, 3) := by decide +kernel
theorem dX12_soonest_22 : decode cX12_soonest 22 = .ok (.iconst 1, 1) := by decide +kernel
theorem dX12_soonest_23 : decode cX12_soonest 23 = .ok (.goto 4, 3) := by decide +kernel
theorem dX12_soonest_26 : decode cX12_soonest 26 = .ok (.iconst 0, 1) := by decide +kernel
theorem dX12_soonest_27 : decode cX12_soonest 27 = .ok (.iconst 1, 1) := by decide +kernel
theorem dX12_soonest_28 : decode cX12_soonest 28 = .ok (.invokevirtual 269, 3) := by decide +kernel
theorem dX12_soonest_31 : decode cX12_soonest 31 = .ok (.ifCond .ne 31, 3) := by decide +kernel
theorem dX12_soonest_34 : decode cX12_soonest 34 = .ok (.aload_n 0, 1) := by decide +kernel
theorem dX12_soonest_35 : decode cX12_soonest 35 = .ok (.aload_n 0, 1) := by decide +kernel
theorem dX12_soonest_36 : decode cX12_soonest 36 = .ok (.iload_n 1, 1) := by decide +kernel
theorem dX12_soonest_37 : decode cX12_soonest 37 = .ok (.iconst 0, 1) := by decide +kernel
theorem dX12_soonest_38 : decode cX12_soonest 38 = .ok (.invokevirtual 63, 3) := by decide +kernel
theorem dX12_soonest_41 : decode cX12_soonest 41 = .ok (.aload_n 0, 1) := by decide +kernel
theorem dX12_soonest_42 : decode cX12_soonest 42 = .ok (.iload_n 2, 1) := by decide +kernel
theorem dX12_soonest_43 : decode cX12_soonest 43 = .ok (.iconst 0, 1) := by decide +kernel
theorem dX12_soonest_44 : decode cX12_soonest 44 = .ok (.invokevirtual 63, 3) := by decide +kernel
theorem dX12_soonest_47 : decode cX12_soonest 47 = .ok (.if_icmp .eq 7, 3) := by decide +kernel
theorem dX12_soonest_50 : decode cX12_soonest 50 = .ok (.iconst 1, 1) := by decide +kernel
theorem dX12_soonest_51 : decode cX12_soonest 51 = .ok (.goto 4, 3) := by decide +kernel
theorem dX12_soonest_54 : decode cX12_soonest 54 = .ok (.iconst 0, 1) := by decide +kernel
theorem dX12_soonest_55 : decode cX12_soonest 55 = .ok (.iconst 2, 1) := by decide +kernel
theorem dX12_soonest_56 : decode cX12_soonest 56 = .ok (.invokevirtual 269, 3) := by decide +kernel
theorem dX12_soonest_59 : decode cX12_soonest 59 = .ok (.ifCond .eq 5, 3) := by decide +kernel
theorem dX12_soonest_62 : decode cX12_soonest 62 = .ok (.iconst 0, 1) := by decide +kernel
theorem dX12_soonest_63 : decode cX12_soonest 63 = .ok (.ireturn, 1) := by decide +kernel
theorem dX12_soonest_64 : decode cX12_soonest 64 = .ok (.iconst 0, 1) := by decide +kernel
theorem dX12_soonest_65 : decode cX12_soonest 65 = .ok (.istore_n 3, 1) := by decide +kernel
theorem dX12_soonest_66 : decode cX12_soonest 66 = .ok (.iload_n 3, 1) := by decide +kernel
theorem dX12_soonest_67 : decode cX12_soonest 67 = .ok (.bipush 60, 2) := by decide +kernel
theorem dX12_soonest_69 : decode cX12_soonest 69 = .ok (.if_icmp .gt 33, 3) := by decide +kernel
theorem dX12_soonest_72 : decode cX12_soonest 72 = .ok (.aload_n 0, 1) := by decide +kernel
theorem dX12_soonest_73 : decode cX12_soonest 73 = .ok (.iconst 1, 1) := by decide +kernel
theorem dX12_soonest_74 : decode cX12_soonest 74 = .ok (.iload_n 1, 1) := by decide +kernel
theorem dX12_soonest_75 : decode cX12_soonest 75 = .ok (.ishl, 1) := by decide +kernel
theorem dX12_soonest_76 : decode cX12_soonest 76 = .ok (.aload_n 0, 1) := by decide +kernel
theorem dX12_soonest_77 : decode cX12_soonest 77 = .ok (.iload_n 1, 1) := by decide +kernel
theorem dX12_soonest_78 : decode cX12_soonest 78 = .ok (.iconst 0, 1) := by decide +kernel
theorem dX12_soonest_79 : decode cX12_soonest 79 = .ok (.invokevirtual 63, 3) := by decide +kernel
theorem dX12_soonest_82 : decode cX12_soonest 82 = .ok (.iload_n 3, 1) := by decide +kernel
theorem dX12_soonest_83 : decode cX12_soonest 83 = .ok (.iconst 0, 1) := by decide +kernel
theorem dX12_soonest_84 : decode cX12_soonest 84 = .ok (.invokevirtual 420, 3) := by decide +kernel
theorem dX12_soonest_87 : decode cX12_soonest 87 = .ok (.iload_n 2, 1) := by decide +kernel
theorem dX12_soonest_88 : decode cX12_soonest 88 = .ok (.invokestatic 81, 3) := by decide +kernel
theorem dX12_soonest_91 : decode cX12_soonest 91 = .ok (.ifCond .eq 5, 3) := by decide +kernel
theorem dX12_soonest_94 : decode cX12_soonest 94 = .ok (.iload_n 3, 1) := by decide +kernel
theorem dX12_soonest_95 : decode cX12_soonest 95 = .ok (.ireturn, 1) := by decide +kernel
theorem dX12_soonest_96 : decode cX12_soonest 96 = .ok (.iinc 3 1, 3) := by decide +kernel
theorem dX12_soonest_99 : decode cX12_soonest 99 = .ok (.goto (-33), 3) := by decide +kernel
theorem dX12_soonest_102 : decode cX12_soonest 102 = .ok (.iconst (-1), 1) := by decide +kernel
theorem dX12_soonest_103 : decode cX12_soonest 103 = .ok (.ireturn, 1) := by decide +kernel
theorem dX12_mute_0 : decode cX12_mute 0 = .ok (.aload_n 0, 1) := by decide +kernel
theorem dX12_mute_1 : decode cX12_mute 1 = .ok (.iconst 0, 1) := by decide +kernel
theorem dX12_mute_2 : decode cX12_mute 2 = .ok (.putfield 3, 3) := by decide +kernel
theorem dX12_mute_5 : decode cX12_mute 5 = .ok (.aload_n 0, 1) := by decide +kernel
theorem dX12_mute_6 : decode cX12_mute 6 = .ok (.aload_n 0, 1) := by decide +kernel
theorem dX12_mute_7 : decode cX12_mute 7 = .ok (.iload_n 1, 1) := by decide +kernel
theorem dX12_mute_8 : decode cX12_mute 8 = .ok (.invokevirtual 304, 3) := by decide +kernel
theorem dX12_mute_11 : decode cX12_mute 11 = .ok (.ifCond .ne 10, 3) := by decide +kernel
theorem dX12_mute_14 : decode cX12_mute 14 = .ok (.iload_n 2, 1) := by decide +kernel
theorem dX12_mute_15 : decode cX12_mute 15 = .ok (.invokestatic 393, 3) := by decide +kernel
theorem dX12_mute_18 : decode cX12_mute 18 = .ok (.ifCond .eq 7, 3) := by decide +kernel
theorem dX12_mute_21 : decode cX12_mute 21 = .ok (.iconst 1, 1) := by decide +kernel
theorem dX12_mute_22 : decode cX12_mute 22 = .ok (.goto 4, 3) := by decide +kernel
theorem dX12_mute_25 : decode cX12_mute 25 = .ok (.iconst 0, 1) := by decide +kernel
theorem dX12_mute_26 : decode cX12_mute 26 = .ok (.iconst 1, 1) := by decide +kernel
theorem dX12_mute_27 : decode cX12_mute 27 = .ok (.invokevirtual 269, 3) := by decide +kernel
theorem dX12_mute_30 : decode cX12_mute 30 = .ok (.ifCond .eq 5, 3) := by decide +kernel
theorem dX12_mute_33 : decode cX12_mute 33 = .ok (.iconst 0, 1) := by decide +kernel
theorem dX12_mute_34 : decode cX12_mute 34 = .ok (.ireturn, 1) := by decide +kernel
theorem dX12_mute_35 : decode cX12_mute 35 = .ok (.aload_n 0, 1) := by decide +kernel
theorem dX12_mute_36 : decode cX12_mute 36 = .ok (.iload_n 2, 1) := by decide +kernel
theorem dX12_mute_37 : decode cX12_mute 37 = .ok (.invokevirtual 387, 3) := by decide +kernel
theorem dX12_mute_40 : decode cX12_mute 40 = .ok (.istore_n 3, 1) := by decide +kernel
theorem dX12_mute_41 : decode cX12_mute 41 = .ok (.aload_n 0, 1) := by decide +kernel
theorem dX12_mute_42 : decode cX12_mute 42 = .ok (.iload_n 2, 1) := by decide +kernel
theorem dX12_mute_43 : decode cX12_mute 43 = .ok (.iload_n 1, 1) := by decide +kernel
theorem dX12_mute_44 : decode cX12_mute 44 = .ok (.invokevirtual 390, 3) := by decide +kernel
theorem dX12_mute_47 : decode cX12_mute 47 = .ok (.istore 4, 2) := by decide +kernel
theorem dX12_mute_49 : decode cX12_mute 49 = .ok (.bipush (-2), 2) := by decide +kernel
theorem dX12_mute_51 : decode cX12_mute 51 = .ok (.istore 5, 2) := by decide +kernel
theorem dX12_mute_53 : decode cX12_mute 53 = .ok (.iconst 0, 1) := by decide +kernel
theorem dX12_mute_54 : decode cX12_mute 54 = .ok (.istore 6, 2) := by decide +kernel
theorem dX12_mute_56 : decode cX12_mute 56 = .ok (.iload 6, 2) := by decide +kernel
theorem dX12_mute_58 : decode cX12_mute 58 = .ok (.iload_n 3, 1) := by decide +kernel
theorem dX12_mute_59 : decode cX12_mute 59 = .ok (.if_icmp .gt 63, 3) := by decide +kernel
theorem dX12_mute_62 : decode cX12_mute 62 = .ok (.iload 6, 2) := by decide +kernel
theorem dX12_mute_64 : decode cX12_mute 64 = .ok (.iload_n 3, 1) := by decide +kernel
theorem dX12_mute_65 : decode cX12_mute 65 = .ok (.iconst (-1), 1) := by decide +kernel
theorem dX12_mute_66 : decode cX12_mute 66 = .ok (.ixor, 1) := by decide +kernel
theorem dX12_mute_67 : decode cX12_mute 67 = .ok (.iand, 1) := by decide +kernel
theorem dX12_mute_68 : decode cX12_mute 68 = .ok (.ifCond .ne 48, 3) := by decide +kernel
theorem dX12_mute_71 : decode cX12_mute 71 = .ok (.iload 5, 2) := by decide +kernel
theorem dX12_mute_73 : decode cX12_mute 73 = .ok (.ifCond .lt 19, 3) := by decide +kernel
theorem dX12_mute_76 : decode cX12_mute 76 = .ok (.iload 6, 2) := by decide +kernel
theorem dX12_mute_78 : decode cX12_mute 78 = .ok (.invokestatic 278, 3) := by decide +kernel
theorem dX12_mute_81 : decode cX12_mute 81 = .ok (.iload 5, 2) := by decide +kernel
theorem dX12_mute_83 : decode cX12_mute 83 = .ok (.invokestatic 278, 3) := by decide +kernel
theorem dX12_mute_86 : decode cX12_mute 86 = .ok (.if_icmp .lt 6, 3) := by decide +kernel
theorem dX12_mute_89 : decode cX12_mute 89 = .ok (.goto 27, 3) := by decide +kernel
theorem dX12_mute_92 : decode cX12_mute 92 = .ok (.aload_n 0, 1) := by decide +kernel
theorem dX12_mute_93 : decode cX12_mute 93 = .ok (.iload 4, 2) := by decide +kernel
theorem dX12_mute_95 : decode cX12_mute 95 = .ok (.iload_n 2, 1) := by decide +kernel
theorem dX12_mute_96 : decode cX12_mute 96 = .ok (.bipush 12, 2) := by decide +kernel
theorem dX12_mute_98 : decode cX12_mute 98 = .ok (.iload 6, 2) := by decide +kernel
theorem dX12_mute_100 : decode cX12_mute 100 = .ok (.invokevirtual 420, 3) := by decide +kernel
theorem dX12_mute_103 : decode cX12_mute 103 = .ok (.iload_n 3, 1) := by decide +kernel
theorem dX12_mute_104 : decode cX12_mute 104 = .ok (.if_icmp .eq 8, 3) := by decide +kernel
theorem dX12_mute_107 : decode cX12_mute 107 = .ok (.iload 6, 2) := by decide +kernel
theorem dX12_mute_109 : decode cX12_mute 109 = .ok (.goto 5, 3) := by decide +kernel
theorem dX12_mute_112 : decode cX12_mute 112 = .ok (.iload 5, 2) := by decide +kernel
theorem dX12_mute_114 : decode cX12_mute 114 = .ok (.istore 5, 2) := by decide +kernel
theorem dX12_mute_116 : decode cX12_mute 116 = .ok (.iinc 6 1, 3) := by decide +kernel
theorem dX12_mute_119 : decode cX12_mute 119 = .ok (.goto (-63), 3) := by decide +kernel
theorem dX12_mute_122 : decode cX12_mute 122 = .ok (.iload 5, 2) := by decide +kernel
theorem dX12_mute_124 : decode cX12_mute 124 = .ok (.ireturn, 1) := by decide +kernel
theorem dX12_isAtPeace_0 : decode cX12_isAtPeace 0 = .ok (.iconst 1, 1) := by decide +kernel
theorem dX12_isAtPeace_1 : decode cX12_isAtPeace 1 = .ok (.istore_n 2, 1) := by decide +kernel
theorem dX12_isAtPeace_2 : decode cX12_isAtPeace 2 = .ok (.iconst 0, 1) := by decide +kernel
theorem dX12_isAtPeace_3 : decode cX12_isAtPeace 3 = .ok (.istore_n 3, 1) := by decide +kernel
theorem dX12_isAtPeace_4 : decode cX12_isAtPeace 4 = .ok (.iload_n 3, 1) := by decide +kernel
theorem dX12_isAtPeace_5 : decode cX12_isAtPeace 5 = .ok (.aload_n 0, 1) := by decide +kernel
theorem dX12_isAtPeace_6 : decode cX12_isAtPeace 6 = .ok (.invokevirtual 67, 3) := by decide +kernel
theorem dX12_isAtPeace_9 : decode cX12_isAtPeace 9 = .ok (.if_icmp .ge 38, 3) := by decide +kernel
theorem dX12_isAtPeace_12 : decode cX12_isAtPeace 12 = .ok (.iload_n 2, 1) := by decide +kernel
theorem dX12_isAtPeace_13 : decode cX12_isAtPeace 13 = .ok (.ifCond .eq 26, 3) := by decide +kernel
theorem dX12_isAtPeace_16 : decode cX12_isAtPeace 16 = .ok (.iload_n 1, 1) := by decide +kernel
theorem dX12_isAtPeace_17 : decode cX12_isAtPeace 17 = .ok (.iload_n 3, 1) := by decide +kernel
theorem dX12_isAtPeace_18 : decode cX12_isAtPeace 18 = .ok (.invokestatic 81, 3) := by decide +kernel
theorem dX12_isAtPeace_21 : decode cX12_isAtPeace 21 = .ok (.ifCond .eq 14, 3) := by decide +kernel
theorem dX12_isAtPeace_24 : decode cX12_isAtPeace 24 = .ok (.aload_n 0, 1) := by decide +kernel
theorem dX12_isAtPeace_25 : decode cX12_isAtPeace 25 = .ok (.iload_n 3, 1) := by decide +kernel
theorem dX12_isAtPeace_26 : decode cX12_isAtPeace 26 = .ok (.iconst 2, 1) := by decide +kernel
theorem dX12_isAtPeace_27 : decode cX12_isAtPeace 27 = .ok (.invokevirtual 85, 3) := by decide +kernel
theorem dX12_isAtPeace_30 : decode cX12_isAtPeace 30 = .ok (.iload_n 1, 1) := by decide +kernel
theorem dX12_isAtPeace_31 : decode cX12_isAtPeace 31 = .ok (.iand, 1) := by decide +kernel
theorem dX12_isAtPeace_32 : decode cX12_isAtPeace 32 = .ok (.ifCond .ne 7, 3) := by decide +kernel
theorem dX12_isAtPeace_35 : decode cX12_isAtPeace 35 = .ok (.iconst 1, 1) := by decide +kernel
theorem dX12_isAtPeace_36 : decode cX12_isAtPeace 36 = .ok (.goto 4, 3) := by decide +kernel
theorem dX12_isAtPeace_39 : decode cX12_isAtPeace 39 = .ok (.iconst 0, 1) := by decide +kernel
theorem dX12_isAtPeace_40 : decode cX12_isAtPeace 40 = .ok (.istore_n 2, 1) := by decide +kernel
theorem dX12_isAtPeace_41 : decode cX12_isAtPeace 41 = .ok (.iinc 3 1, 3) := by decide +kernel
theorem dX12_isAtPeace_44 : decode cX12_isAtPeace 44 = .ok (.goto (-40), 3) := by decide +kernel
theorem dX12_isAtPeace_47 : decode cX12_isAtPeace 47 = .ok (.iload_n 2, 1) := by decide +kernel
theorem dX12_isAtPeace_48 : decode cX12_isAtPeace 48 = .ok (.ireturn, 1) := by decide +kernel
theorem dX12_amends_0 : decode cX12_amends 0 = .ok (.aload_n 0, 1) := by decide +kernel
theorem dX12_amends_1 : decode cX12_amends 1 = .ok (.iconst 0, 1) := by decide +kernel
theorem dX12_amends_2 : decode cX12_amends 2 = .ok (.putfield 3, 3) := by decide +kernel
theorem dX12_amends_5 : decode cX12_amends 5 = .ok (.aload_n 0, 1) := by decide +kernel
theorem dX12_amends_6 : decode cX12_amends 6 = .ok (.aload_n 0, 1) := by decide +kernel
theorem dX12_amends_7 : decode cX12_amends 7 = .ok (.iload_n 1, 1) := by decide +kernel
theorem dX12_amends_8 : decode cX12_amends 8 = .ok (.invokevirtual 322, 3) := by decide +kernel
theorem dX12_amends_11 : decode cX12_amends 11 = .ok (.iconst 1, 1) := by decide +kernel
theorem dX12_amends_12 : decode cX12_amends 12 = .ok (.invokevirtual 269, 3) := by decide +kernel
theorem dX12_amends_15 : decode cX12_amends 15 = .ok (.ifCond .eq 5, 3) := by decide +kernel
theorem dX12_amends_18 : decode cX12_amends 18 = .ok (.iconst 0, 1) := by decide +kernel
theorem dX12_amends_19 : decode cX12_amends 19 = .ok (.ireturn, 1) := by decide +kernel
theorem dX12_amends_20 : decode cX12_amends 20 = .ok (.aload_n 0, 1) := by decide +kernel
theorem dX12_amends_21 : decode cX12_amends 21 = .ok (.iload_n 1, 1) := by decide +kernel
theorem dX12_amends_22 : decode cX12_amends 22 = .ok (.invokevirtual 88, 3) := by decide +kernel
theorem dX12_amends_25 : decode cX12_amends 25 = .ok (.istore_n 2, 1) := by decide +kernel
theorem dX12_amends_26 : decode cX12_amends 26 = .ok (.iconst (-1), 1) := by decide +kernel
theorem dX12_amends_27 : decode cX12_amends 27 = .ok (.istore_n 3, 1) := by decide +kernel
theorem dX12_amends_28 : decode cX12_amends 28 = .ok (.iconst 0, 1) := by decide +kernel
theorem dX12_amends_29 : decode cX12_amends 29 = .ok (.istore 4, 2) := by decide +kernel
theorem dX12_amends_31 : decode cX12_amends 31 = .ok (.iload 4, 2) := by decide +kernel
theorem dX12_amends_33 : decode cX12_amends 33 = .ok (.iload_n 2, 1) := by decide +kernel
theorem dX12_amends_34 : decode cX12_amends 34 = .ok (.if_icmp .gt 61, 3) := by decide +kernel
theorem dX12_amends_37 : decode cX12_amends 37 = .ok (.iload 4, 2) := by decide +kernel
theorem dX12_amends_39 : decode cX12_amends 39 = .ok (.iload_n 2, 1) := by decide +kernel
theorem dX12_amends_40 : decode cX12_amends 40 = .ok (.iconst (-1), 1) := by decide +kernel
theorem dX12_amends_41 : decode cX12_amends 41 = .ok (.ixor, 1) := by decide +kernel
theorem dX12_amends_42 : decode cX12_amends 42 = .ok (.iand, 1) := by decide +kernel
theorem dX12_amends_43 : decode cX12_amends 43 = .ok (.ifCond .ne 46, 3) := by decide +kernel
theorem dX12_amends_46 : decode cX12_amends 46 = .ok (.iload_n 3, 1) := by decide +kernel
theorem dX12_amends_47 : decode cX12_amends 47 = .ok (.ifCond .lt 18, 3) := by decide +kernel
theorem dX12_amends_50 : decode cX12_amends 50 = .ok (.iload 4, 2) := by decide +kernel
theorem dX12_amends_52 : decode cX12_amends 52 = .ok (.invokestatic 278, 3) := by decide +kernel
theorem dX12_amends_55 : decode cX12_amends 55 = .ok (.iload_n 3, 1) := by decide +kernel
theorem dX12_amends_56 : decode cX12_amends 56 = .ok (.invokestatic 278, 3) := by decide +kernel
theorem dX12_amends_59 : decode cX12_amends 59 = .ok (.if_icmp .lt 6, 3) := by decide +kernel
theorem dX12_amends_62 : decode cX12_amends 62 = .ok (.goto 27, 3) := by decide +kernel
theorem dX12_amends_65 : decode cX12_amends 65 = .ok (.aload_n 0, 1) := by decide +kernel
theorem dX12_amends_66 : decode cX12_amends 66 = .ok (.aload_n 0, 1) := by decide +kernel
theorem dX12_amends_67 : decode cX12_amends 67 = .ok (.iload_n 2, 1) := by decide +kernel
theorem dX12_amends_68 : decode cX12_amends 68 = .ok (.iload 4, 2) := by decide +kernel
theorem dX12_amends_70 : decode cX12_amends 70 = .ok (.iconst (-1), 1) := by decide +kernel
theorem dX12_amends_71 : decode cX12_amends 71 = .ok (.ixor, 1) := by decide +kernel
theorem dX12_amends_72 : decode cX12_amends 72 = .ok (.iand, 1) := by decide +kernel
theorem dX12_amends_73 : decode cX12_amends 73 = .ok (.invokevirtual 92, 3) := by decide +kernel
theorem dX12_amends_76 : decode cX12_amends 76 = .ok (.invokevirtual 424, 3) := by decide +kernel
theorem dX12_amends_79 : decode cX12_amends 79 = .ok (.ifCond .eq 8, 3) := by decide +kernel
theorem dX12_amends_82 : decode cX12_amends 82 = .ok (.iload 4, 2) := by decide +kernel
theorem dX12_amends_84 : decode cX12_amends 84 = .ok (.goto 4, 3) := by decide +kernel
theorem dX12_amends_87 : decode cX12_amends 87 = .ok (.iload_n 3, 1) := by decide +kernel
theorem dX12_amends_88 : decode cX12_amends 88 = .ok (.istore_n 3, 1) := by decide +kernel
theorem dX12_amends_89 : decode cX12_amends 89 = .ok (.iinc 4 1, 3) := by decide +kernel
theorem dX12_amends_92 : decode cX12_amends 92 = .ok (.goto (-61), 3) := by decide +kernel
theorem dX12_amends_95 : decode cX12_amends 95 = .ok (.iload_n 3, 1) := by decide +kernel
theorem dX12_amends_96 : decode cX12_amends 96 = .ok (.ireturn, 1) := by decide +kernel
theorem dX12_usableBy_0 : decode cX12_usableBy 0 = .ok (.iconst 0, 1) := by decide +kernel
theorem dX12_usableBy_1 : decode cX12_usableBy 1 = .ok (.istore_n 2, 1) := by decide +kernel
theorem dX12_usableBy_2 : decode cX12_usableBy 2 = .ok (.iconst 0, 1) := by decide +kernel
theorem dX12_usableBy_3 : decode cX12_usableBy 3 = .ok (.istore_n 3, 1) := by decide +kernel
theorem dX12_usableBy_4 : decode cX12_usableBy 4 = .ok (.iload_n 3, 1) := by decide +kernel
theorem dX12_usableBy_5 : decode cX12_usableBy 5 = .ok (.aload_n 0, 1) := by decide +kernel
theorem dX12_usableBy_6 : decode cX12_usableBy 6 = .ok (.invokevirtual 75, 3) := by decide +kernel
theorem dX12_usableBy_9 : decode cX12_usableBy 9 = .ok (.if_icmp .ge 31, 3) := by decide +kernel
theorem dX12_usableBy_12 : decode cX12_usableBy 12 = .ok (.iload_n 2, 1) := by decide +kernel
theorem dX12_usableBy_13 : decode cX12_usableBy 13 = .ok (.aload_n 0, 1) := by decide +kernel
theorem dX12_usableBy_14 : decode cX12_usableBy 14 = .ok (.iload_n 3, 1) := by decide +kernel
theorem dX12_usableBy_15 : decode cX12_usableBy 15 = .ok (.iconst 0, 1) := by decide +kernel
theorem dX12_usableBy_16 : decode cX12_usableBy 16 = .ok (.invokevirtual 63, 3) := by decide +kernel
theorem dX12_usableBy_19 : decode cX12_usableBy 19 = .ok (.iload_n 1, 1) := by decide +kernel
theorem dX12_usableBy_20 : decode cX12_usableBy 20 = .ok (.if_icmp .ne 11, 3) := by decide +kernel
theorem dX12_usableBy_23 : decode cX12_usableBy 23 = .ok (.aload_n 0, 1) := by decide +kernel
theorem dX12_usableBy_24 : decode cX12_usableBy 24 = .ok (.iload_n 3, 1) := by decide +kernel
theorem dX12_usableBy_25 : decode cX12_usableBy 25 = .ok (.invokevirtual 275, 3) := by decide +kernel
theorem dX12_usableBy_28 : decode cX12_usableBy 28 = .ok (.goto 4, 3) := by decide +kernel
theorem dX12_usableBy_31 : decode cX12_usableBy 31 = .ok (.iconst 0, 1) := by decide +kernel
theorem dX12_usableBy_32 : decode cX12_usableBy 32 = .ok (.ior, 1) := by decide +kernel
theorem dX12_usableBy_33 : decode cX12_usableBy 33 = .ok (.istore_n 2, 1) := by decide +kernel
theorem dX12_usableBy_34 : decode cX12_usableBy 34 = .ok (.iinc 3 1, 3) := by decide +kernel
theorem dX12_usableBy_37 : decode cX12_usableBy 37 = .ok (.goto (-33), 3) := by decide +kernel
theorem dX12_usableBy_40 : decode cX12_usableBy 40 = .ok (.iload_n 2, 1) := by decide +kernel
theorem dX12_usableBy_41 : decode cX12_usableBy 41 = .ok (.ireturn, 1) := by decide +kernel
theorem dX12_agrees_0 : decode cX12_agrees 0 = .ok (.aload_n 0, 1) := by decide +kernel
theorem dX12_agrees_1 : decode cX12_agrees 1 = .ok (.iconst 0, 1) := by decide +kernel
theorem dX12_agrees_2 : decode cX12_agrees 2 = .ok (.invokevirtual 427, 3) := by decide +kernel
theorem dX12_agrees_5 : decode cX12_agrees 5 = .ok (.aload_n 0, 1) := by decide +kernel
theorem dX12_agrees_6 : decode cX12_agrees 6 = .ok (.iconst 1, 1) := by decide +kernel
theorem dX12_agrees_7 : decode cX12_agrees 7 = .ok (.invokevirtual 427, 3) := by decide +kernel
theorem dX12_agrees_10 : decode cX12_agrees 10 = .ok (.iand, 1) := by decide +kernel
theorem dX12_agrees_11 : decode cX12_agrees 11 = .ok (.ireturn, 1) := by decide +kernel
theorem dX12_agreed_0 : decode cX12_agreed 0 = .ok (.aload_n 0, 1) := by decide +kernel
theorem dX12_agreed_1 : decode cX12_agreed 1 = .ok (.iconst 0, 1) := by decide +kernel
theorem dX12_agreed_2 : decode cX12_agreed 2 = .ok (.putfield 3, 3) := by decide +kernel
theorem dX12_agreed_5 : decode cX12_agreed 5 = .ok (.aload_n 0, 1) := by decide +kernel
theorem dX12_agreed_6 : decode cX12_agreed 6 = .ok (.invokevirtual 430, 3) := by decide +kernel
theorem dX12_agreed_9 : decode cX12_agreed 9 = .ok (.ireturn, 1) := by decide +kernel
theorem dX12_treaty_0 : decode cX12_treaty 0 = .ok (.aload_n 0, 1) := by decide +kernel
theorem dX12_treaty_1 : decode cX12_treaty 1 = .ok (.iconst 0, 1) := by decide +kernel
theorem dX12_treaty_2 : decode cX12_treaty 2 = .ok (.putfield 3, 3) := by decide +kernel
theorem dX12_treaty_5 : decode cX12_treaty 5 = .ok (.iload_n 1, 1) := by decide +kernel
theorem dX12_treaty_6 : decode cX12_treaty 6 = .ok (.iconst 1, 1) := by decide +kernel
theorem dX12_treaty_7 : decode cX12_treaty 7 = .ok (.aload_n 0, 1) := by decide +kernel
theorem dX12_treaty_8 : decode cX12_treaty 8 = .ok (.invokevirtual 67, 3) := by decide +kernel
theorem dX12_treaty_11 : decode cX12_treaty 11 = .ok (.ishl, 1) := by decide +kernel
theorem dX12_treaty_12 : decode cX12_treaty 12 = .ok (.iconst 1, 1) := by decide +kernel
theorem dX12_treaty_13 : decode cX12_treaty 13 = .ok (.isub, 1) := by decide +kernel
theorem dX12_treaty_14 : decode cX12_treaty 14 = .ok (.iand, 1) := by decide +kernel
theorem dX12_treaty_15 : decode cX12_treaty 15 = .ok (.istore_n 3, 1) := by decide +kernel
theorem dX12_treaty_16 : decode cX12_treaty 16 = .ok (.iload_n 3, 1) := by decide +kernel
theorem dX12_treaty_17 : decode cX12_treaty 17 = .ok (.aload_n 0, 1) := by decide +kernel
theorem dX12_treaty_18 : decode cX12_treaty 18 = .ok (.invokevirtual 430, 3) := by decide +kernel
theorem dX12_treaty_21 : decode cX12_treaty 21 = .ok (.iconst (-1), 1) := by decide +kernel
theorem dX12_treaty_22 : decode cX12_treaty 22 = .ok (.ixor, 1) := by decide +kernel
theorem dX12_treaty_23 : decode cX12_treaty 23 = .ok (.iand, 1) := by decide +kernel
theorem dX12_treaty_24 : decode cX12_treaty 24 = .ok (.ifCond .ne 7, 3) := by decide +kernel
theorem dX12_treaty_27 : decode cX12_treaty 27 = .ok (.iconst 1, 1) := by decide +kernel
theorem dX12_treaty_28 : decode cX12_treaty 28 = .ok (.goto 4, 3) := by decide +kernel
theorem dX12_treaty_31 : decode cX12_treaty 31 = .ok (.iconst 0, 1) := by decide +kernel
theorem dX12_treaty_32 : decode cX12_treaty 32 = .ok (.istore 4, 2) := by decide +kernel
theorem dX12_treaty_34 : decode cX12_treaty 34 = .ok (.iload_n 2, 1) := by decide +kernel
theorem dX12_treaty_35 : decode cX12_treaty 35 = .ok (.ifCond .ne 14, 3) := by decide +kernel
theorem dX12_treaty_38 : decode cX12_treaty 38 = .ok (.iload 4, 2) := by decide +kernel
theorem dX12_treaty_40 : decode cX12_treaty 40 = .ok (.ifCond .eq 7, 3) := by decide +kernel
theorem dX12_treaty_43 : decode cX12_treaty 43 = .ok (.iconst 1, 1) := by decide +kernel
theorem dX12_treaty_44 : decode cX12_treaty 44 = .ok (.goto 4, 3) := by decide +kernel
theorem dX12_treaty_47 : decode cX12_treaty 47 = .ok (.iconst 0, 1) := by decide +kernel
theorem dX12_treaty_48 : decode cX12_treaty 48 = .ok (.ireturn, 1) := by decide +kernel
theorem dX12_treaty_49 : decode cX12_treaty 49 = .ok (.iload_n 3, 1) := by decide +kernel
theorem dX12_treaty_50 : decode cX12_treaty 50 = .ok (.ifCond .eq 8, 3) := by decide +kernel
theorem dX12_treaty_53 : decode cX12_treaty 53 = .ok (.iload 4, 2) := by decide +kernel
theorem dX12_treaty_55 : decode cX12_treaty 55 = .ok (.ifCond .ne 13, 3) := by decide +kernel
theorem dX12_treaty_58 : decode cX12_treaty 58 = .ok (.iload_n 3, 1) := by decide +kernel
theorem dX12_treaty_59 : decode cX12_treaty 59 = .ok (.ifCond .ne 7, 3) := by decide +kernel
theorem dX12_treaty_62 : decode cX12_treaty 62 = .ok (.iconst (-1), 1) := by decide +kernel
theorem dX12_treaty_63 : decode cX12_treaty 63 = .ok (.goto 4, 3) := by decide +kernel
theorem dX12_treaty_66 : decode cX12_treaty 66 = .ok (.iconst 0, 1) := by decide +kernel
theorem dX12_treaty_67 : decode cX12_treaty 67 = .ok (.ireturn, 1) := by decide +kernel
theorem dX12_treaty_68 : decode cX12_treaty 68 = .ok (.bipush 10, 2) := by decide +kernel
theorem dX12_treaty_70 : decode cX12_treaty 70 = .ok (.istore 5, 2) := by decide +kernel
theorem dX12_treaty_72 : decode cX12_treaty 72 = .ok (.iconst 0, 1) := by decide +kernel
theorem dX12_treaty_73 : decode cX12_treaty 73 = .ok (.istore 6, 2) := by decide +kernel
theorem dX12_treaty_75 : decode cX12_treaty 75 = .ok (.iload 6, 2) := by decide +kernel
theorem dX12_treaty_77 : decode cX12_treaty 77 = .ok (.aload_n 0, 1) := by decide +kernel
theorem dX12_treaty_78 : decode cX12_treaty 78 = .ok (.invokevirtual 67, 3) := by decide +kernel
theorem dX12_treaty_81 : decode cX12_treaty 81 = .ok (.if_icmp .ge 48, 3) := by decide +kernel
theorem dX12_treaty_84 : decode cX12_treaty 84 = .ok (.iload_n 3, 1) := by decide +kernel
theorem dX12_treaty_85 : decode cX12_treaty 85 = .ok (.iload 6, 2) := by decide +kernel
theorem dX12_treaty_87 : decode cX12_treaty 87 = .ok (.invokestatic 81, 3) := by decide +kernel
theorem dX12_treaty_90 : decode cX12_treaty 90 = .ok (.ifCond .eq 33, 3) := by decide +kernel
theorem dX12_treaty_93 : decode cX12_treaty 93 = .ok (.iload 5, 2) := by decide +kernel
theorem dX12_treaty_95 : decode cX12_treaty 95 = .ok (.aload_n 0, 1) := by decide +kernel
theorem dX12_treaty_96 : decode cX12_treaty 96 = .ok (.iconst 0, 1) := by decide +kernel
theorem dX12_treaty_97 : decode cX12_treaty 97 = .ok (.iload 6, 2) := by decide +kernel
theorem dX12_treaty_99 : decode cX12_treaty 99 = .ok (.invokevirtual 390, 3) := by decide +kernel
theorem dX12_treaty_102 : decode cX12_treaty 102 = .ok (.invokestatic 278, 3) := by decide +kernel
theorem dX12_treaty_105 : decode cX12_treaty 105 = .ok (.aload_n 0, 1) := by decide +kernel
theorem dX12_treaty_106 : decode cX12_treaty 106 = .ok (.iconst 1, 1) := by decide +kernel
theorem dX12_treaty_107 : decode cX12_treaty 107 = .ok (.iload 6, 2) := by decide +kernel
theorem dX12_treaty_109 : decode cX12_treaty 109 = .ok (.invokevirtual 390, 3) := by decide +kernel
theorem dX12_treaty_112 : decode cX12_treaty 112 = .ok (.invokestatic 278, 3) := by decide +kernel
theorem dX12_treaty_115 : decode cX12_treaty 115 = .ok (.invokestatic 293, 3) := by decide +kernel
theorem dX12_treaty_118 : decode cX12_treaty 118 = .ok (.invokestatic 293, 3) := by decide +kernel
theorem dX12_treaty_121 : decode cX12_treaty 121 = .ok (.istore 5, 2) := by decide +kernel
theorem dX12_treaty_123 : decode cX12_treaty 123 = .ok (.iinc 6 1, 3) := by decide +kernel
theorem dX12_treaty_126 : decode cX12_treaty 126 = .ok (.goto (-51), 3) := by decide +kernel
theorem dX12_treaty_129 : decode cX12_treaty 129 = .ok (.iload 5, 2) := by decide +kernel
theorem dX12_treaty_131 : decode cX12_treaty 131 = .ok (.ireturn, 1) := by decide +kernel
theorem dX12_wasAt_0 : decode cX12_wasAt 0 = .ok (.iconst 0, 1) := by decide +kernel
theorem dX12_wasAt_1 : decode cX12_wasAt 1 = .ok (.istore_n 3, 1) := by decide +kernel
theorem dX12_wasAt_2 : decode cX12_wasAt 2 = .ok (.iconst 0, 1) := by decide +kernel
theorem dX12_wasAt_3 : decode cX12_wasAt 3 = .ok (.istore 4, 2) := by decide +kernel
theorem dX12_wasAt_5 : decode cX12_wasAt 5 = .ok (.iload 4, 2) := by decide +kernel
theorem dX12_wasAt_7 : decode cX12_wasAt 7 = .ok (.aload_n 0, 1) := by decide +kernel
theorem dX12_wasAt_8 : decode cX12_wasAt 8 = .ok (.getfield 13, 3) := by decide +kernel
theorem dX12_wasAt_11 : decode cX12_wasAt 11 = .ok (.iconst 5, 1) := by decide +kernel
theorem dX12_wasAt_12 : decode cX12_wasAt 12 = .ok (.iaload, 1) := by decide +kernel
theorem dX12_wasAt_13 : decode cX12_wasAt 13 = .ok (.if_icmp .gt 38, 3) := by decide +kernel
theorem dX12_wasAt_16 : decode cX12_wasAt 16 = .ok (.iload 4, 2) := by decide +kernel
theorem dX12_wasAt_18 : decode cX12_wasAt 18 = .ok (.bipush 6, 2) := by decide +kernel
theorem dX12_wasAt_20 : decode cX12_wasAt 20 = .ok (.if_icmp .ge 31, 3) := by decide +kernel
theorem dX12_wasAt_23 : decode cX12_wasAt 23 = .ok (.iload_n 3, 1) := by decide +kernel
theorem dX12_wasAt_24 : decode cX12_wasAt 24 = .ok (.ifCond .ne 15, 3) := by decide +kernel
theorem dX12_wasAt_27 : decode cX12_wasAt 27 = .ok (.aload_n 0, 1) := by decide +kernel
theorem dX12_wasAt_28 : decode cX12_wasAt 28 = .ok (.iload_n 1, 1) := by decide +kernel
theorem dX12_wasAt_29 : decode cX12_wasAt 29 = .ok (.iload 4, 2) := by decide +kernel
theorem dX12_wasAt_31 : decode cX12_wasAt 31 = .ok (.ineg, 1) := by decide +kernel
theorem dX12_wasAt_32 : decode cX12_wasAt 32 = .ok (.invokevirtual 334, 3) := by decide +kernel
theorem dX12_wasAt_35 : decode cX12_wasAt 35 = .ok (.iload_n 2, 1) := by decide +kernel
theorem dX12_wasAt_36 : decode cX12_wasAt 36 = .ok (.if_icmp .ne 7, 3) := by decide +kernel
theorem dX12_wasAt_39 : decode cX12_wasAt 39 = .ok (.iconst 1, 1) := by decide +kernel
theorem dX12_wasAt_40 : decode cX12_wasAt 40 = .ok (.goto 4, 3) := by decide +kernel
theorem dX12_wasAt_43 : decode cX12_wasAt 43 = .ok (.iconst 0, 1) := by decide +kernel
theorem dX12_wasAt_44 : decode cX12_wasAt 44 = .ok (.istore_n 3, 1) := by decide +kernel
theorem dX12_wasAt_45 : decode cX12_wasAt 45 = .ok (.iinc 4 1, 3) := by decide +kernel
theorem dX12_wasAt_48 : decode cX12_wasAt 48 = .ok (.goto (-43), 3) := by decide +kernel
theorem dX12_wasAt_51 : decode cX12_wasAt 51 = .ok (.iload_n 3, 1) := by decide +kernel
theorem dX12_wasAt_52 : decode cX12_wasAt 52 = .ok (.ireturn, 1) := by decide +kernel
theorem dX12_matchesAll_0 : decode cX12_matchesAll 0 = .ok (.iconst 0, 1) := by decide +kernel
theorem dX12_matchesAll_1 : decode cX12_matchesAll 1 = .ok (.istore_n 3, 1) := by decide +kernel
theorem dX12_matchesAll_2 : decode cX12_matchesAll 2 = .ok (.iload_n 3, 1) := by decide +kernel
theorem dX12_matchesAll_3 : decode cX12_matchesAll 3 = .ok (.iload_n 2, 1) := by decide +kernel
theorem dX12_matchesAll_4 : decode cX12_matchesAll 4 = .ok (.if_icmp .ge 79, 3) := by decide +kernel
theorem dX12_matchesAll_7 : decode cX12_matchesAll 7 = .ok (.aload_n 0, 1) := by decide +kernel
theorem dX12_matchesAll_8 : decode cX12_matchesAll 8 = .ok (.getfield 50, 3) := by decide +kernel
theorem dX12_matchesAll_11 : decode cX12_matchesAll 11 = .ok (.iload_n 3, 1) := by decide +kernel
theorem dX12_matchesAll_12 : decode cX12_matchesAll 12 = .ok (.iconst 0, 1) := by decide +kernel
theorem dX12_matchesAll_13 : decode cX12_matchesAll 13 = .ok (.iastore, 1) := by decide +kernel
theorem dX12_matchesAll_14 : decode cX12_matchesAll 14 = .ok (.iconst 0, 1) := by decide +kernel
theorem dX12_matchesAll_15 : decode cX12_matchesAll 15 = .ok (.istore 4, 2) := by decide +kernel
theorem dX12_matchesAll_17 : decode cX12_matchesAll 17 = .ok (.iload 4, 2) := by decide +kernel
theorem dX12_matchesAll_19 : decode cX12_matchesAll 19 = .ok (.aload_n 0, 1) := by decide +kernel
theorem dX12_matchesAll_20 : decode cX12_matchesAll 20 = .ok (.invokevirtual 75, 3) := by decide +kernel
theorem dX12_matchesAll_23 : decode cX12_matchesAll 23 = .ok (.if_icmp .ge 54, 3) := by decide +kernel
theorem dX12_matchesAll_26 : decode cX12_matchesAll 26 = .ok (.aload_n 0, 1) := by decide +kernel
theorem dX12_matchesAll_27 : decode cX12_matchesAll 27 = .ok (.getfield 50, 3) := by decide +kernel
theorem dX12_matchesAll_30 : decode cX12_matchesAll 30 = .ok (.iload_n 3, 1) := by decide +kernel
theorem dX12_matchesAll_31 : decode cX12_matchesAll 31 = .ok (.dup2, 1) := by decide +kernel
theorem dX12_matchesAll_32 : decode cX12_matchesAll 32 = .ok (.iaload, 1) := by decide +kernel
theorem dX12_matchesAll_33 : decode cX12_matchesAll 33 = .ok (.aload_n 0, 1) := by decide +kernel
theorem dX12_matchesAll_34 : decode cX12_matchesAll 34 = .ok (.iload 4, 2) := by decide +kernel
theorem dX12_matchesAll_36 : decode cX12_matchesAll 36 = .ok (.invokevirtual 88, 3) := by decide +kernel
theorem dX12_matchesAll_39 : decode cX12_matchesAll 39 = .ok (.aload_n 0, 1) := by decide +kernel
theorem dX12_matchesAll_40 : decode cX12_matchesAll 40 = .ok (.getfield 29, 3) := by decide +kernel
theorem dX12_matchesAll_43 : decode cX12_matchesAll 43 = .ok (.iload_n 3, 1) := by decide +kernel
theorem dX12_matchesAll_44 : decode cX12_matchesAll 44 = .ok (.baload, 1) := by decide +kernel
theorem dX12_matchesAll_45 : decode cX12_matchesAll 45 = .ok (.invokestatic 81, 3) := by decide +kernel
theorem dX12_matchesAll_48 : decode cX12_matchesAll 48 = .ok (.ifCond .ne 20, 3) := by decide +kernel
theorem dX12_matchesAll_51 : decode cX12_matchesAll 51 = .ok (.aload_n 0, 1) := by decide +kernel
theorem dX12_matchesAll_52 : decode cX12_matchesAll 52 = .ok (.iload 4, 2) := by decide +kernel
theorem dX12_matchesAll_54 : decode cX12_matchesAll 54 = .ok (.iload_n 1, 1) := by decide +kernel
theorem dX12_matchesAll_55 : decode cX12_matchesAll 55 = .ok (.invokevirtual 433, 3) := by decide +kernel
theorem dX12_matchesAll_58 : decode cX12_matchesAll 58 = .ok (.ifCond .eq 10, 3) := by decide +kernel
theorem dX12_matchesAll_61 : decode cX12_matchesAll 61 = .ok (.iconst 1, 1) := by decide +kernel
theorem dX12_matchesAll_62 : decode cX12_matchesAll 62 = .ok (.iload 4, 2) := by decide +kernel
theorem dX12_matchesAll_64 : decode cX12_matchesAll 64 = .ok (.ishl, 1) := by decide +kernel
theorem dX12_matchesAll_65 : decode cX12_matchesAll 65 = .ok (.goto 4, 3) := by decide +kernel
theorem dX12_matchesAll_68 : decode cX12_matchesAll 68 = .ok (.iconst 0, 1) := by decide +kernel
theorem dX12_matchesAll_69 : decode cX12_matchesAll 69 = .ok (.ior, 1) := by decide +kernel
theorem dX12_matchesAll_70 : decode cX12_matchesAll 70 = .ok (.iastore, 1) := by decide +kernel
theorem dX12_matchesAll_71 : decode cX12_matchesAll 71 = .ok (.iinc 4 1, 3) := by decide +kernel
theorem dX12_matchesAll_74 : decode cX12_matchesAll 74 = .ok (.goto (-57), 3) := by decide +kernel
theorem dX12_matchesAll_77 : decode cX12_matchesAll 77 = .ok (.iinc 3 1, 3) := by decide +kernel
theorem dX12_matchesAll_80 : decode cX12_matchesAll 80 = .ok (.goto (-78), 3) := by decide +kernel
theorem dX12_matchesAll_83 : decode cX12_matchesAll 83 = .ok (.iconst 0, 1) := by decide +kernel
theorem dX12_matchesAll_84 : decode cX12_matchesAll 84 = .ok (.istore_n 3, 1) := by decide +kernel
theorem dX12_matchesAll_85 : decode cX12_matchesAll 85 = .ok (.iload_n 3, 1) := by decide +kernel
theorem dX12_matchesAll_86 : decode cX12_matchesAll 86 = .ok (.iconst 1, 1) := by decide +kernel
theorem dX12_matchesAll_87 : decode cX12_matchesAll 87 = .ok (.aload_n 0, 1) := by decide +kernel
theorem dX12_matchesAll_88 : decode cX12_matchesAll 88 = .ok (.invokevirtual 75, 3) := by decide +kernel
theorem dX12_matchesAll_91 : decode cX12_matchesAll 91 = .ok (.ishl, 1) := by decide +kernel
theorem dX12_matchesAll_92 : decode cX12_matchesAll 92 = .ok (.if_icmp .ge 21, 3) := by decide +kernel
theorem dX12_matchesAll_95 : decode cX12_matchesAll 95 = .ok (.aload_n 0, 1) := by decide +kernel
theorem dX12_matchesAll_96 : decode cX12_matchesAll 96 = .ok (.getfield 53, 3) := by decide +kernel
theorem dX12_matchesAll_99 : decode cX12_matchesAll 99 = .ok (.iload_n 2, 1) := by decide +kernel
theorem dX12_matchesAll_100 : decode cX12_matchesAll 100 = .ok (.bipush 10, 2) := by decide +kernel
theorem dX12_matchesAll_102 : decode cX12_matchesAll 102 = .ok (.ishl, 1) := by decide +kernel
theorem dX12_matchesAll_103 : decode cX12_matchesAll 103 = .ok (.iload_n 3, 1) := by decide +kernel
theorem dX12_matchesAll_104 : decode cX12_matchesAll 104 = .ok (.ior, 1) := by decide +kernel
theorem dX12_matchesAll_105 : decode cX12_matchesAll 105 = .ok (.iconst 1, 1) := by decide +kernel
theorem dX12_matchesAll_106 : decode cX12_matchesAll 106 = .ok (.iastore, 1) := by decide +kernel
theorem dX12_matchesAll_107 : decode cX12_matchesAll 107 = .ok (.iinc 3 1, 3) := by decide +kernel
theorem dX12_matchesAll_110 : decode cX12_matchesAll 110 = .ok (.goto (-25), 3) := by decide +kernel
theorem dX12_matchesAll_113 : decode cX12_matchesAll 113 = .ok (.iload_n 2, 1) := by decide +kernel
theorem dX12_matchesAll_114 : decode cX12_matchesAll 114 = .ok (.iconst 1, 1) := by decide +kernel
theorem dX12_matchesAll_115 : decode cX12_matchesAll 115 = .ok (.isub, 1) := by decide +kernel
theorem dX12_matchesAll_116 : decode cX12_matchesAll 116 = .ok (.istore_n 3, 1) := by decide +kernel
theorem dX12_matchesAll_117 : decode cX12_matchesAll 117 = .ok (.iload_n 3, 1) := by decide +kernel
theorem dX12_matchesAll_118 : decode cX12_matchesAll 118 = .ok (.ifCond .lt 111, 3) := by decide +kernel
theorem dX12_matchesAll_121 : decode cX12_matchesAll 121 = .ok (.iconst 0, 1) := by decide +kernel
theorem dX12_matchesAll_122 : decode cX12_matchesAll 122 = .ok (.istore 4, 2) := by decide +kernel
theorem dX12_matchesAll_124 : decode cX12_matchesAll 124 = .ok (.iload 4, 2) := by decide +kernel
theorem dX12_matchesAll_126 : decode cX12_matchesAll 126 = .ok (.iconst 1, 1) := by decide +kernel
theorem dX12_matchesAll_127 : decode cX12_matchesAll 127 = .ok (.aload_n 0, 1) := by decide +kernel
theorem dX12_matchesAll_128 : decode cX12_matchesAll 128 = .ok (.invokevirtual 75, 3) := by decide +kernel
theorem dX12_matchesAll_131 : decode cX12_matchesAll 131 = .ok (.ishl, 1) := by decide +kernel
theorem dX12_matchesAll_132 : decode cX12_matchesAll 132 = .ok (.if_icmp .ge 91, 3) := by decide +kernel
theorem dX12_matchesAll_135 : decode cX12_matchesAll 135 = .ok (.iconst 0, 1) := by decide +kernel
theorem dX12_matchesAll_136 : decode cX12_matchesAll 136 = .ok (.istore 5, 2) := by decide +kernel
theorem dX12_matchesAll_138 : decode cX12_matchesAll 138 = .ok (.iconst 0, 1) := by decide +kernel
theorem dX12_matchesAll_139 : decode cX12_matchesAll 139 = .ok (.istore 6, 2) := by decide +kernel
theorem dX12_matchesAll_141 : decode cX12_matchesAll 141 = .ok (.iload 6, 2) := by decide +kernel
theorem dX12_matchesAll_143 : decode cX12_matchesAll 143 = .ok (.aload_n 0, 1) := by decide +kernel
theorem dX12_matchesAll_144 : decode cX12_matchesAll 144 = .ok (.invokevirtual 75, 3) := by decide +kernel
theorem dX12_matchesAll_147 : decode cX12_matchesAll 147 = .ok (.if_icmp .ge 56, 3) := by decide +kernel
theorem dX12_matchesAll_150 : decode cX12_matchesAll 150 = .ok (.iload 5, 2) := by decide +kernel
theorem dX12_matchesAll_152 : decode cX12_matchesAll 152 = .ok (.aload_n 0, 1) := by decide +kernel
theorem dX12_matchesAll_153 : decode cX12_matchesAll 153 = .ok (.getfield 50, 3) := by decide +kernel
theorem dX12_matchesAll_156 : decode cX12_matchesAll 156 = .ok (.iload_n 3, 1) := by decide +kernel
theorem dX12_matchesAll_157 : decode cX12_matchesAll 157 = .ok (.iaload, 1) := by decide +kernel
theorem dX12_matchesAll_158 : decode cX12_matchesAll 158 = .ok (.iload 4, 2) := by decide +kernel
theorem dX12_matchesAll_160 : decode cX12_matchesAll 160 = .ok (.iconst (-1), 1) := by decide +kernel
theorem dX12_matchesAll_161 : decode cX12_matchesAll 161 = .ok (.ixor, 1) := by decide +kernel
theorem dX12_matchesAll_162 : decode cX12_matchesAll 162 = .ok (.iand, 1) := by decide +kernel
theorem dX12_matchesAll_163 : decode cX12_matchesAll 163 = .ok (.iload 6, 2) := by decide +kernel
theorem dX12_matchesAll_165 : decode cX12_matchesAll 165 = .ok (.invokestatic 81, 3) := by decide +kernel
theorem dX12_matchesAll_168 : decode cX12_matchesAll 168 = .ok (.ifCond .eq 25, 3) := by decide +kernel
theorem dX12_matchesAll_171 : decode cX12_matchesAll 171 = .ok (.aload_n 0, 1) := by decide +kernel
theorem dX12_matchesAll_172 : decode cX12_matchesAll 172 = .ok (.getfield 53, 3) := by decide +kernel
theorem dX12_matchesAll_175 : decode cX12_matchesAll 175 = .ok (.iload_n 3, 1) := by decide +kernel
theorem dX12_matchesAll_176 : decode cX12_matchesAll 176 = .ok (.iconst 1, 1) := by decide +kernel
theorem dX12_matchesAll_177 : decode cX12_matchesAll 177 = .ok (.iadd, 1) := by decide +kernel
theorem dX12_matchesAll_178 : decode cX12_matchesAll 178 = .ok (.bipush 10, 2) := by decide +kernel
theorem dX12_matchesAll_180 : decode cX12_matchesAll 180 = .ok (.ishl, 1) := by decide +kernel
theorem dX12_matchesAll_181 : decode cX12_matchesAll 181 = .ok (.iload 4, 2) := by decide +kernel
theorem dX12_matchesAll_183 : decode cX12_matchesAll 183 = .ok (.ior, 1) := by decide +kernel
theorem dX12_matchesAll_184 : decode cX12_matchesAll 184 = .ok (.iconst 1, 1) := by decide +kernel
theorem dX12_matchesAll_185 : decode cX12_matchesAll 185 = .ok (.iload 6, 2) := by decide +kernel
theorem dX12_matchesAll_187 : decode cX12_matchesAll 187 = .ok (.ishl, 1) := by decide +kernel
theorem dX12_matchesAll_188 : decode cX12_matchesAll 188 = .ok (.ior, 1) := by decide +kernel
theorem dX12_matchesAll_189 : decode cX12_matchesAll 189 = .ok (.iaload, 1) := by decide +kernel
theorem dX12_matchesAll_190 : decode cX12_matchesAll 190 = .ok (.goto 4, 3) := by decide +kernel
theorem dX12_matchesAll_193 : decode cX12_matchesAll 193 = .ok (.iconst 0, 1) := by decide +kernel
theorem dX12_matchesAll_194 : decode cX12_matchesAll 194 = .ok (.iadd, 1) := by decide +kernel
theorem dX12_matchesAll_195 : decode cX12_matchesAll 195 = .ok (.istore 5, 2) := by decide +kernel
theorem dX12_matchesAll_197 : decode cX12_matchesAll 197 = .ok (.iinc 6 1, 3) := by decide +kernel
theorem dX12_matchesAll_200 : decode cX12_matchesAll 200 = .ok (.goto (-59), 3) := by decide +kernel
theorem dX12_matchesAll_203 : decode cX12_matchesAll 203 = .ok (.aload_n 0, 1) := by decide +kernel
theorem dX12_matchesAll_204 : decode cX12_matchesAll 204 = .ok (.getfield 53, 3) := by decide +kernel
theorem dX12_matchesAll_207 : decode cX12_matchesAll 207 = .ok (.iload_n 3, 1) := by decide +kernel
theorem dX12_matchesAll_208 : decode cX12_matchesAll 208 = .ok (.bipush 10, 2) := by decide +kernel
theorem dX12_matchesAll_210 : decode cX12_matchesAll 210 = .ok (.ishl, 1) := by decide +kernel
theorem dX12_matchesAll_211 : decode cX12_matchesAll 211 = .ok (.iload 4, 2) := by decide +kernel
theorem dX12_matchesAll_213 : decode cX12_matchesAll 213 = .ok (.ior, 1) := by decide +kernel
theorem dX12_matchesAll_214 : decode cX12_matchesAll 214 = .ok (.iload 5, 2) := by decide +kernel
theorem dX12_matchesAll_216 : decode cX12_matchesAll 216 = .ok (.iastore, 1) := by decide +kernel
theorem dX12_matchesAll_217 : decode cX12_matchesAll 217 = .ok (.iinc 4 1, 3) := by decide +kernel
theorem dX12_matchesAll_220 : decode cX12_matchesAll 220 = .ok (.goto (-96), 3) := by decide +kernel
theorem dX12_matchesAll_223 : decode cX12_matchesAll 223 = .ok (.iinc 3 (-1), 3) := by decide +kernel
theorem dX12_matchesAll_226 : decode cX12_matchesAll 226 = .ok (.goto (-109), 3) := by decide +kernel
theorem dX12_matchesAll_229 : decode cX12_matchesAll 229 = .ok (.return_, 1) := by decide +kernel
theorem dX12_matches_0 : decode cX12_matches 0 = .ok (.aload_n 0, 1) := by decide +kernel
theorem dX12_matches_1 : decode cX12_matches 1 = .ok (.invokevirtual 258, 3) := by decide +kernel
theorem dX12_matches_4 : decode cX12_matches 4 = .ok (.aload_n 0, 1) := by decide +kernel
theorem dX12_matches_5 : decode cX12_matches 5 = .ok (.iload_n 1, 1) := by decide +kernel
theorem dX12_matches_6 : decode cX12_matches 6 = .ok (.iconst 0, 1) := by decide +kernel
theorem dX12_matches_7 : decode cX12_matches 7 = .ok (.bipush 7, 2) := by decide +kernel
theorem dX12_matches_9 : decode cX12_matches 9 = .ok (.invokestatic 71, 3) := by decide +kernel
theorem dX12_matches_12 : decode cX12_matches 12 = .ok (.ifCond .ne 7, 3) := by decide +kernel
theorem dX12_matches_15 : decode cX12_matches 15 = .ok (.iconst 1, 1) := by decide +kernel
theorem dX12_matches_16 : decode cX12_matches 16 = .ok (.goto 4, 3) := by decide +kernel
theorem dX12_matches_19 : decode cX12_matches 19 = .ok (.iconst 0, 1) := by decide +kernel
theorem dX12_matches_20 : decode cX12_matches 20 = .ok (.iconst 1, 1) := by decide +kernel
theorem dX12_matches_21 : decode cX12_matches 21 = .ok (.invokevirtual 269, 3) := by decide +kernel
theorem dX12_matches_24 : decode cX12_matches 24 = .ok (.ifCond .eq 5, 3) := by decide +kernel
theorem dX12_matches_27 : decode cX12_matches 27 = .ok (.iconst 0, 1) := by decide +kernel
theorem dX12_matches_28 : decode cX12_matches 28 = .ok (.ireturn, 1) := by decide +kernel
theorem dX12_matches_29 : decode cX12_matches 29 = .ok (.aload_n 0, 1) := by decide +kernel
theorem dX12_matches_30 : decode cX12_matches 30 = .ok (.getfield 102, 3) := by decide +kernel
theorem dX12_matches_33 : decode cX12_matches 33 = .ok (.bipush 8, 2) := by decide +kernel
theorem dX12_matches_35 : decode cX12_matches 35 = .ok (.if_icmp .gt 21, 3) := by decide +kernel
theorem dX12_matches_38 : decode cX12_matches 38 = .ok (.iload_n 2, 1) := by decide +kernel
theorem dX12_matches_39 : decode cX12_matches 39 = .ok (.iconst (-1), 1) := by decide +kernel
theorem dX12_matches_40 : decode cX12_matches 40 = .ok (.aload_n 0, 1) := by decide +kernel
theorem dX12_matches_41 : decode cX12_matches 41 = .ok (.getfield 102, 3) := by decide +kernel
theorem dX12_matches_44 : decode cX12_matches 44 = .ok (.iconst 1, 1) := by decide +kernel
theorem dX12_matches_45 : decode cX12_matches 45 = .ok (.isub, 1) := by decide +kernel
theorem dX12_matches_46 : decode cX12_matches 46 = .ok (.invokestatic 71, 3) := by decide +kernel
theorem dX12_matches_49 : decode cX12_matches 49 = .ok (.ifCond .eq 7, 3) := by decide +kernel
theorem dX12_matches_52 : decode cX12_matches 52 = .ok (.iconst 1, 1) := by decide +kernel
theorem dX12_matches_53 : decode cX12_matches 53 = .ok (.goto 4, 3) := by decide +kernel
theorem dX12_matches_56 : decode cX12_matches 56 = .ok (.iconst 0, 1) := by decide +kernel
theorem dX12_matches_57 : decode cX12_matches 57 = .ok (.istore_n 3, 1) := by decide +kernel
theorem dX12_matches_58 : decode cX12_matches 58 = .ok (.iconst 0, 1) := by decide +kernel
theorem dX12_matches_59 : decode cX12_matches 59 = .ok (.istore 4, 2) := by decide +kernel
theorem dX12_matches_61 : decode cX12_matches 61 = .ok (.iload 4, 2) := by decide +kernel
theorem dX12_matches_63 : decode cX12_matches 63 = .ok (.aload_n 0, 1) := by decide +kernel
theorem dX12_matches_64 : decode cX12_matches 64 = .ok (.getfield 102, 3) := by decide +kernel
theorem dX12_matches_67 : decode cX12_matches 67 = .ok (.if_icmp .ge 33, 3) := by decide +kernel
theorem dX12_matches_70 : decode cX12_matches 70 = .ok (.iload_n 3, 1) := by decide +kernel
theorem dX12_matches_71 : decode cX12_matches 71 = .ok (.ifCond .eq 29, 3) := by decide +kernel
theorem dX12_matches_74 : decode cX12_matches 74 = .ok (.aload_n 0, 1) := by decide +kernel
theorem dX12_matches_75 : decode cX12_matches 75 = .ok (.aload_n 0, 1) := by decide +kernel
theorem dX12_matches_76 : decode cX12_matches 76 = .ok (.getfield 29, 3) := by decide +kernel
theorem dX12_matches_79 : decode cX12_matches 79 = .ok (.iload 4, 2) := by decide +kernel
theorem dX12_matches_81 : decode cX12_matches 81 = .ok (.baload, 1) := by decide +kernel
theorem dX12_matches_82 : decode cX12_matches 82 = .ok (.invokevirtual 304, 3) := by decide +kernel
theorem dX12_matches_85 : decode cX12_matches 85 = .ok (.ifCond .ne 7, 3) := by decide +kernel
theorem dX12_matches_88 : decode cX12_matches 88 = .ok (.iconst 1, 1) := by decide +kernel
theorem dX12_matches_89 : decode cX12_matches 89 = .ok (.goto 4, 3) := by decide +kernel
theorem dX12_matches_92 : decode cX12_matches 92 = .ok (.iconst 0, 1) := by decide +kernel
theorem dX12_matches_93 : decode cX12_matches 93 = .ok (.istore_n 3, 1) := by decide +kernel
theorem dX12_matches_94 : decode cX12_matches 94 = .ok (.iinc 4 1, 3) := by decide +kernel
theorem dX12_matches_97 : decode cX12_matches 97 = .ok (.goto (-36), 3) := by decide +kernel
theorem dX12_matches_100 : decode cX12_matches 100 = .ok (.aload_n 0, 1) := by decide +kernel
theorem dX12_matches_101 : decode cX12_matches 101 = .ok (.iload_n 3, 1) := by decide +kernel
theorem dX12_matches_102 : decode cX12_matches 102 = .ok (.ifCond .ne 7, 3) := by decide +kernel
theorem dX12_matches_105 : decode cX12_matches 105 = .ok (.iconst 1, 1) := by decide +kernel
theorem dX12_matches_106 : decode cX12_matches 106 = .ok (.goto 4, 3) := by decide +kernel
theorem dX12_matches_109 : decode cX12_matches 109 = .ok (.iconst 0, 1) := by decide +kernel
theorem dX12_matches_110 : decode cX12_matches 110 = .ok (.iconst 2, 1) := by decide +kernel
theorem dX12_matches_111 : decode cX12_matches 111 = .ok (.invokevirtual 269, 3) := by decide +kernel
theorem dX12_matches_114 : decode cX12_matches 114 = .ok (.ifCond .eq 5, 3) := by decide +kernel
theorem dX12_matches_117 : decode cX12_matches 117 = .ok (.iconst 0, 1) := by decide +kernel
theorem dX12_matches_118 : decode cX12_matches 118 = .ok (.ireturn, 1) := by decide +kernel
theorem dX12_matches_119 : decode cX12_matches 119 = .ok (.aload_n 0, 1) := by decide +kernel
theorem dX12_matches_120 : decode cX12_matches 120 = .ok (.iload_n 1, 1) := by decide +kernel
theorem dX12_matches_121 : decode cX12_matches 121 = .ok (.aload_n 0, 1) := by decide +kernel
theorem dX12_matches_122 : decode cX12_matches 122 = .ok (.getfield 102, 3) := by decide +kernel
theorem dX12_matches_125 : decode cX12_matches 125 = .ok (.invokevirtual 436, 3) := by decide +kernel
theorem dX12_matches_128 : decode cX12_matches 128 = .ok (.iload_n 2, 1) := by decide +kernel
theorem dX12_matches_129 : decode cX12_matches 129 = .ok (.iconst (-1), 1) := by decide +kernel
theorem dX12_matches_130 : decode cX12_matches 130 = .ok (.if_icmp .eq 12, 3) := by decide +kernel
theorem dX12_matches_133 : decode cX12_matches 133 = .ok (.aload_n 0, 1) := by decide +kernel
theorem dX12_matches_134 : decode cX12_matches 134 = .ok (.getfield 53, 3) := by decide +kernel
theorem dX12_matches_137 : decode cX12_matches 137 = .ok (.iconst 0, 1) := by decide +kernel
theorem dX12_matches_138 : decode cX12_matches 138 = .ok (.iaload, 1) := by decide +kernel
theorem dX12_matches_139 : decode cX12_matches 139 = .ok (.ifCond .ne 19, 3) := by decide +kernel
theorem dX12_matches_142 : decode cX12_matches 142 = .ok (.iload_n 2, 1) := by decide +kernel
theorem dX12_matches_143 : decode cX12_matches 143 = .ok (.iconst (-1), 1) := by decide +kernel
theorem dX12_matches_144 : decode cX12_matches 144 = .ok (.if_icmp .ne 12, 3) := by decide +kernel
theorem dX12_matches_147 : decode cX12_matches 147 = .ok (.aload_n 0, 1) := by decide +kernel
theorem dX12_matches_148 : decode cX12_matches 148 = .ok (.getfield 53, 3) := by decide +kernel
theorem dX12_matches_151 : decode cX12_matches 151 = .ok (.iconst 0, 1) := by decide +kernel
theorem dX12_matches_152 : decode cX12_matches 152 = .ok (.iaload, 1) := by decide +kernel
theorem dX12_matches_153 : decode cX12_matches 153 = .ok (.goto 4, 3) := by decide +kernel
theorem dX12_matches_156 : decode cX12_matches 156 = .ok (.iconst (-1), 1) := by decide +kernel
theorem dX12_matches_157 : decode cX12_matches 157 = .ok (.ireturn, 1) := by decide +kernel
theorem dX12_matches_158 : decode cX12_matches 158 = .ok (.iconst 0, 1) := by decide +kernel
theorem dX12_matches_159 : decode cX12_matches 159 = .ok (.istore 4, 2) := by decide +kernel
theorem dX12_matches_161 : decode cX12_matches 161 = .ok (.iconst (-1), 1) := by decide +kernel
theorem dX12_matches_162 : decode cX12_matches 162 = .ok (.istore 5, 2) := by decide +kernel
theorem dX12_matches_164 : decode cX12_matches 164 = .ok (.iconst 0, 1) := by decide +kernel
theorem dX12_matches_165 : decode cX12_matches 165 = .ok (.istore 6, 2) := by decide +kernel
theorem dX12_matches_167 : decode cX12_matches 167 = .ok (.iload 6, 2) := by decide +kernel
theorem dX12_matches_169 : decode cX12_matches 169 = .ok (.iload_n 2, 1) := by decide +kernel
theorem dX12_matches_170 : decode cX12_matches 170 = .ok (.if_icmp .gt 70, 3) := by decide +kernel
theorem dX12_matches_173 : decode cX12_matches 173 = .ok (.iconst 0, 1) := by decide +kernel
theorem dX12_matches_174 : decode cX12_matches 174 = .ok (.istore 5, 2) := by decide +kernel
theorem dX12_matches_176 : decode cX12_matches 176 = .ok (.aload_n 0, 1) := by decide +kernel
theorem dX12_matches_177 : decode cX12_matches 177 = .ok (.getfield 50, 3) := by decide +kernel
theorem dX12_matches_180 : decode cX12_matches 180 = .ok (.iload 6, 2) := by decide +kernel
theorem dX12_matches_182 : decode cX12_matches 182 = .ok (.iaload, 1) := by decide +kernel
theorem dX12_matches_183 : decode cX12_matches 183 = .ok (.iload 4, 2) := by decide +kernel
theorem dX12_matches_185 : decode cX12_matches 185 = .ok (.iconst (-1), 1) := by decide +kernel
theorem dX12_matches_186 : decode cX12_matches 186 = .ok (.ixor, 1) := by decide +kernel
theorem dX12_matches_187 : decode cX12_matches 187 = .ok (.iand, 1) := by decide +kernel
theorem dX12_matches_188 : decode cX12_matches 188 = .ok (.iload 5, 2) := by decide +kernel
theorem dX12_matches_190 : decode cX12_matches 190 = .ok (.invokestatic 81, 3) := by decide +kernel
theorem dX12_matches_193 : decode cX12_matches 193 = .ok (.ifCond .eq 26, 3) := by decide +kernel
theorem dX12_matches_196 : decode cX12_matches 196 = .ok (.aload_n 0, 1) := by decide +kernel
theorem dX12_matches_197 : decode cX12_matches 197 = .ok (.getfield 53, 3) := by decide +kernel
theorem dX12_matches_200 : decode cX12_matches 200 = .ok (.iload 6, 2) := by decide +kernel
theorem dX12_matches_202 : decode cX12_matches 202 = .ok (.iconst 1, 1) := by decide +kernel
theorem dX12_matches_203 : decode cX12_matches 203 = .ok (.iadd, 1) := by decide +kernel
theorem dX12_matches_204 : decode cX12_matches 204 = .ok (.bipush 10, 2) := by decide +kernel
theorem dX12_matches_206 : decode cX12_matches 206 = .ok (.ishl, 1) := by decide +kernel
theorem dX12_matches_207 : decode cX12_matches 207 = .ok (.iload 4, 2) := by decide +kernel
theorem dX12_matches_209 : decode cX12_matches 209 = .ok (.ior, 1) := by decide +kernel
theorem dX12_matches_210 : decode cX12_matches 210 = .ok (.iconst 1, 1) := by decide +kernel
theorem dX12_matches_211 : decode cX12_matches 211 = .ok (.iload 5, 2) := by decide +kernel
theorem dX12_matches_213 : decode cX12_matches 213 = .ok (.ishl, 1) := by decide +kernel
theorem dX12_matches_214 : decode cX12_matches 214 = .ok (.ior, 1) := by decide +kernel
theorem dX12_matches_215 : decode cX12_matches 215 = .ok (.iaload, 1) := by decide +kernel
theorem dX12_matches_216 : decode cX12_matches 216 = .ok (.ifCond .ne 9, 3) := by decide +kernel
theorem dX12_matches_219 : decode cX12_matches 219 = .ok (.iinc 5 1, 3) := by decide +kernel
theorem dX12_matches_222 : decode cX12_matches 222 = .ok (.goto (-46), 3) := by decide +kernel
theorem dX12_matches_225 : decode cX12_matches 225 = .ok (.iload 4, 2) := by decide +kernel
theorem dX12_matches_227 : decode cX12_matches 227 = .ok (.iconst 1, 1) := by decide +kernel
theorem dX12_matches_228 : decode cX12_matches 228 = .ok (.iload 5, 2) := by decide +kernel
theorem dX12_matches_230 : decode cX12_matches 230 = .ok (.ishl, 1) := by decide +kernel
theorem dX12_matches_231 : decode cX12_matches 231 = .ok (.ior, 1) := by decide +kernel
theorem dX12_matches_232 : decode cX12_matches 232 = .ok (.istore 4, 2) := by decide +kernel
theorem dX12_matches_234 : decode cX12_matches 234 = .ok (.iinc 6 1, 3) := by decide +kernel
theorem dX12_matches_237 : decode cX12_matches 237 = .ok (.goto (-70), 3) := by decide +kernel
theorem dX12_matches_240 : decode cX12_matches 240 = .ok (.iload 5, 2) := by decide +kernel
theorem dX12_matches_242 : decode cX12_matches 242 = .ok (.ireturn, 1) := by decide +kernel
theorem dX12_keepsAll_0 : decode cX12_keepsAll 0 = .ok (.iconst 0, 1) := by decide +kernel
theorem dX12_keepsAll_1 : decode cX12_keepsAll 1 = .ok (.istore_n 1, 1) := by decide +kernel
theorem dX12_keepsAll_2 : decode cX12_keepsAll 2 = .ok (.iload_n 1, 1) := by decide +kernel
theorem dX12_keepsAll_3 : decode cX12_keepsAll 3 = .ok (.sipush 731, 3) := by decide +kernel
theorem dX12_keepsAll_6 : decode cX12_keepsAll 6 = .ok (.if_icmp .ge 21, 3) := by decide +kernel
theorem dX12_keepsAll_9 : decode cX12_keepsAll 9 = .ok (.aload_n 0, 1) := by decide +kernel
theorem dX12_keepsAll_10 : decode cX12_keepsAll 10 = .ok (.getfield 23, 3) := by decide +kernel
theorem dX12_keepsAll_13 : decode cX12_keepsAll 13 = .ok (.iload_n 1, 1) := by decide +kernel
theorem dX12_keepsAll_14 : decode cX12_keepsAll 14 = .ok (.aload_n 0, 1) := by decide +kernel
theorem dX12_keepsAll_15 : decode cX12_keepsAll 15 = .ok (.getfield 13, 3) := by decide +kernel
theorem dX12_keepsAll_18 : decode cX12_keepsAll 18 = .ok (.iload_n 1, 1) := by decide +kernel
theorem dX12_keepsAll_19 : decode cX12_keepsAll 19 = .ok (.iaload, 1) := by decide +kernel
theorem dX12_keepsAll_20 : decode cX12_keepsAll 20 = .ok (.iastore, 1) := by decide +kernel
theorem dX12_keepsAll_21 : decode cX12_keepsAll 21 = .ok (.iinc 1 1, 3) := by decide +kernel
theorem dX12_keepsAll_24 : decode cX12_keepsAll 24 = .ok (.goto (-22), 3) := by decide +kernel
theorem dX12_keepsAll_27 : decode cX12_keepsAll 27 = .ok (.return_, 1) := by decide +kernel
theorem dX12_bringsBack_0 : decode cX12_bringsBack 0 = .ok (.iconst 0, 1) := by decide +kernel
theorem dX12_bringsBack_1 : decode cX12_bringsBack 1 = .ok (.istore_n 1, 1) := by decide +kernel
theorem dX12_bringsBack_2 : decode cX12_bringsBack 2 = .ok (.iload_n 1, 1) := by decide +kernel
theorem dX12_bringsBack_3 : decode cX12_bringsBack 3 = .ok (.sipush 731, 3) := by decide +kernel
theorem dX12_bringsBack_6 : decode cX12_bringsBack 6 = .ok (.if_icmp .ge 21, 3) := by decide +kernel
theorem dX12_bringsBack_9 : decode cX12_bringsBack 9 = .ok (.aload_n 0, 1) := by decide +kernel
theorem dX12_bringsBack_10 : decode cX12_bringsBack 10 = .ok (.getfield 13, 3) := by decide +kernel
theorem dX12_bringsBack_13 : decode cX12_bringsBack 13 = .ok (.iload_n 1, 1) := by decide +kernel
theorem dX12_bringsBack_14 : decode cX12_bringsBack 14 = .ok (.aload_n 0, 1) := by decide +kernel
theorem dX12_bringsBack_15 : decode cX12_bringsBack 15 = .ok (.getfield 23, 3) := by decide +kernel
theorem dX12_bringsBack_18 : decode cX12_bringsBack 18 = .ok (.iload_n 1, 1) := by decide +kernel
theorem dX12_bringsBack_19 : decode cX12_bringsBack 19 = .ok (.iaload, 1) := by decide +kernel
theorem dX12_bringsBack_20 : decode cX12_bringsBack 20 = .ok (.iastore, 1) := by decide +kernel
theorem dX12_bringsBack_21 : decode cX12_bringsBack 21 = .ok (.iinc 1 1, 3) := by decide +kernel
theorem dX12_bringsBack_24 : decode cX12_bringsBack 24 = .ok (.goto (-22), 3) := by decide +kernel
theorem dX12_bringsBack_27 : decode cX12_bringsBack 27 = .ok (.return_, 1) := by decide +kernel
theorem dX12_allKnown_0 : decode cX12_allKnown 0 = .ok (.iconst 0, 1) := by decide +kernel
theorem dX12_allKnown_1 : decode cX12_allKnown 1 = .ok (.istore_n 1, 1) := by decide +kernel
theorem dX12_allKnown_2 : decode cX12_allKnown 2 = .ok (.iconst 0, 1) := by decide +kernel
theorem dX12_allKnown_3 : decode cX12_allKnown 3 = .ok (.istore_n 2, 1) := by decide +kernel
theorem dX12_allKnown_4 : decode cX12_allKnown 4 = .ok (.iload_n 2, 1) := by decide +kernel
theorem dX12_allKnown_5 : decode cX12_allKnown 5 = .ok (.aload_n 0, 1) := by decide +kernel
theorem dX12_allKnown_6 : decode cX12_allKnown 6 = .ok (.invokevirtual 75, 3) := by decide +kernel
theorem dX12_allKnown_9 : decode cX12_allKnown 9 = .ok (.if_icmp .ge 19, 3) := by decide +kernel
theorem dX12_allKnown_12 : decode cX12_allKnown 12 = .ok (.iload_n 1, 1) := by decide +kernel
theorem dX12_allKnown_13 : decode cX12_allKnown 13 = .ok (.aload_n 0, 1) := by decide +kernel
theorem dX12_allKnown_14 : decode cX12_allKnown 14 = .ok (.iload_n 2, 1) := by decide +kernel
theorem dX12_allKnown_15 : decode cX12_allKnown 15 = .ok (.bipush 9, 2) := by decide +kernel
theorem dX12_allKnown_17 : decode cX12_allKnown 17 = .ok (.invokevirtual 63, 3) := by decide +kernel
theorem dX12_allKnown_20 : decode cX12_allKnown 20 = .ok (.iadd, 1) := by decide +kernel
theorem dX12_allKnown_21 : decode cX12_allKnown 21 = .ok (.istore_n 1, 1) := by decide +kernel
theorem dX12_allKnown_22 : decode cX12_allKnown 22 = .ok (.iinc 2 1, 3) := by decide +kernel
theorem dX12_allKnown_25 : decode cX12_allKnown 25 = .ok (.goto (-21), 3) := by decide +kernel
theorem dX12_allKnown_28 : decode cX12_allKnown 28 = .ok (.iload_n 1, 1) := by decide +kernel
theorem dX12_allKnown_29 : decode cX12_allKnown 29 = .ok (.ireturn, 1) := by decide +kernel
theorem dX12_allUsable_0 : decode cX12_allUsable 0 = .ok (.iconst 0, 1) := by decide +kernel
theorem dX12_allUsable_1 : decode cX12_allUsable 1 = .ok (.istore_n 2, 1) := by decide +kernel
theorem dX12_allUsable_2 : decode cX12_allUsable 2 = .ok (.iconst 0, 1) := by decide +kernel
theorem dX12_allUsable_3 : decode cX12_allUsable 3 = .ok (.istore_n 3, 1) := by decide +kernel
theorem dX12_allUsable_4 : decode cX12_allUsable 4 = .ok (.iload_n 3, 1) := by decide +kernel
theorem dX12_allUsable_5 : decode cX12_allUsable 5 = .ok (.aload_n 0, 1) := by decide +kernel
theorem dX12_allUsable_6 : decode cX12_allUsable 6 = .ok (.invokevirtual 75, 3) := by decide +kernel
theorem dX12_allUsable_9 : decode cX12_allUsable 9 = .ok (.if_icmp .ge 37, 3) := by decide +kernel
theorem dX12_allUsable_12 : decode cX12_allUsable 12 = .ok (.iload_n 2, 1) := by decide +kernel
theorem dX12_allUsable_13 : decode cX12_allUsable 13 = .ok (.iload_n 1, 1) := by decide +kernel
theorem dX12_allUsable_14 : decode cX12_allUsable 14 = .ok (.aload_n 0, 1) := by decide +kernel
theorem dX12_allUsable_15 : decode cX12_allUsable 15 = .ok (.iload_n 3, 1) := by decide +kernel
theorem dX12_allUsable_16 : decode cX12_allUsable 16 = .ok (.iconst 0, 1) := by decide +kernel
theorem dX12_allUsable_17 : decode cX12_allUsable 17 = .ok (.invokevirtual 63, 3) := by decide +kernel
theorem dX12_allUsable_20 : decode cX12_allUsable 20 = .ok (.invokestatic 81, 3) := by decide +kernel
theorem dX12_allUsable_23 : decode cX12_allUsable 23 = .ok (.ifCond .eq 14, 3) := by decide +kernel
theorem dX12_allUsable_26 : decode cX12_allUsable 26 = .ok (.aload_n 0, 1) := by decide +kernel
theorem dX12_allUsable_27 : decode cX12_allUsable 27 = .ok (.iload_n 3, 1) := by decide +kernel
theorem dX12_allUsable_28 : decode cX12_allUsable 28 = .ok (.invokevirtual 275, 3) := by decide +kernel
theorem dX12_allUsable_31 : decode cX12_allUsable 31 = .ok (.invokestatic 278, 3) := by decide +kernel
theorem dX12_allUsable_34 : decode cX12_allUsable 34 = .ok (.goto 4, 3) := by decide +kernel
theorem dX12_allUsable_37 : decode cX12_allUsable 37 = .ok (.iconst 0, 1) := by decide +kernel
theorem dX12_allUsable_38 : decode cX12_allUsable 38 = .ok (.iadd, 1) := by decide +kernel
theorem dX12_allUsable_39 : decode cX12_allUsable 39 = .ok (.istore_n 2, 1) := by decide +kernel
theorem dX12_allUsable_40 : decode cX12_allUsable 40 = .ok (.iinc 3 1, 3) := by decide +kernel
theorem dX12_allUsable_43 : decode cX12_allUsable 43 = .ok (.goto (-39), 3) := by decide +kernel
theorem dX12_allUsable_46 : decode cX12_allUsable 46 = .ok (.iload_n 2, 1) := by decide +kernel
theorem dX12_allUsable_47 : decode cX12_allUsable 47 = .ok (.ireturn, 1) := by decide +kernel
theorem dX12_trial_0 : decode cX12_trial 0 = .ok (.aload_n 0, 1) := by decide +kernel
theorem dX12_trial_1 : decode cX12_trial 1 = .ok (.iconst 0, 1) := by decide +kernel
theorem dX12_trial_2 : decode cX12_trial 2 = .ok (.putfield 3, 3) := by decide +kernel
theorem dX12_trial_5 : decode cX12_trial 5 = .ok (.aload_n 0, 1) := by decide +kernel
theorem dX12_trial_6 : decode cX12_trial 6 = .ok (.iload_n 1, 1) := by decide +kernel
theorem dX12_trial_7 : decode cX12_trial 7 = .ok (.iconst 0, 1) := by decide +kernel
theorem dX12_trial_8 : decode cX12_trial 8 = .ok (.bipush 60, 2) := by decide +kernel
theorem dX12_trial_10 : decode cX12_trial 10 = .ok (.invokestatic 71, 3) := by decide +kernel
theorem dX12_trial_13 : decode cX12_trial 13 = .ok (.ifCond .ne 7, 3) := by decide +kernel
theorem dX12_trial_16 : decode cX12_trial 16 = .ok (.iconst 1, 1) := by decide +kernel
theorem dX12_trial_17 : decode cX12_trial 17 = .ok (.goto 4, 3) := by decide +kernel
theorem dX12_trial_20 : decode cX12_trial 20 = .ok (.iconst 0, 1) := by decide +kernel
theorem dX12_trial_21 : decode cX12_trial 21 = .ok (.iconst 1, 1) := by decide +kernel
theorem dX12_trial_22 : decode cX12_trial 22 = .ok (.invokevirtual 269, 3) := by decide +kernel
theorem dX12_trial_25 : decode cX12_trial 25 = .ok (.ifCond .ne 25, 3) := by decide +kernel
theorem dX12_trial_28 : decode cX12_trial 28 = .ok (.aload_n 0, 1) := by decide +kernel
theorem dX12_trial_29 : decode cX12_trial 29 = .ok (.iload_n 2, 1) := by decide +kernel
theorem dX12_trial_30 : decode cX12_trial 30 = .ok (.iconst 0, 1) := by decide +kernel
theorem dX12_trial_31 : decode cX12_trial 31 = .ok (.iconst 3, 1) := by decide +kernel
theorem dX12_trial_32 : decode cX12_trial 32 = .ok (.invokestatic 71, 3) := by decide +kernel
theorem dX12_trial_35 : decode cX12_trial 35 = .ok (.ifCond .ne 7, 3) := by decide +kernel
theorem dX12_trial_38 : decode cX12_trial 38 = .ok (.iconst 1, 1) := by decide +kernel
theorem dX12_trial_39 : decode cX12_trial 39 = .ok (.goto 4, 3) := by decide +kernel
theorem dX12_trial_42 : decode cX12_trial 42 = .ok (.iconst 0, 1) := by decide +kernel
theorem dX12_trial_43 : decode cX12_trial 43 = .ok (.iconst 2, 1) := by decide +kernel
theorem dX12_trial_44 : decode cX12_trial 44 = .ok (.invokevirtual 269, 3) := by decide +kernel
theorem dX12_trial_47 : decode cX12_trial 47 = .ok (.ifCond .eq 5, 3) := by decide +kernel
theorem dX12_trial_50 : decode cX12_trial 50 = .ok (.iconst 0, 1) := by decide +kernel
theorem dX12_trial_51 : decode cX12_trial 51 = .ok (.ireturn, 1) := by decide +kernel
theorem dX12_trial_52 : decode cX12_trial 52 = .ok (.aload_n 0, 1) := by decide +kernel
theorem dX12_trial_53 : decode cX12_trial 53 = .ok (.invokevirtual 439, 3) := by decide +kernel
theorem dX12_trial_56 : decode cX12_trial 56 = .ok (.aload_n 0, 1) := by decide +kernel
theorem dX12_trial_57 : decode cX12_trial 57 = .ok (.bipush 12, 2) := by decide +kernel
theorem dX12_trial_59 : decode cX12_trial 59 = .ok (.invokevirtual 328, 3) := by decide +kernel
theorem dX12_trial_62 : decode cX12_trial 62 = .ok (.istore_n 3, 1) := by decide +kernel
theorem dX12_trial_63 : decode cX12_trial 63 = .ok (.iconst (-1), 1) := by decide +kernel
theorem dX12_trial_64 : decode cX12_trial 64 = .ok (.istore 4, 2) := by decide +kernel
theorem dX12_trial_66 : decode cX12_trial 66 = .ok (.iconst 1, 1) := by decide +kernel
theorem dX12_trial_67 : decode cX12_trial 67 = .ok (.istore 5, 2) := by decide +kernel
theorem dX12_trial_69 : decode cX12_trial 69 = .ok (.iload 5, 2) := by decide +kernel
theorem dX12_trial_71 : decode cX12_trial 71 = .ok (.iload_n 1, 1) := by decide +kernel
theorem dX12_trial_72 : decode cX12_trial 72 = .ok (.if_icmp .gt 35, 3) := by decide +kernel
theorem dX12_trial_75 : decode cX12_trial 75 = .ok (.aload_n 0, 1) := by decide +kernel
theorem dX12_trial_76 : decode cX12_trial 76 = .ok (.invokevirtual 385, 3) := by decide +kernel
theorem dX12_trial_79 : decode cX12_trial 79 = .ok (.iload 4, 2) := by decide +kernel
theorem dX12_trial_81 : decode cX12_trial 81 = .ok (.ifCond .ge 20, 3) := by decide +kernel
theorem dX12_trial_84 : decode cX12_trial 84 = .ok (.iload_n 3, 1) := by decide +kernel
theorem dX12_trial_85 : decode cX12_trial 85 = .ok (.aload_n 0, 1) := by decide +kernel
theorem dX12_trial_86 : decode cX12_trial 86 = .ok (.bipush 12, 2) := by decide +kernel
theorem dX12_trial_88 : decode cX12_trial 88 = .ok (.invokevirtual 328, 3) := by decide +kernel
theorem dX12_trial_91 : decode cX12_trial 91 = .ok (.iconst (-1), 1) := by decide +kernel
theorem dX12_trial_92 : decode cX12_trial 92 = .ok (.ixor, 1) := by decide +kernel
theorem dX12_trial_93 : decode cX12_trial 93 = .ok (.iand, 1) := by decide +kernel
theorem dX12_trial_94 : decode cX12_trial 94 = .ok (.ifCond .eq 7, 3) := by decide +kernel
theorem dX12_trial_97 : decode cX12_trial 97 = .ok (.iload 5, 2) := by decide +kernel
theorem dX12_trial_99 : decode cX12_trial 99 = .ok (.istore 4, 2) := by decide +kernel
theorem dX12_trial_101 : decode cX12_trial 101 = .ok (.iinc 5 1, 3) := by decide +kernel
theorem dX12_trial_104 : decode cX12_trial 104 = .ok (.goto (-35), 3) := by decide +kernel
theorem dX12_trial_107 : decode cX12_trial 107 = .ok (.iload_n 2, 1) := by decide +kernel
theorem dX12_trial_108 : decode cX12_trial 108 = .ok (.ifCond .ne 10, 3) := by decide +kernel
theorem dX12_trial_111 : decode cX12_trial 111 = .ok (.aload_n 0, 1) := by decide +kernel
theorem dX12_trial_112 : decode cX12_trial 112 = .ok (.invokevirtual 442, 3) := by decide +kernel
theorem dX12_trial_115 : decode cX12_trial 115 = .ok (.goto 32, 3) := by decide +kernel
theorem dX12_trial_118 : decode cX12_trial 118 = .ok (.iload_n 2, 1) := by decide +kernel
theorem dX12_trial_119 : decode cX12_trial 119 = .ok (.iconst 1, 1) := by decide +kernel
theorem dX12_trial_120 : decode cX12_trial 120 = .ok (.if_icmp .ne 11, 3) := by decide +kernel
theorem dX12_trial_123 : decode cX12_trial 123 = .ok (.aload_n 0, 1) := by decide +kernel
theorem dX12_trial_124 : decode cX12_trial 124 = .ok (.iconst 3, 1) := by decide +kernel
theorem dX12_trial_125 : decode cX12_trial 125 = .ok (.invokevirtual 445, 3) := by decide +kernel
theorem dX12_trial_128 : decode cX12_trial 128 = .ok (.goto 19, 3) := by decide +kernel
theorem dX12_trial_131 : decode cX12_trial 131 = .ok (.iload_n 2, 1) := by decide +kernel
theorem dX12_trial_132 : decode cX12_trial 132 = .ok (.iconst 2, 1) := by decide +kernel
theorem dX12_trial_133 : decode cX12_trial 133 = .ok (.if_icmp .ne 12, 3) := by decide +kernel
theorem dX12_trial_136 : decode cX12_trial 136 = .ok (.aload_n 0, 1) := by decide +kernel
theorem dX12_trial_137 : decode cX12_trial 137 = .ok (.bipush 12, 2) := by decide +kernel
theorem dX12_trial_139 : decode cX12_trial 139 = .ok (.invokevirtual 328, 3) := by decide +kernel
theorem dX12_trial_142 : decode cX12_trial 142 = .ok (.goto 5, 3) := by decide +kernel
theorem dX12_trial_145 : decode cX12_trial 145 = .ok (.iload 4, 2) := by decide +kernel
theorem dX12_trial_147 : decode cX12_trial 147 = .ok (.istore 5, 2) := by decide +kernel
theorem dX12_trial_149 : decode cX12_trial 149 = .ok (.aload_n 0, 1) := by decide +kernel
theorem dX12_trial_150 : decode cX12_trial 150 = .ok (.invokevirtual 448, 3) := by decide +kernel
theorem dX12_trial_153 : decode cX12_trial 153 = .ok (.iload 5, 2) := by decide +kernel
theorem dX12_trial_155 : decode cX12_trial 155 = .ok (.ireturn, 1) := by decide +kernel
theorem dX12_span_0 : decode cX12_span 0 = .ok (.aload_n 0, 1) := by decide +kernel
theorem dX12_span_1 : decode cX12_span 1 = .ok (.iconst 0, 1) := by decide +kernel
theorem dX12_span_2 : decode cX12_span 2 = .ok (.putfield 3, 3) := by decide +kernel
theorem dX12_span_5 : decode cX12_span 5 = .ok (.aload_n 0, 1) := by decide +kernel
theorem dX12_span_6 : decode cX12_span 6 = .ok (.iload_n 1, 1) := by decide +kernel
theorem dX12_span_7 : decode cX12_span 7 = .ok (.invokestatic 393, 3) := by decide +kernel
theorem dX12_span_10 : decode cX12_span 10 = .ok (.iconst 1, 1) := by decide +kernel
theorem dX12_span_11 : decode cX12_span 11 = .ok (.invokevirtual 269, 3) := by decide +kernel
theorem dX12_span_14 : decode cX12_span 14 = .ok (.ifCond .ne 26, 3) := by decide +kernel
theorem dX12_span_17 : decode cX12_span 17 = .ok (.aload_n 0, 1) := by decide +kernel
theorem dX12_span_18 : decode cX12_span 18 = .ok (.iload_n 2, 1) := by decide +kernel
theorem dX12_span_19 : decode cX12_span 19 = .ok (.iconst 0, 1) := by decide +kernel
theorem dX12_span_20 : decode cX12_span 20 = .ok (.bipush 24, 2) := by decide +kernel
theorem dX12_span_22 : decode cX12_span 22 = .ok (.invokestatic 71, 3) := by decide +kernel
theorem dX12_span_25 : decode cX12_span 25 = .ok (.ifCond .ne 7, 3) := by decide +kernel
theorem dX12_span_28 : decode cX12_span 28 = .ok (.iconst 1, 1) := by decide +kernel
theorem dX12_span_29 : decode cX12_span 29 = .ok (.goto 4, 3) := by decide +kernel
theorem dX12_span_32 : decode cX12_span 32 = .ok (.iconst 0, 1) := by decide +kernel
theorem dX12_span_33 : decode cX12_span 33 = .ok (.iconst 2, 1) := by decide +kernel
theorem dX12_span_34 : decode cX12_span 34 = .ok (.invokevirtual 269, 3) := by decide +kernel
theorem dX12_span_37 : decode cX12_span 37 = .ok (.ifCond .eq 5, 3) := by decide +kernel
theorem dX12_span_40 : decode cX12_span 40 = .ok (.iconst 0, 1) := by decide +kernel
theorem dX12_span_41 : decode cX12_span 41 = .ok (.ireturn, 1) := by decide +kernel
theorem dX12_span_42 : decode cX12_span 42 = .ok (.aload_n 0, 1) := by decide +kernel
theorem dX12_span_43 : decode cX12_span 43 = .ok (.invokevirtual 439, 3) := by decide +kernel
theorem dX12_span_46 : decode cX12_span 46 = .ok (.iconst (-1), 1) := by decide +kernel
theorem dX12_span_47 : decode cX12_span 47 = .ok (.istore 4, 2) := by decide +kernel
theorem dX12_span_49 : decode cX12_span 49 = .ok (.iconst 1, 1) := by decide +kernel
theorem dX12_span_50 : decode cX12_span 50 = .ok (.istore 5, 2) := by decide +kernel
theorem dX12_span_52 : decode cX12_span 52 = .ok (.iload 5, 2) := by decide +kernel
theorem dX12_span_54 : decode cX12_span 54 = .ok (.bipush 6, 2) := by decide +kernel
theorem dX12_span_56 : decode cX12_span 56 = .ok (.if_icmp .gt 83, 3) := by decide +kernel
theorem dX12_span_59 : decode cX12_span 59 = .ok (.aload_n 0, 1) := by decide +kernel
theorem dX12_span_60 : decode cX12_span 60 = .ok (.getfield 13, 3) := by decide +kernel
theorem dX12_span_63 : decode cX12_span 63 = .ok (.bipush 10, 2) := by decide +kernel
theorem dX12_span_65 : decode cX12_span 65 = .ok (.iload 5, 2) := by decide +kernel
theorem dX12_span_67 : decode cX12_span 67 = .ok (.iastore, 1) := by decide +kernel
theorem dX12_span_68 : decode cX12_span 68 = .ok (.iconst 0, 1) := by decide +kernel
theorem dX12_span_69 : decode cX12_span 69 = .ok (.istore 6, 2) := by decide +kernel
theorem dX12_span_71 : decode cX12_span 71 = .ok (.iload 6, 2) := by decide +kernel
theorem dX12_span_73 : decode cX12_span 73 = .ok (.iload_n 2, 1) := by decide +kernel
theorem dX12_span_74 : decode cX12_span 74 = .ok (.if_icmp .ge 13, 3) := by decide +kernel
theorem dX12_span_77 : decode cX12_span 77 = .ok (.aload_n 0, 1) := by decide +kernel
theorem dX12_span_78 : decode cX12_span 78 = .ok (.invokevirtual 385, 3) := by decide +kernel
theorem dX12_span_81 : decode cX12_span 81 = .ok (.iinc 6 1, 3) := by decide +kernel
theorem dX12_span_84 : decode cX12_span 84 = .ok (.goto (-13), 3) := by decide +kernel
theorem dX12_span_87 : decode cX12_span 87 = .ok (.aload_n 0, 1) := by decide +kernel
theorem dX12_span_88 : decode cX12_span 88 = .ok (.iconst 1, 1) := by decide +kernel
theorem dX12_span_89 : decode cX12_span 89 = .ok (.iload_n 1, 1) := by decide +kernel
theorem dX12_span_90 : decode cX12_span 90 = .ok (.ishl, 1) := by decide +kernel
theorem dX12_span_91 : decode cX12_span 91 = .ok (.invokevirtual 445, 3) := by decide +kernel
theorem dX12_span_94 : decode cX12_span 94 = .ok (.istore 6, 2) := by decide +kernel
theorem dX12_span_96 : decode cX12_span 96 = .ok (.aload_n 0, 1) := by decide +kernel
theorem dX12_span_97 : decode cX12_span 97 = .ok (.invokevirtual 448, 3) := by decide +kernel
theorem dX12_span_100 : decode cX12_span 100 = .ok (.iload 4, 2) := by decide +kernel
theorem dX12_span_102 : decode cX12_span 102 = .ok (.ifCond .ge 8, 3) := by decide +kernel
theorem dX12_span_105 : decode cX12_span 105 = .ok (.iload 6, 2) := by decide +kernel
theorem dX12_span_107 : decode cX12_span 107 = .ok (.goto 24, 3) := by decide +kernel
theorem dX12_span_110 : decode cX12_span 110 = .ok (.iload_n 3, 1) := by decide +kernel
theorem dX12_span_111 : decode cX12_span 111 = .ok (.ifCond .eq 13, 3) := by decide +kernel
theorem dX12_span_114 : decode cX12_span 114 = .ok (.iload 4, 2) := by decide +kernel
theorem dX12_span_116 : decode cX12_span 116 = .ok (.iload 6, 2) := by decide +kernel
theorem dX12_span_118 : decode cX12_span 118 = .ok (.invokestatic 402, 3) := by decide +kernel
theorem dX12_span_121 : decode cX12_span 121 = .ok (.goto 10, 3) := by decide +kernel
theorem dX12_span_124 : decode cX12_span 124 = .ok (.iload 4, 2) := by decide +kernel
theorem dX12_span_126 : decode cX12_span 126 = .ok (.iload 6, 2) := by decide +kernel
theorem dX12_span_128 : decode cX12_span 128 = .ok (.invokestatic 293, 3) := by decide +kernel
theorem dX12_span_131 : decode cX12_span 131 = .ok (.istore 4, 2) := by decide +kernel
theorem dX12_span_133 : decode cX12_span 133 = .ok (.iinc 5 1, 3) := by decide +kernel
theorem dX12_span_136 : decode cX12_span 136 = .ok (.goto (-84), 3) := by decide +kernel
theorem dX12_span_139 : decode cX12_span 139 = .ok (.iload 4, 2) := by decide +kernel
theorem dX12_span_141 : decode cX12_span 141 = .ok (.ireturn, 1) := by decide +kernel
theorem dX12_meets_0 : decode cX12_meets 0 = .ok (.aload_n 0, 1) := by decide +kernel
theorem dX12_meets_1 : decode cX12_meets 1 = .ok (.iconst 0, 1) := by decide +kernel
theorem dX12_meets_2 : decode cX12_meets 2 = .ok (.putfield 3, 3) := by decide +kernel
theorem dX12_meets_5 : decode cX12_meets 5 = .ok (.aload_n 0, 1) := by decide +kernel
theorem dX12_meets_6 : decode cX12_meets 6 = .ok (.aload_n 0, 1) := by decide +kernel
theorem dX12_meets_7 : decode cX12_meets 7 = .ok (.iload_n 1, 1) := by decide +kernel
theorem dX12_meets_8 : decode cX12_meets 8 = .ok (.invokevirtual 322, 3) := by decide +kernel
theorem dX12_meets_11 : decode cX12_meets 11 = .ok (.ifCond .ne 11, 3) := by decide +kernel
theorem dX12_meets_14 : decode cX12_meets 14 = .ok (.aload_n 0, 1) := by decide +kernel
theorem dX12_meets_15 : decode cX12_meets 15 = .ok (.iload_n 2, 1) := by decide +kernel
theorem dX12_meets_16 : decode cX12_meets 16 = .ok (.invokevirtual 322, 3) := by decide +kernel
theorem dX12_meets_19 : decode cX12_meets 19 = .ok (.ifCond .eq 7, 3) := by decide +kernel
theorem dX12_meets_22 : decode cX12_meets 22 = .ok (.iconst 1, 1) := by decide +kernel
theorem dX12_meets_23 : decode cX12_meets 23 = .ok (.goto 4, 3) := by decide +kernel
theorem dX12_meets_26 : decode cX12_meets 26 = .ok (.iconst 0, 1) := by decide +kernel
theorem dX12_meets_27 : decode cX12_meets 27 = .ok (.iconst 1, 1) := by decide +kernel
theorem dX12_meets_28 : decode cX12_meets 28 = .ok (.invokevirtual 269, 3) := by decide +kernel
theorem dX12_meets_31 : decode cX12_meets 31 = .ok (.ifCond .ne 21, 3) := by decide +kernel
theorem dX12_meets_34 : decode cX12_meets 34 = .ok (.aload_n 0, 1) := by decide +kernel
theorem dX12_meets_35 : decode cX12_meets 35 = .ok (.iload_n 1, 1) := by decide +kernel
theorem dX12_meets_36 : decode cX12_meets 36 = .ok (.iload_n 2, 1) := by decide +kernel
theorem dX12_meets_37 : decode cX12_meets 37 = .ok (.if_icmp .ne 7, 3) := by decide +kernel
theorem dX12_meets_40 : decode cX12_meets 40 = .ok (.iconst 1, 1) := by decide +kernel
theorem dX12_meets_41 : decode cX12_meets 41 = .ok (.goto 4, 3) := by decide +kernel
theorem dX12_meets_44 : decode cX12_meets 44 = .ok (.iconst 0, 1) := by decide +kernel
theorem dX12_meets_45 : decode cX12_meets 45 = .ok (.iconst 2, 1) := by decide +kernel
theorem dX12_meets_46 : decode cX12_meets 46 = .ok (.invokevirtual 269, 3) := by decide +kernel
theorem dX12_meets_49 : decode cX12_meets 49 = .ok (.ifCond .eq 5, 3) := by decide +kernel
theorem dX12_meets_52 : decode cX12_meets 52 = .ok (.iconst 0, 1) := by decide +kernel
theorem dX12_meets_53 : decode cX12_meets 53 = .ok (.ireturn, 1) := by decide +kernel
theorem dX12_meets_54 : decode cX12_meets 54 = .ok (.iconst 0, 1) := by decide +kernel
theorem dX12_meets_55 : decode cX12_meets 55 = .ok (.istore_n 3, 1) := by decide +kernel
theorem dX12_meets_56 : decode cX12_meets 56 = .ok (.iload_n 3, 1) := by decide +kernel
theorem dX12_meets_57 : decode cX12_meets 57 = .ok (.sipush 144, 3) := by decide +kernel
theorem dX12_meets_60 : decode cX12_meets 60 = .ok (.if_icmp .gt 33, 3) := by decide +kernel
theorem dX12_meets_63 : decode cX12_meets 63 = .ok (.aload_n 0, 1) := by decide +kernel
theorem dX12_meets_64 : decode cX12_meets 64 = .ok (.iload_n 1, 1) := by decide +kernel
theorem dX12_meets_65 : decode cX12_meets 65 = .ok (.iload_n 3, 1) := by decide +kernel
theorem dX12_meets_66 : decode cX12_meets 66 = .ok (.invokevirtual 334, 3) := by decide +kernel
theorem dX12_meets_69 : decode cX12_meets 69 = .ok (.aload_n 0, 1) := by decide +kernel
theorem dX12_meets_70 : decode cX12_meets 70 = .ok (.iload_n 2, 1) := by decide +kernel
theorem dX12_meets_71 : decode cX12_meets 71 = .ok (.iload_n 3, 1) := by decide +kernel
theorem dX12_meets_72 : decode cX12_meets 72 = .ok (.invokevirtual 334, 3) := by decide +kernel
theorem dX12_meets_75 : decode cX12_meets 75 = .ok (.if_icmp .ne 12, 3) := by decide +kernel
theorem dX12_meets_78 : decode cX12_meets 78 = .ok (.aload_n 0, 1) := by decide +kernel
theorem dX12_meets_79 : decode cX12_meets 79 = .ok (.getfield 13, 3) := by decide +kernel
theorem dX12_meets_82 : decode cX12_meets 82 = .ok (.iconst 5, 1) := by decide +kernel
theorem dX12_meets_83 : decode cX12_meets 83 = .ok (.iaload, 1) := by decide +kernel
theorem dX12_meets_84 : decode cX12_meets 84 = .ok (.iload_n 3, 1) := by decide +kernel
theorem dX12_meets_85 : decode cX12_meets 85 = .ok (.iadd, 1) := by decide +kernel
theorem dX12_meets_86 : decode cX12_meets 86 = .ok (.ireturn, 1) := by decide +kernel
theorem dX12_meets_87 : decode cX12_meets 87 = .ok (.iinc 3 1, 3) := by decide +kernel
theorem dX12_meets_90 : decode cX12_meets 90 = .ok (.goto (-34), 3) := by decide +kernel
theorem dX12_meets_93 : decode cX12_meets 93 = .ok (.iconst (-1), 1) := by decide +kernel
theorem dX12_meets_94 : decode cX12_meets 94 = .ok (.ireturn, 1) := by decide +kernel
theorem dX12_ofLog_0 : decode cX12_ofLog 0 = .ok (.aload_n 0, 1) := by decide +kernel
theorem dX12_ofLog_1 : decode cX12_ofLog 1 = .ok (.getfield 13, 3) := by decide +kernel
theorem dX12_ofLog_4 : decode cX12_ofLog 4 = .ok (.sipush 431, 3) := by decide +kernel
theorem dX12_ofLog_7 : decode cX12_ofLog 7 = .ok (.iconst 5, 1) := by decide +kernel
theorem dX12_ofLog_8 : decode cX12_ofLog 8 = .ok (.iload_n 1, 1) := by decide +kernel
theorem dX12_ofLog_9 : decode cX12_ofLog 9 = .ok (.imul, 1) := by decide +kernel
theorem dX12_ofLog_10 : decode cX12_ofLog 10 = .ok (.iadd, 1) := by decide +kernel
theorem dX12_ofLog_11 : decode cX12_ofLog 11 = .ok (.iload_n 2, 1) := by decide +kernel
theorem dX12_ofLog_12 : decode cX12_ofLog 12 = .ok (.iadd, 1) := by decide +kernel
theorem dX12_ofLog_13 : decode cX12_ofLog 13 = .ok (.iaload, 1) := by decide +kernel
theorem dX12_ofLog_14 : decode cX12_ofLog 14 = .ok (.ireturn, 1) := by decide +kernel
theorem dX12_log_0 : decode cX12_log 0 = .ok (.aload_n 0, 1) := by decide +kernel
theorem dX12_log_1 : decode cX12_log 1 = .ok (.iconst 0, 1) := by decide +kernel
theorem dX12_log_2 : decode cX12_log 2 = .ok (.putfield 3, 3) := by decide +kernel
theorem dX12_log_5 : decode cX12_log 5 = .ok (.aload_n 0, 1) := by decide +kernel
theorem dX12_log_6 : decode cX12_log 6 = .ok (.iload_n 2, 1) := by decide +kernel
theorem dX12_log_7 : decode cX12_log 7 = .ok (.iconst 0, 1) := by decide +kernel
theorem dX12_log_8 : decode cX12_log 8 = .ok (.iconst 4, 1) := by decide +kernel
theorem dX12_log_9 : decode cX12_log 9 = .ok (.invokestatic 71, 3) := by decide +kernel
theorem dX12_log_12 : decode cX12_log 12 = .ok (.ifCond .ne 7, 3) := by decide +kernel
theorem dX12_log_15 : decode cX12_log 15 = .ok (.iconst 1, 1) := by decide +kernel
theorem dX12_log_16 : decode cX12_log 16 = .ok (.goto 4, 3) := by decide +kernel
theorem dX12_log_19 : decode cX12_log 19 = .ok (.iconst 0, 1) := by decide +kernel
theorem dX12_log_20 : decode cX12_log 20 = .ok (.iconst 1, 1) := by decide +kernel
theorem dX12_log_21 : decode cX12_log 21 = .ok (.invokevirtual 269, 3) := by decide +kernel
theorem dX12_log_24 : decode cX12_log 24 = .ok (.ifCond .eq 5, 3) := by decide +kernel
theorem dX12_log_27 : decode cX12_log 27 = .ok (.iconst 0, 1) := by decide +kernel
theorem dX12_log_28 : decode cX12_log 28 = .ok (.ireturn, 1) := by decide +kernel
theorem dX12_log_29 : decode cX12_log 29 = .ok (.iload_n 1, 1) := by decide +kernel
theorem dX12_log_30 : decode cX12_log 30 = .ok (.iconst 0, 1) := by decide +kernel
theorem dX12_log_31 : decode cX12_log 31 = .ok (.aload_n 0, 1) := by decide +kernel
theorem dX12_log_32 : decode cX12_log 32 = .ok (.getfield 13, 3) := by decide +kernel
theorem dX12_log_35 : decode cX12_log 35 = .ok (.bipush 9, 2) := by decide +kernel
theorem dX12_log_37 : decode cX12_log 37 = .ok (.iaload, 1) := by decide +kernel
theorem dX12_log_38 : decode cX12_log 38 = .ok (.iconst 1, 1) := by decide +kernel
theorem dX12_log_39 : decode cX12_log 39 = .ok (.isub, 1) := by decide +kernel
theorem dX12_log_40 : decode cX12_log 40 = .ok (.invokestatic 71, 3) := by decide +kernel
theorem dX12_log_43 : decode cX12_log 43 = .ok (.ifCond .eq 12, 3) := by decide +kernel
theorem dX12_log_46 : decode cX12_log 46 = .ok (.aload_n 0, 1) := by decide +kernel
theorem dX12_log_47 : decode cX12_log 47 = .ok (.iload_n 1, 1) := by decide +kernel
theorem dX12_log_48 : decode cX12_log 48 = .ok (.iload_n 2, 1) := by decide +kernel
theorem dX12_log_49 : decode cX12_log 49 = .ok (.invokevirtual 451, 3) := by decide +kernel
theorem dX12_log_52 : decode cX12_log 52 = .ok (.goto 4, 3) := by decide +kernel
theorem dX12_log_55 : decode cX12_log 55 = .ok (.iconst (-1), 1) := by decide +kernel
theorem dX12_log_56 : decode cX12_log 56 = .ok (.ireturn, 1) := by decide +kernel
theorem dX12_led_0 : decode cX12_led 0 = .ok (.aload_n 0, 1) := by decide +kernel
theorem dX12_led_1 : decode cX12_led 1 = .ok (.iconst 0, 1) := by decide +kernel
theorem dX12_led_2 : decode cX12_led 2 = .ok (.putfield 3, 3) := by decide +kernel
theorem dX12_led_5 : decode cX12_led 5 = .ok (.aload_n 0, 1) := by decide +kernel
theorem dX12_led_6 : decode cX12_led 6 = .ok (.aload_n 0, 1) := by decide +kernel
theorem dX12_led_7 : decode cX12_led 7 = .ok (.iload_n 1, 1) := by decide +kernel
theorem dX12_led_8 : decode cX12_led 8 = .ok (.invokevirtual 322, 3) := by decide +kernel
theorem dX12_led_11 : decode cX12_led 11 = .ok (.ifCond .ne 11, 3) := by decide +kernel
theorem dX12_led_14 : decode cX12_led 14 = .ok (.aload_n 0, 1) := by decide +kernel
theorem dX12_led_15 : decode cX12_led 15 = .ok (.iload_n 2, 1) := by decide +kernel
theorem dX12_led_16 : decode cX12_led 16 = .ok (.invokevirtual 304, 3) := by decide +kernel
theorem dX12_led_19 : decode cX12_led 19 = .ok (.ifCond .eq 7, 3) := by decide +kernel
theorem dX12_led_22 : decode cX12_led 22 = .ok (.iconst 1, 1) := by decide +kernel
theorem dX12_led_23 : decode cX12_led 23 = .ok (.goto 4, 3) := by decide +kernel
theorem dX12_led_26 : decode cX12_led 26 = .ok (.iconst 0, 1) := by decide +kernel
theorem dX12_led_27 : decode cX12_led 27 = .ok (.iconst 1, 1) := by decide +kernel
theorem dX12_led_28 : decode cX12_led 28 = .ok (.invokevirtual 269, 3) := by decide +kernel
theorem dX12_led_31 : decode cX12_led 31 = .ok (.ifCond .eq 5, 3) := by decide +kernel
theorem dX12_led_34 : decode cX12_led 34 = .ok (.iconst 0, 1) := by decide +kernel
theorem dX12_led_35 : decode cX12_led 35 = .ok (.ireturn, 1) := by decide +kernel
theorem dX12_led_36 : decode cX12_led 36 = .ok (.iconst 0, 1) := by decide +kernel
theorem dX12_led_37 : decode cX12_led 37 = .ok (.istore_n 3, 1) := by decide +kernel
theorem dX12_led_38 : decode cX12_led 38 = .ok (.iload_n 3, 1) := by decide +kernel
theorem dX12_led_39 : decode cX12_led 39 = .ok (.aload_n 0, 1) := by decide +kernel
theorem dX12_led_40 : decode cX12_led 40 = .ok (.getfield 13, 3) := by decide +kernel
theorem dX12_led_43 : decode cX12_led 43 = .ok (.bipush 9, 2) := by decide +kernel
theorem dX12_led_45 : decode cX12_led 45 = .ok (.iaload, 1) := by decide +kernel
theorem dX12_led_46 : decode cX12_led 46 = .ok (.if_icmp .ge 31, 3) := by decide +kernel
theorem dX12_led_49 : decode cX12_led 49 = .ok (.aload_n 0, 1) := by decide +kernel
theorem dX12_led_50 : decode cX12_led 50 = .ok (.iload_n 3, 1) := by decide +kernel
theorem dX12_led_51 : decode cX12_led 51 = .ok (.iconst 2, 1) := by decide +kernel
theorem dX12_led_52 : decode cX12_led 52 = .ok (.invokevirtual 451, 3) := by decide +kernel
theorem dX12_led_55 : decode cX12_led 55 = .ok (.iload_n 1, 1) := by decide +kernel
theorem dX12_led_56 : decode cX12_led 56 = .ok (.if_icmp .ne 15, 3) := by decide +kernel
theorem dX12_led_59 : decode cX12_led 59 = .ok (.aload_n 0, 1) := by decide +kernel
theorem dX12_led_60 : decode cX12_led 60 = .ok (.iload_n 3, 1) := by decide +kernel
theorem dX12_led_61 : decode cX12_led 61 = .ok (.iconst 3, 1) := by decide +kernel
theorem dX12_led_62 : decode cX12_led 62 = .ok (.invokevirtual 451, 3) := by decide +kernel
theorem dX12_led_65 : decode cX12_led 65 = .ok (.iload_n 2, 1) := by decide +kernel
theorem dX12_led_66 : decode cX12_led 66 = .ok (.if_icmp .ne 5, 3) := by decide +kernel
theorem dX12_led_69 : decode cX12_led 69 = .ok (.iload_n 3, 1) := by decide +kernel
theorem dX12_led_70 : decode cX12_led 70 = .ok (.ireturn, 1) := by decide +kernel
theorem dX12_led_71 : decode cX12_led 71 = .ok (.iinc 3 1, 3) := by decide +kernel
theorem dX12_led_74 : decode cX12_led 74 = .ok (.goto (-36), 3) := by decide +kernel
theorem dX12_led_77 : decode cX12_led 77 = .ok (.iconst (-1), 1) := by decide +kernel
theorem dX12_led_78 : decode cX12_led 78 = .ok (.ireturn, 1) := by decide +kernel
theorem dX12_hitter_0 : decode cX12_hitter 0 = .ok (.aload_n 0, 1) := by decide +kernel
theorem dX12_hitter_1 : decode cX12_hitter 1 = .ok (.iconst 0, 1) := by decide +kernel
theorem dX12_hitter_2 : decode cX12_hitter 2 = .ok (.putfield 3, 3) := by decide +kernel
theorem dX12_hitter_5 : decode cX12_hitter 5 = .ok (.iconst (-1), 1) := by decide +kernel
theorem dX12_hitter_6 : decode cX12_hitter 6 = .ok (.istore_n 1, 1) := by decide +kernel
theorem dX12_hitter_7 : decode cX12_hitter 7 = .ok (.iconst 0, 1) := by decide +kernel
theorem dX12_hitter_8 : decode cX12_hitter 8 = .ok (.istore_n 2, 1) := by decide +kernel
theorem dX12_hitter_9 : decode cX12_hitter 9 = .ok (.iconst 0, 1) := by decide +kernel
theorem dX12_hitter_10 : decode cX12_hitter 10 = .ok (.istore_n 3, 1) := by decide +kernel
theorem dX12_hitter_11 : decode cX12_hitter 11 = .ok (.iload_n 3, 1) := by decide +kernel
theorem dX12_hitter_12 : decode cX12_hitter 12 = .ok (.aload_n 0, 1) := by decide +kernel
theorem dX12_hitter_13 : decode cX12_hitter 13 = .ok (.invokevirtual 75, 3) := by decide +kernel
theorem dX12_hitter_16 : decode cX12_hitter 16 = .ok (.if_icmp .ge 68, 3) := by decide +kernel
theorem dX12_hitter_19 : decode cX12_hitter 19 = .ok (.iconst 0, 1) := by decide +kernel
theorem dX12_hitter_20 : decode cX12_hitter 20 = .ok (.istore 4, 2) := by decide +kernel
theorem dX12_hitter_22 : decode cX12_hitter 22 = .ok (.iconst 0, 1) := by decide +kernel
theorem dX12_hitter_23 : decode cX12_hitter 23 = .ok (.istore 5, 2) := by decide +kernel
theorem dX12_hitter_25 : decode cX12_hitter 25 = .ok (.iload 5, 2) := by decide +kernel
theorem dX12_hitter_27 : decode cX12_hitter 27 = .ok (.aload_n 0, 1) := by decide +kernel
theorem dX12_hitter_28 : decode cX12_hitter 28 = .ok (.getfield 13, 3) := by decide +kernel
theorem dX12_hitter_31 : decode cX12_hitter 31 = .ok (.bipush 9, 2) := by decide +kernel
theorem dX12_hitter_33 : decode cX12_hitter 33 = .ok (.iaload, 1) := by decide +kernel
theorem dX12_hitter_34 : decode cX12_hitter 34 = .ok (.if_icmp .ge 30, 3) := by decide +kernel
theorem dX12_hitter_37 : decode cX12_hitter 37 = .ok (.iload 4, 2) := by decide +kernel
theorem dX12_hitter_39 : decode cX12_hitter 39 = .ok (.aload_n 0, 1) := by decide +kernel
theorem dX12_hitter_40 : decode cX12_hitter 40 = .ok (.iload 5, 2) := by decide +kernel
theorem dX12_hitter_42 : decode cX12_hitter 42 = .ok (.iconst 1, 1) := by decide +kernel
theorem dX12_hitter_43 : decode cX12_hitter 43 = .ok (.invokevirtual 451, 3) := by decide +kernel
theorem dX12_hitter_46 : decode cX12_hitter 46 = .ok (.iload_n 3, 1) := by decide +kernel
theorem dX12_hitter_47 : decode cX12_hitter 47 = .ok (.if_icmp .ne 7, 3) := by decide +kernel
theorem dX12_hitter_50 : decode cX12_hitter 50 = .ok (.iconst 1, 1) := by decide +kernel
theorem dX12_hitter_51 : decode cX12_hitter 51 = .ok (.goto 4, 3) := by decide +kernel
theorem dX12_hitter_54 : decode cX12_hitter 54 = .ok (.iconst 0, 1) := by decide +kernel
theorem dX12_hitter_55 : decode cX12_hitter 55 = .ok (.iadd, 1) := by decide +kernel
theorem dX12_hitter_56 : decode cX12_hitter 56 = .ok (.istore 4, 2) := by decide +kernel
theorem dX12_hitter_58 : decode cX12_hitter 58 = .ok (.iinc 5 1, 3) := by decide +kernel
theorem dX12_hitter_61 : decode cX12_hitter 61 = .ok (.goto (-36), 3) := by decide +kernel
theorem dX12_hitter_64 : decode cX12_hitter 64 = .ok (.iload 4, 2) := by decide +kernel
theorem dX12_hitter_66 : decode cX12_hitter 66 = .ok (.iload_n 2, 1) := by decide +kernel
theorem dX12_hitter_67 : decode cX12_hitter 67 = .ok (.if_icmp .gt 6, 3) := by decide +kernel
theorem dX12_hitter_70 : decode cX12_hitter 70 = .ok (.goto 8, 3) := by decide +kernel
theorem dX12_hitter_73 : decode cX12_hitter 73 = .ok (.iload_n 3, 1) := by decide +kernel
theorem dX12_hitter_74 : decode cX12_hitter 74 = .ok (.istore_n 1, 1) := by decide +kernel
theorem dX12_hitter_75 : decode cX12_hitter 75 = .ok (.iload 4, 2) := by decide +kernel
theorem dX12_hitter_77 : decode cX12_hitter 77 = .ok (.istore_n 2, 1) := by decide +kernel
theorem dX12_hitter_78 : decode cX12_hitter 78 = .ok (.iinc 3 1, 3) := by decide +kernel
theorem dX12_hitter_81 : decode cX12_hitter 81 = .ok (.goto (-70), 3) := by decide +kernel
theorem dX12_hitter_84 : decode cX12_hitter 84 = .ok (.iload_n 1, 1) := by decide +kernel
theorem dX12_hitter_85 : decode cX12_hitter 85 = .ok (.ireturn, 1) := by decide +kernel
theorem dX12_seed_0 : decode cX12_seed 0 = .ok (.aload_n 0, 1) := by decide +kernel
theorem dX12_seed_1 : decode cX12_seed 1 = .ok (.iconst 0, 1) := by decide +kernel
theorem dX12_seed_2 : decode cX12_seed 2 = .ok (.putfield 3, 3) := by decide +kernel
theorem dX12_seed_5 : decode cX12_seed 5 = .ok (.aload_n 0, 1) := by decide +kernel
theorem dX12_seed_6 : decode cX12_seed 6 = .ok (.getfield 13, 3) := by decide +kernel
theorem dX12_seed_9 : decode cX12_seed 9 = .ok (.bipush 10, 2) := by decide +kernel
theorem dX12_seed_11 : decode cX12_seed 11 = .ok (.iaload, 1) := by decide +kernel
theorem dX12_seed_12 : decode cX12_seed 12 = .ok (.istore_n 2, 1) := by decide +kernel
theorem dX12_seed_13 : decode cX12_seed 13 = .ok (.aload_n 0, 1) := by decide +kernel
theorem dX12_seed_14 : decode cX12_seed 14 = .ok (.getfield 13, 3) := by decide +kernel
theorem dX12_seed_17 : decode cX12_seed 17 = .ok (.bipush 10, 2) := by decide +kernel
theorem dX12_seed_19 : decode cX12_seed 19 = .ok (.iload_n 1, 1) := by decide +kernel
theorem dX12_seed_20 : decode cX12_seed 20 = .ok (.iastore, 1) := by decide +kernel
theorem dX12_seed_21 : decode cX12_seed 21 = .ok (.iload_n 2, 1) := by decide +kernel
theorem dX12_seed_22 : decode cX12_seed 22 = .ok (.ireturn, 1) := by decide +kernel
theorem dX12_count_0 : decode cX12_count 0 = .ok (.aload_n 0, 1) := by decide +kernel
theorem dX12_count_1 : decode cX12_count 1 = .ok (.iconst 0, 1) := by decide +kernel
theorem dX12_count_2 : decode cX12_count 2 = .ok (.putfield 3, 3) := by decide +kernel
theorem dX12_count_5 : decode cX12_count 5 = .ok (.iload_n 1, 1) := by decide +kernel
theorem dX12_count_6 : decode cX12_count 6 = .ok (.tableswitch 113 4 12 #[50, 113, 113, 73, 78, 84, 92, 100, 108], 50) := by decide +kernel
theorem dX12_count_56 : decode cX12_count 56 = .ok (.aload_n 0, 1) := by decide +kernel
theorem dX12_count_57 : decode cX12_count 57 = .ok (.getfield 13, 3) := by decide +kernel
theorem dX12_count_60 : decode cX12_count 60 = .ok (.iconst 4, 1) := by decide +kernel
theorem dX12_count_61 : decode cX12_count 61 = .ok (.iaload, 1) := by decide +kernel
theorem dX12_count_62 : decode cX12_count 62 = .ok (.iconst 1, 1) := by decide +kernel
theorem dX12_count_63 : decode cX12_count 63 = .ok (.if_icmp .ne 14, 3) := by decide +kernel
theorem dX12_count_66 : decode cX12_count 66 = .ok (.aload_n 0, 1) := by decide +kernel
theorem dX12_count_67 : decode cX12_count 67 = .ok (.getfield 13, 3) := by decide +kernel
theorem dX12_count_70 : decode cX12_count 70 = .ok (.sipush 731, 3) := by decide +kernel
theorem dX12_count_73 : decode cX12_count 73 = .ok (.iaload, 1) := by decide +kernel
theorem dX12_count_74 : decode cX12_count 74 = .ok (.goto 4, 3) := by decide +kernel
theorem dX12_count_77 : decode cX12_count 77 = .ok (.iconst (-1), 1) := by decide +kernel
theorem dX12_count_78 : decode cX12_count 78 = .ok (.ireturn, 1) := by decide +kernel
theorem dX12_count_79 : decode cX12_count 79 = .ok (.aload_n 0, 1) := by decide +kernel
theorem dX12_count_80 : decode cX12_count 80 = .ok (.invokevirtual 442, 3) := by decide +kernel
theorem dX12_count_83 : decode cX12_count 83 = .ok (.ireturn, 1) := by decide +kernel
theorem dX12_count_84 : decode cX12_count 84 = .ok (.aload_n 0, 1) := by decide +kernel
theorem dX12_count_85 : decode cX12_count 85 = .ok (.iconst 3, 1) := by decide +kernel
theorem dX12_count_86 : decode cX12_count 86 = .ok (.invokevirtual 445, 3) := by decide +kernel
theorem dX12_count_89 : decode cX12_count 89 = .ok (.ireturn, 1) := by decide +kernel
theorem dX12_count_90 : decode cX12_count 90 = .ok (.aload_n 0, 1) := by decide +kernel
theorem dX12_count_91 : decode cX12_count 91 = .ok (.getfield 13, 3) := by decide +kernel
theorem dX12_count_94 : decode cX12_count 94 = .ok (.bipush 7, 2) := by decide +kernel
theorem dX12_count_96 : decode cX12_count 96 = .ok (.iaload, 1) := by decide +kernel
theorem dX12_count_97 : decode cX12_count 97 = .ok (.ireturn, 1) := by decide +kernel
theorem dX12_count_98 : decode cX12_count 98 = .ok (.aload_n 0, 1) := by decide +kernel
theorem dX12_count_99 : decode cX12_count 99 = .ok (.getfield 13, 3) := by decide +kernel
theorem dX12_count_102 : decode cX12_count 102 = .ok (.bipush 8, 2) := by decide +kernel
theorem dX12_count_104 : decode cX12_count 104 = .ok (.iaload, 1) := by decide +kernel
theorem dX12_count_105 : decode cX12_count 105 = .ok (.ireturn, 1) := by decide +kernel
theorem dX12_count_106 : decode cX12_count 106 = .ok (.aload_n 0, 1) := by decide +kernel
theorem dX12_count_107 : decode cX12_count 107 = .ok (.getfield 13, 3) := by decide +kernel
theorem dX12_count_110 : decode cX12_count 110 = .ok (.bipush 9, 2) := by decide +kernel
theorem dX12_count_112 : decode cX12_count 112 = .ok (.iaload, 1) := by decide +kernel
theorem dX12_count_113 : decode cX12_count 113 = .ok (.ireturn, 1) := by decide +kernel
theorem dX12_count_114 : decode cX12_count 114 = .ok (.aload_n 0, 1) := by decide +kernel
theorem dX12_count_115 : decode cX12_count 115 = .ok (.getfield 60, 3) := by decide +kernel
theorem dX12_count_118 : decode cX12_count 118 = .ok (.ireturn, 1) := by decide +kernel
theorem dX12_count_119 : decode cX12_count 119 = .ok (.iload_n 1, 1) := by decide +kernel
theorem dX12_count_120 : decode cX12_count 120 = .ok (.iconst 0, 1) := by decide +kernel
theorem dX12_count_121 : decode cX12_count 121 = .ok (.bipush 6, 2) := by decide +kernel
theorem dX12_count_123 : decode cX12_count 123 = .ok (.invokestatic 71, 3) := by decide +kernel
theorem dX12_count_126 : decode cX12_count 126 = .ok (.ifCond .eq 12, 3) := by decide +kernel
theorem dX12_count_129 : decode cX12_count 129 = .ok (.aload_n 0, 1) := by decide +kernel
theorem dX12_count_130 : decode cX12_count 130 = .ok (.getfield 13, 3) := by decide +kernel
theorem dX12_count_133 : decode cX12_count 133 = .ok (.iload_n 1, 1) := by decide +kernel
theorem dX12_count_134 : decode cX12_count 134 = .ok (.iaload, 1) := by decide +kernel
theorem dX12_count_135 : decode cX12_count 135 = .ok (.goto 4, 3) := by decide +kernel
theorem dX12_count_138 : decode cX12_count 138 = .ok (.iconst (-1), 1) := by decide +kernel
theorem dX12_count_139 : decode cX12_count 139 = .ok (.ireturn, 1) := by decide +kernel
