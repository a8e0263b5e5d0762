theorem dX0_init_0 : decode cX0_init 0 = .ok (.aload_n 0, 1) := by decide +kernel
theorem dX0_init_1 : decode cX0_init 1 = .ok (.invokespecial 3, 3) := by decide +kernel
theorem dX0_init_4 : decode cX0_init 4 = .ok (.aload_n 0, 1) := by decide +kernel
theorem dX0_init_5 : decode cX0_init 5 = .ok (.aload_n 1, 1) := by decide +kernel
theorem dX0_init_6 : decode cX0_init 6 = .ok (.putfield 9, 3) := by decide +kernel
theorem dX0_init_9 : decode cX0_init 9 = .ok (.aload_n 0, 1) := by decide +kernel
theorem dX0_init_10 : decode cX0_init 10 = .ok (.bipush 8, 2) := by decide +kernel
theorem dX0_init_12 : decode cX0_init 12 = .ok (.newarray .int, 2) := by decide +kernel
theorem dX0_init_14 : decode cX0_init 14 = .ok (.putfield 15, 3) := by decide +kernel
theorem dX0_init_17 : decode cX0_init 17 = .ok (.aload_n 0, 1) := by decide +kernel
theorem dX0_init_18 : decode cX0_init 18 = .ok (.bipush 8, 2) := by decide +kernel
theorem dX0_init_20 : decode cX0_init 20 = .ok (.newarray .int, 2) := by decide +kernel
theorem dX0_init_22 : decode cX0_init 22 = .ok (.putfield 19, 3) := by decide +kernel
theorem dX0_init_25 : decode cX0_init 25 = .ok (.aload_n 0, 1) := by decide +kernel
theorem dX0_init_26 : decode cX0_init 26 = .ok (.sipush 1024, 3) := by decide +kernel
theorem dX0_init_29 : decode cX0_init 29 = .ok (.newarray .int, 2) := by decide +kernel
theorem dX0_init_31 : decode cX0_init 31 = .ok (.putfield 22, 3) := by decide +kernel
theorem dX0_init_34 : decode cX0_init 34 = .ok (.return_, 1) := by decide +kernel
theorem dX0_take_0 : decode cX0_take 0 = .ok (.aload_n 0, 1) := by decide +kernel
theorem dX0_take_1 : decode cX0_take 1 = .ok (.iconst 0, 1) := by decide +kernel
theorem dX0_take_2 : decode cX0_take 2 = .ok (.putfield 25, 3) := by decide +kernel
theorem dX0_take_5 : decode cX0_take 5 = .ok (.aload_n 1, 1) := by decide +kernel
theorem dX0_take_6 : decode cX0_take 6 = .ok (.getfield 29, 3) := by decide +kernel
theorem dX0_take_9 : decode cX0_take 9 = .ok (.bipush 8, 2) := by decide +kernel
theorem dX0_take_11 : decode cX0_take 11 = .ok (.if_icmp .le 5, 3) := by decide +kernel
theorem dX0_take_14 : decode cX0_take 14 = .ok (.iconst 0, 1) := by decide +kernel
theorem dX0_take_15 : decode cX0_take 15 = .ok (.ireturn, 1) := by decide +kernel
theorem dX0_take_16 : decode cX0_take 16 = .ok (.iconst 0, 1) := by decide +kernel
theorem dX0_take_17 : decode cX0_take 17 = .ok (.istore_n 2, 1) := by decide +kernel
theorem dX0_take_18 : decode cX0_take 18 = .ok (.iload_n 2, 1) := by decide +kernel
theorem dX0_take_19 : decode cX0_take 19 = .ok (.aload_n 1, 1) := by decide +kernel
theorem dX0_take_20 : decode cX0_take 20 = .ok (.getfield 29, 3) := by decide +kernel
theorem dX0_take_23 : decode cX0_take 23 = .ok (.if_icmp .ge 43, 3) := by decide +kernel
theorem dX0_take_26 : decode cX0_take 26 = .ok (.aload_n 1, 1) := by decide +kernel
theorem dX0_take_27 : decode cX0_take 27 = .ok (.getfield 32, 3) := by decide +kernel
theorem dX0_take_30 : decode cX0_take 30 = .ok (.iload_n 2, 1) := by decide +kernel
theorem dX0_take_31 : decode cX0_take 31 = .ok (.invokestatic 35, 3) := by decide +kernel
theorem dX0_take_34 : decode cX0_take 34 = .ok (.istore_n 3, 1) := by decide +kernel
theorem dX0_take_35 : decode cX0_take 35 = .ok (.iload_n 3, 1) := by decide +kernel
theorem dX0_take_36 : decode cX0_take 36 = .ok (.aload_n 0, 1) := by decide +kernel
theorem dX0_take_37 : decode cX0_take 37 = .ok (.getfield 9, 3) := by decide +kernel
theorem dX0_take_40 : decode cX0_take 40 = .ok (.getfield 39, 3) := by decide +kernel
theorem dX0_take_43 : decode cX0_take 43 = .ok (.getfield 45, 3) := by decide +kernel
theorem dX0_take_46 : decode cX0_take 46 = .ok (.if_icmp .lt 5, 3) := by decide +kernel
theorem dX0_take_49 : decode cX0_take 49 = .ok (.iconst 0, 1) := by decide +kernel
theorem dX0_take_50 : decode cX0_take 50 = .ok (.ireturn, 1) := by decide +kernel
theorem dX0_take_51 : decode cX0_take 51 = .ok (.aload_n 0, 1) := by decide +kernel
theorem dX0_take_52 : decode cX0_take 52 = .ok (.getfield 15, 3) := by decide +kernel
theorem dX0_take_55 : decode cX0_take 55 = .ok (.iload_n 2, 1) := by decide +kernel
theorem dX0_take_56 : decode cX0_take 56 = .ok (.iload_n 3, 1) := by decide +kernel
theorem dX0_take_57 : decode cX0_take 57 = .ok (.invokestatic 50, 3) := by decide +kernel
theorem dX0_take_60 : decode cX0_take 60 = .ok (.iinc 2 1, 3) := by decide +kernel
theorem dX0_take_63 : decode cX0_take 63 = .ok (.goto (-45), 3) := by decide +kernel
theorem dX0_take_66 : decode cX0_take 66 = .ok (.aload_n 0, 1) := by decide +kernel
theorem dX0_take_67 : decode cX0_take 67 = .ok (.aload_n 1, 1) := by decide +kernel
theorem dX0_take_68 : decode cX0_take 68 = .ok (.getfield 29, 3) := by decide +kernel
theorem dX0_take_71 : decode cX0_take 71 = .ok (.putfield 25, 3) := by decide +kernel
theorem dX0_take_74 : decode cX0_take 74 = .ok (.iconst 1, 1) := by decide +kernel
theorem dX0_take_75 : decode cX0_take 75 = .ok (.ireturn, 1) := by decide +kernel
theorem dX0_countWays_0 : decode cX0_countWays 0 = .ok (.iconst 0, 1) := by decide +kernel
theorem dX0_countWays_1 : decode cX0_countWays 1 = .ok (.istore_n 2, 1) := by decide +kernel
theorem dX0_countWays_2 : decode cX0_countWays 2 = .ok (.iload_n 2, 1) := by decide +kernel
theorem dX0_countWays_3 : decode cX0_countWays 3 = .ok (.aload_n 0, 1) := by decide +kernel
theorem dX0_countWays_4 : decode cX0_countWays 4 = .ok (.getfield 25, 3) := by decide +kernel
theorem dX0_countWays_7 : decode cX0_countWays 7 = .ok (.if_icmp .ge 32, 3) := by decide +kernel
theorem dX0_countWays_10 : decode cX0_countWays 10 = .ok (.iload_n 2, 1) := by decide +kernel
theorem dX0_countWays_11 : decode cX0_countWays 11 = .ok (.bipush 8, 2) := by decide +kernel
theorem dX0_countWays_13 : decode cX0_countWays 13 = .ok (.if_icmp .ge 26, 3) := by decide +kernel
theorem dX0_countWays_16 : decode cX0_countWays 16 = .ok (.aload_n 0, 1) := by decide +kernel
theorem dX0_countWays_17 : decode cX0_countWays 17 = .ok (.getfield 19, 3) := by decide +kernel
theorem dX0_countWays_20 : decode cX0_countWays 20 = .ok (.iload_n 2, 1) := by decide +kernel
theorem dX0_countWays_21 : decode cX0_countWays 21 = .ok (.aload_n 0, 1) := by decide +kernel
theorem dX0_countWays_22 : decode cX0_countWays 22 = .ok (.aload_n 0, 1) := by decide +kernel
theorem dX0_countWays_23 : decode cX0_countWays 23 = .ok (.getfield 15, 3) := by decide +kernel
theorem dX0_countWays_26 : decode cX0_countWays 26 = .ok (.iload_n 2, 1) := by decide +kernel
theorem dX0_countWays_27 : decode cX0_countWays 27 = .ok (.iaload, 1) := by decide +kernel
theorem dX0_countWays_28 : decode cX0_countWays 28 = .ok (.iload_n 1, 1) := by decide +kernel
theorem dX0_countWays_29 : decode cX0_countWays 29 = .ok (.invokevirtual 54, 3) := by decide +kernel
theorem dX0_countWays_32 : decode cX0_countWays 32 = .ok (.iastore, 1) := by decide +kernel
theorem dX0_countWays_33 : decode cX0_countWays 33 = .ok (.iinc 2 1, 3) := by decide +kernel
theorem dX0_countWays_36 : decode cX0_countWays 36 = .ok (.goto (-34), 3) := by decide +kernel
theorem dX0_countWays_39 : decode cX0_countWays 39 = .ok (.iconst 1, 1) := by decide +kernel
theorem dX0_countWays_40 : decode cX0_countWays 40 = .ok (.aload_n 0, 1) := by decide +kernel
theorem dX0_countWays_41 : decode cX0_countWays 41 = .ok (.getfield 9, 3) := by decide +kernel
theorem dX0_countWays_44 : decode cX0_countWays 44 = .ok (.getfield 39, 3) := by decide +kernel
theorem dX0_countWays_47 : decode cX0_countWays 47 = .ok (.getfield 58, 3) := by decide +kernel
theorem dX0_countWays_50 : decode cX0_countWays 50 = .ok (.ishl, 1) := by decide +kernel
theorem dX0_countWays_51 : decode cX0_countWays 51 = .ok (.iconst 1, 1) := by decide +kernel
theorem dX0_countWays_52 : decode cX0_countWays 52 = .ok (.isub, 1) := by decide +kernel
theorem dX0_countWays_53 : decode cX0_countWays 53 = .ok (.istore_n 2, 1) := by decide +kernel
theorem dX0_countWays_54 : decode cX0_countWays 54 = .ok (.iload_n 2, 1) := by decide +kernel
theorem dX0_countWays_55 : decode cX0_countWays 55 = .ok (.ifCond .lt 22, 3) := by decide +kernel
theorem dX0_countWays_58 : decode cX0_countWays 58 = .ok (.aload_n 0, 1) := by decide +kernel
theorem dX0_countWays_59 : decode cX0_countWays 59 = .ok (.getfield 22, 3) := by decide +kernel
theorem dX0_countWays_62 : decode cX0_countWays 62 = .ok (.iload_n 2, 1) := by decide +kernel
theorem dX0_countWays_63 : decode cX0_countWays 63 = .ok (.aload_n 0, 1) := by decide +kernel
theorem dX0_countWays_64 : decode cX0_countWays 64 = .ok (.iload_n 2, 1) := by decide +kernel
theorem dX0_countWays_65 : decode cX0_countWays 65 = .ok (.invokevirtual 61, 3) := by decide +kernel
theorem dX0_countWays_68 : decode cX0_countWays 68 = .ok (.invokestatic 50, 3) := by decide +kernel
theorem dX0_countWays_71 : decode cX0_countWays 71 = .ok (.iinc 2 (-1), 3) := by decide +kernel
theorem dX0_countWays_74 : decode cX0_countWays 74 = .ok (.goto (-20), 3) := by decide +kernel
theorem dX0_countWays_77 : decode cX0_countWays 77 = .ok (.return_, 1) := by decide +kernel
theorem dX0_waysBehind_0 : decode cX0_waysBehind 0 = .ok (.iload_n 1, 1) := by decide +kernel
theorem dX0_waysBehind_1 : decode cX0_waysBehind 1 = .ok (.invokestatic 65, 3) := by decide +kernel
theorem dX0_waysBehind_4 : decode cX0_waysBehind 4 = .ok (.istore_n 2, 1) := by decide +kernel
theorem dX0_waysBehind_5 : decode cX0_waysBehind 5 = .ok (.iload_n 2, 1) := by decide +kernel
theorem dX0_waysBehind_6 : decode cX0_waysBehind 6 = .ok (.aload_n 0, 1) := by decide +kernel
theorem dX0_waysBehind_7 : decode cX0_waysBehind 7 = .ok (.getfield 25, 3) := by decide +kernel
theorem dX0_waysBehind_10 : decode cX0_waysBehind 10 = .ok (.if_icmp .lt 17, 3) := by decide +kernel
theorem dX0_waysBehind_13 : decode cX0_waysBehind 13 = .ok (.iload_n 2, 1) := by decide +kernel
theorem dX0_waysBehind_14 : decode cX0_waysBehind 14 = .ok (.aload_n 0, 1) := by decide +kernel
theorem dX0_waysBehind_15 : decode cX0_waysBehind 15 = .ok (.getfield 25, 3) := by decide +kernel
theorem dX0_waysBehind_18 : decode cX0_waysBehind 18 = .ok (.if_icmp .ne 7, 3) := by decide +kernel
theorem dX0_waysBehind_21 : decode cX0_waysBehind 21 = .ok (.iconst 1, 1) := by decide +kernel
theorem dX0_waysBehind_22 : decode cX0_waysBehind 22 = .ok (.goto 4, 3) := by decide +kernel
theorem dX0_waysBehind_25 : decode cX0_waysBehind 25 = .ok (.iconst 0, 1) := by decide +kernel
theorem dX0_waysBehind_26 : decode cX0_waysBehind 26 = .ok (.ireturn, 1) := by decide +kernel
theorem dX0_waysBehind_27 : decode cX0_waysBehind 27 = .ok (.iconst 0, 1) := by decide +kernel
theorem dX0_waysBehind_28 : decode cX0_waysBehind 28 = .ok (.istore_n 3, 1) := by decide +kernel
theorem dX0_waysBehind_29 : decode cX0_waysBehind 29 = .ok (.iconst 0, 1) := by decide +kernel
theorem dX0_waysBehind_30 : decode cX0_waysBehind 30 = .ok (.istore 4, 2) := by decide +kernel
theorem dX0_waysBehind_32 : decode cX0_waysBehind 32 = .ok (.iload 4, 2) := by decide +kernel
theorem dX0_waysBehind_34 : decode cX0_waysBehind 34 = .ok (.aload_n 0, 1) := by decide +kernel
theorem dX0_waysBehind_35 : decode cX0_waysBehind 35 = .ok (.getfield 9, 3) := by decide +kernel
theorem dX0_waysBehind_38 : decode cX0_waysBehind 38 = .ok (.getfield 39, 3) := by decide +kernel
theorem dX0_waysBehind_41 : decode cX0_waysBehind 41 = .ok (.getfield 58, 3) := by decide +kernel
theorem dX0_waysBehind_44 : decode cX0_waysBehind 44 = .ok (.if_icmp .ge 45, 3) := by decide +kernel
theorem dX0_waysBehind_47 : decode cX0_waysBehind 47 = .ok (.aload_n 0, 1) := by decide +kernel
theorem dX0_waysBehind_48 : decode cX0_waysBehind 48 = .ok (.getfield 19, 3) := by decide +kernel
theorem dX0_waysBehind_51 : decode cX0_waysBehind 51 = .ok (.iload_n 2, 1) := by decide +kernel
theorem dX0_waysBehind_52 : decode cX0_waysBehind 52 = .ok (.invokestatic 35, 3) := by decide +kernel
theorem dX0_waysBehind_55 : decode cX0_waysBehind 55 = .ok (.iload_n 1, 1) := by decide +kernel
theorem dX0_waysBehind_56 : decode cX0_waysBehind 56 = .ok (.iconst (-1), 1) := by decide +kernel
theorem dX0_waysBehind_57 : decode cX0_waysBehind 57 = .ok (.ixor, 1) := by decide +kernel
theorem dX0_waysBehind_58 : decode cX0_waysBehind 58 = .ok (.iand, 1) := by decide +kernel
theorem dX0_waysBehind_59 : decode cX0_waysBehind 59 = .ok (.iload 4, 2) := by decide +kernel
theorem dX0_waysBehind_61 : decode cX0_waysBehind 61 = .ok (.invokestatic 70, 3) := by decide +kernel
theorem dX0_waysBehind_64 : decode cX0_waysBehind 64 = .ok (.ifCond .eq 19, 3) := by decide +kernel
theorem dX0_waysBehind_67 : decode cX0_waysBehind 67 = .ok (.iload_n 3, 1) := by decide +kernel
theorem dX0_waysBehind_68 : decode cX0_waysBehind 68 = .ok (.aload_n 0, 1) := by decide +kernel
theorem dX0_waysBehind_69 : decode cX0_waysBehind 69 = .ok (.getfield 22, 3) := by decide +kernel
theorem dX0_waysBehind_72 : decode cX0_waysBehind 72 = .ok (.iload_n 1, 1) := by decide +kernel
theorem dX0_waysBehind_73 : decode cX0_waysBehind 73 = .ok (.iconst 1, 1) := by decide +kernel
theorem dX0_waysBehind_74 : decode cX0_waysBehind 74 = .ok (.iload 4, 2) := by decide +kernel
theorem dX0_waysBehind_76 : decode cX0_waysBehind 76 = .ok (.ishl, 1) := by decide +kernel
theorem dX0_waysBehind_77 : decode cX0_waysBehind 77 = .ok (.ior, 1) := by decide +kernel
theorem dX0_waysBehind_78 : decode cX0_waysBehind 78 = .ok (.invokestatic 35, 3) := by decide +kernel
theorem dX0_waysBehind_81 : decode cX0_waysBehind 81 = .ok (.iadd, 1) := by decide +kernel
theorem dX0_waysBehind_82 : decode cX0_waysBehind 82 = .ok (.istore_n 3, 1) := by decide +kernel
theorem dX0_waysBehind_83 : decode cX0_waysBehind 83 = .ok (.iinc 4 1, 3) := by decide +kernel
theorem dX0_waysBehind_86 : decode cX0_waysBehind 86 = .ok (.goto (-54), 3) := by decide +kernel
theorem dX0_waysBehind_89 : decode cX0_waysBehind 89 = .ok (.iload_n 3, 1) := by decide +kernel
theorem dX0_waysBehind_90 : decode cX0_waysBehind 90 = .ok (.ireturn, 1) := by decide +kernel
theorem dX0_ownersOf_0 : decode cX0_ownersOf 0 = .ok (.aload_n 0, 1) := by decide +kernel
theorem dX0_ownersOf_1 : decode cX0_ownersOf 1 = .ok (.getfield 9, 3) := by decide +kernel
theorem dX0_ownersOf_4 : decode cX0_ownersOf 4 = .ok (.iload_n 1, 1) := by decide +kernel
theorem dX0_ownersOf_5 : decode cX0_ownersOf 5 = .ok (.invokevirtual 74, 3) := by decide +kernel
theorem dX0_ownersOf_8 : decode cX0_ownersOf 8 = .ok (.istore_n 3, 1) := by decide +kernel
theorem dX0_ownersOf_9 : decode cX0_ownersOf 9 = .ok (.iconst 0, 1) := by decide +kernel
theorem dX0_ownersOf_10 : decode cX0_ownersOf 10 = .ok (.istore 4, 2) := by decide +kernel
theorem dX0_ownersOf_12 : decode cX0_ownersOf 12 = .ok (.iconst 0, 1) := by decide +kernel
theorem dX0_ownersOf_13 : decode cX0_ownersOf 13 = .ok (.istore 5, 2) := by decide +kernel
theorem dX0_ownersOf_15 : decode cX0_ownersOf 15 = .ok (.iload 5, 2) := by decide +kernel
theorem dX0_ownersOf_17 : decode cX0_ownersOf 17 = .ok (.aload_n 0, 1) := by decide +kernel
theorem dX0_ownersOf_18 : decode cX0_ownersOf 18 = .ok (.getfield 9, 3) := by decide +kernel
theorem dX0_ownersOf_21 : decode cX0_ownersOf 21 = .ok (.getfield 39, 3) := by decide +kernel
theorem dX0_ownersOf_24 : decode cX0_ownersOf 24 = .ok (.getfield 58, 3) := by decide +kernel
theorem dX0_ownersOf_27 : decode cX0_ownersOf 27 = .ok (.if_icmp .ge 37, 3) := by decide +kernel
theorem dX0_ownersOf_30 : decode cX0_ownersOf 30 = .ok (.iload_n 3, 1) := by decide +kernel
theorem dX0_ownersOf_31 : decode cX0_ownersOf 31 = .ok (.iload 5, 2) := by decide +kernel
theorem dX0_ownersOf_33 : decode cX0_ownersOf 33 = .ok (.invokestatic 70, 3) := by decide +kernel
theorem dX0_ownersOf_36 : decode cX0_ownersOf 36 = .ok (.ifCond .ne 22, 3) := by decide +kernel
theorem dX0_ownersOf_39 : decode cX0_ownersOf 39 = .ok (.aload_n 0, 1) := by decide +kernel
theorem dX0_ownersOf_40 : decode cX0_ownersOf 40 = .ok (.iload 5, 2) := by decide +kernel
theorem dX0_ownersOf_42 : decode cX0_ownersOf 42 = .ok (.iload_n 2, 1) := by decide +kernel
theorem dX0_ownersOf_43 : decode cX0_ownersOf 43 = .ok (.invokevirtual 77, 3) := by decide +kernel
theorem dX0_ownersOf_46 : decode cX0_ownersOf 46 = .ok (.ifCond .eq 12, 3) := by decide +kernel
theorem dX0_ownersOf_49 : decode cX0_ownersOf 49 = .ok (.iload 4, 2) := by decide +kernel
theorem dX0_ownersOf_51 : decode cX0_ownersOf 51 = .ok (.iconst 1, 1) := by decide +kernel
theorem dX0_ownersOf_52 : decode cX0_ownersOf 52 = .ok (.iload 5, 2) := by decide +kernel
theorem dX0_ownersOf_54 : decode cX0_ownersOf 54 = .ok (.ishl, 1) := by decide +kernel
theorem dX0_ownersOf_55 : decode cX0_ownersOf 55 = .ok (.ior, 1) := by decide +kernel
theorem dX0_ownersOf_56 : decode cX0_ownersOf 56 = .ok (.istore 4, 2) := by decide +kernel
theorem dX0_ownersOf_58 : decode cX0_ownersOf 58 = .ok (.iinc 5 1, 3) := by decide +kernel
theorem dX0_ownersOf_61 : decode cX0_ownersOf 61 = .ok (.goto (-46), 3) := by decide +kernel
theorem dX0_ownersOf_64 : decode cX0_ownersOf 64 = .ok (.iload 4, 2) := by decide +kernel
theorem dX0_ownersOf_66 : decode cX0_ownersOf 66 = .ok (.ireturn, 1) := by decide +kernel
theorem dX0_wasAt_0 : decode cX0_wasAt 0 = .ok (.aload_n 0, 1) := by decide +kernel
theorem dX0_wasAt_1 : decode cX0_wasAt 1 = .ok (.getfield 9, 3) := by decide +kernel
theorem dX0_wasAt_4 : decode cX0_wasAt 4 = .ok (.getfield 80, 3) := by decide +kernel
theorem dX0_wasAt_7 : decode cX0_wasAt 7 = .ok (.getfield 84, 3) := by decide +kernel
theorem dX0_wasAt_10 : decode cX0_wasAt 10 = .ok (.iconst 5, 1) := by decide +kernel
theorem dX0_wasAt_11 : decode cX0_wasAt 11 = .ok (.invokestatic 89, 3) := by decide +kernel
theorem dX0_wasAt_14 : decode cX0_wasAt 14 = .ok (.istore_n 3, 1) := by decide +kernel
theorem dX0_wasAt_15 : decode cX0_wasAt 15 = .ok (.iconst 0, 1) := by decide +kernel
theorem dX0_wasAt_16 : decode cX0_wasAt 16 = .ok (.istore 4, 2) := by decide +kernel
theorem dX0_wasAt_18 : decode cX0_wasAt 18 = .ok (.iload 4, 2) := by decide +kernel
theorem dX0_wasAt_20 : decode cX0_wasAt 20 = .ok (.iload_n 3, 1) := by decide +kernel
theorem dX0_wasAt_21 : decode cX0_wasAt 21 = .ok (.if_icmp .gt 26, 3) := by decide +kernel
theorem dX0_wasAt_24 : decode cX0_wasAt 24 = .ok (.aload_n 0, 1) := by decide +kernel
theorem dX0_wasAt_25 : decode cX0_wasAt 25 = .ok (.getfield 9, 3) := by decide +kernel
theorem dX0_wasAt_28 : decode cX0_wasAt 28 = .ok (.iload_n 1, 1) := by decide +kernel
theorem dX0_wasAt_29 : decode cX0_wasAt 29 = .ok (.iload 4, 2) := by decide +kernel
theorem dX0_wasAt_31 : decode cX0_wasAt 31 = .ok (.ineg, 1) := by decide +kernel
theorem dX0_wasAt_32 : decode cX0_wasAt 32 = .ok (.invokevirtual 94, 3) := by decide +kernel
theorem dX0_wasAt_35 : decode cX0_wasAt 35 = .ok (.iload_n 2, 1) := by decide +kernel
theorem dX0_wasAt_36 : decode cX0_wasAt 36 = .ok (.if_icmp .ne 5, 3) := by decide +kernel
theorem dX0_wasAt_39 : decode cX0_wasAt 39 = .ok (.iconst 1, 1) := by decide +kernel
theorem dX0_wasAt_40 : decode cX0_wasAt 40 = .ok (.ireturn, 1) := by decide +kernel
theorem dX0_wasAt_41 : decode cX0_wasAt 41 = .ok (.iinc 4 1, 3) := by decide +kernel
theorem dX0_wasAt_44 : decode cX0_wasAt 44 = .ok (.goto (-26), 3) := by decide +kernel
theorem dX0_wasAt_47 : decode cX0_wasAt 47 = .ok (.iconst 0, 1) := by decide +kernel
theorem dX0_wasAt_48 : decode cX0_wasAt 48 = .ok (.ireturn, 1) := by decide +kernel
theorem dX0_allWays_0 : decode cX0_allWays 0 = .ok (.aload_n 0, 1) := by decide +kernel
theorem dX0_allWays_1 : decode cX0_allWays 1 = .ok (.getfield 22, 3) := by decide +kernel
theorem dX0_allWays_4 : decode cX0_allWays 4 = .ok (.iconst 0, 1) := by decide +kernel
theorem dX0_allWays_5 : decode cX0_allWays 5 = .ok (.iaload, 1) := by decide +kernel
theorem dX0_allWays_6 : decode cX0_allWays 6 = .ok (.ireturn, 1) := by decide +kernel
theorem dX0_firstGiven_0 : decode cX0_firstGiven 0 = .ok (.iconst 0, 1) := by decide +kernel
theorem dX0_firstGiven_1 : decode cX0_firstGiven 1 = .ok (.istore_n 2, 1) := by decide +kernel
theorem dX0_firstGiven_2 : decode cX0_firstGiven 2 = .ok (.iconst (-1), 1) := by decide +kernel
theorem dX0_firstGiven_3 : decode cX0_firstGiven 3 = .ok (.istore_n 3, 1) := by decide +kernel
theorem dX0_firstGiven_4 : decode cX0_firstGiven 4 = .ok (.iconst 0, 1) := by decide +kernel
theorem dX0_firstGiven_5 : decode cX0_firstGiven 5 = .ok (.istore 4, 2) := by decide +kernel
theorem dX0_firstGiven_7 : decode cX0_firstGiven 7 = .ok (.iload 4, 2) := by decide +kernel
theorem dX0_firstGiven_9 : decode cX0_firstGiven 9 = .ok (.iload_n 1, 1) := by decide +kernel
theorem dX0_firstGiven_10 : decode cX0_firstGiven 10 = .ok (.if_icmp .gt 30, 3) := by decide +kernel
theorem dX0_firstGiven_13 : decode cX0_firstGiven 13 = .ok (.aload_n 0, 1) := by decide +kernel
theorem dX0_firstGiven_14 : decode cX0_firstGiven 14 = .ok (.iload 4, 2) := by decide +kernel
theorem dX0_firstGiven_16 : decode cX0_firstGiven 16 = .ok (.iload_n 2, 1) := by decide +kernel
theorem dX0_firstGiven_17 : decode cX0_firstGiven 17 = .ok (.invokevirtual 97, 3) := by decide +kernel
theorem dX0_firstGiven_20 : decode cX0_firstGiven 20 = .ok (.istore_n 3, 1) := by decide +kernel
theorem dX0_firstGiven_21 : decode cX0_firstGiven 21 = .ok (.iload_n 3, 1) := by decide +kernel
theorem dX0_firstGiven_22 : decode cX0_firstGiven 22 = .ok (.iconst (-1), 1) := by decide +kernel
theorem dX0_firstGiven_23 : decode cX0_firstGiven 23 = .ok (.if_icmp .ne 5, 3) := by decide +kernel
theorem dX0_firstGiven_26 : decode cX0_firstGiven 26 = .ok (.iconst (-1), 1) := by decide +kernel
theorem dX0_firstGiven_27 : decode cX0_firstGiven 27 = .ok (.ireturn, 1) := by decide +kernel
theorem dX0_firstGiven_28 : decode cX0_firstGiven 28 = .ok (.iload_n 2, 1) := by decide +kernel
theorem dX0_firstGiven_29 : decode cX0_firstGiven 29 = .ok (.iconst 1, 1) := by decide +kernel
theorem dX0_firstGiven_30 : decode cX0_firstGiven 30 = .ok (.iload_n 3, 1) := by decide +kernel
theorem dX0_firstGiven_31 : decode cX0_firstGiven 31 = .ok (.ishl, 1) := by decide +kernel
theorem dX0_firstGiven_32 : decode cX0_firstGiven 32 = .ok (.ior, 1) := by decide +kernel
theorem dX0_firstGiven_33 : decode cX0_firstGiven 33 = .ok (.istore_n 2, 1) := by decide +kernel
theorem dX0_firstGiven_34 : decode cX0_firstGiven 34 = .ok (.iinc 4 1, 3) := by decide +kernel
theorem dX0_firstGiven_37 : decode cX0_firstGiven 37 = .ok (.goto (-30), 3) := by decide +kernel
theorem dX0_firstGiven_40 : decode cX0_firstGiven 40 = .ok (.iload_n 3, 1) := by decide +kernel
theorem dX0_firstGiven_41 : decode cX0_firstGiven 41 = .ok (.ireturn, 1) := by decide +kernel
theorem dX0_firstOwner_0 : decode cX0_firstOwner 0 = .ok (.iconst 0, 1) := by decide +kernel
theorem dX0_firstOwner_1 : decode cX0_firstOwner 1 = .ok (.istore_n 3, 1) := by decide +kernel
theorem dX0_firstOwner_2 : decode cX0_firstOwner 2 = .ok (.iload_n 3, 1) := by decide +kernel
theorem dX0_firstOwner_3 : decode cX0_firstOwner 3 = .ok (.aload_n 0, 1) := by decide +kernel
theorem dX0_firstOwner_4 : decode cX0_firstOwner 4 = .ok (.getfield 9, 3) := by decide +kernel
theorem dX0_firstOwner_7 : decode cX0_firstOwner 7 = .ok (.getfield 39, 3) := by decide +kernel
theorem dX0_firstOwner_10 : decode cX0_firstOwner 10 = .ok (.getfield 58, 3) := by decide +kernel
theorem dX0_firstOwner_13 : decode cX0_firstOwner 13 = .ok (.if_icmp .ge 45, 3) := by decide +kernel
theorem dX0_firstOwner_16 : decode cX0_firstOwner 16 = .ok (.aload_n 0, 1) := by decide +kernel
theorem dX0_firstOwner_17 : decode cX0_firstOwner 17 = .ok (.getfield 19, 3) := by decide +kernel
theorem dX0_firstOwner_20 : decode cX0_firstOwner 20 = .ok (.iload_n 1, 1) := by decide +kernel
theorem dX0_firstOwner_21 : decode cX0_firstOwner 21 = .ok (.invokestatic 35, 3) := by decide +kernel
theorem dX0_firstOwner_24 : decode cX0_firstOwner 24 = .ok (.iload_n 2, 1) := by decide +kernel
theorem dX0_firstOwner_25 : decode cX0_firstOwner 25 = .ok (.iconst (-1), 1) := by decide +kernel
theorem dX0_firstOwner_26 : decode cX0_firstOwner 26 = .ok (.ixor, 1) := by decide +kernel
theorem dX0_firstOwner_27 : decode cX0_firstOwner 27 = .ok (.iand, 1) := by decide +kernel
theorem dX0_firstOwner_28 : decode cX0_firstOwner 28 = .ok (.iload_n 3, 1) := by decide +kernel
theorem dX0_firstOwner_29 : decode cX0_firstOwner 29 = .ok (.invokestatic 70, 3) := by decide +kernel
theorem dX0_firstOwner_32 : decode cX0_firstOwner 32 = .ok (.ifCond .eq 20, 3) := by decide +kernel
theorem dX0_firstOwner_35 : decode cX0_firstOwner 35 = .ok (.aload_n 0, 1) := by decide +kernel
theorem dX0_firstOwner_36 : decode cX0_firstOwner 36 = .ok (.getfield 22, 3) := by decide +kernel
theorem dX0_firstOwner_39 : decode cX0_firstOwner 39 = .ok (.iload_n 2, 1) := by decide +kernel
theorem dX0_firstOwner_40 : decode cX0_firstOwner 40 = .ok (.iconst 1, 1) := by decide +kernel
theorem dX0_firstOwner_41 : decode cX0_firstOwner 41 = .ok (.iload_n 3, 1) := by decide +kernel
theorem dX0_firstOwner_42 : decode cX0_firstOwner 42 = .ok (.ishl, 1) := by decide +kernel
theorem dX0_firstOwner_43 : decode cX0_firstOwner 43 = .ok (.ior, 1) := by decide +kernel
theorem dX0_firstOwner_44 : decode cX0_firstOwner 44 = .ok (.invokestatic 35, 3) := by decide +kernel
theorem dX0_firstOwner_47 : decode cX0_firstOwner 47 = .ok (.ifCond .le 5, 3) := by decide +kernel
theorem dX0_firstOwner_50 : decode cX0_firstOwner 50 = .ok (.iload_n 3, 1) := by decide +kernel
theorem dX0_firstOwner_51 : decode cX0_firstOwner 51 = .ok (.ireturn, 1) := by decide +kernel
theorem dX0_firstOwner_52 : decode cX0_firstOwner 52 = .ok (.iinc 3 1, 3) := by decide +kernel
theorem dX0_firstOwner_55 : decode cX0_firstOwner 55 = .ok (.goto (-53), 3) := by decide +kernel
theorem dX0_firstOwner_58 : decode cX0_firstOwner 58 = .ok (.iconst (-1), 1) := by decide +kernel
theorem dX0_firstOwner_59 : decode cX0_firstOwner 59 = .ok (.ireturn, 1) := by decide +kernel
theorem dX1_init_0 : decode cX1_init 0 = .ok (.aload_n 0, 1) := by decide +kernel
theorem dX1_init_1 : decode cX1_init 1 = .ok (.invokespecial 3, 3) := by decide +kernel
theorem dX1_init_4 : decode cX1_init 4 = .ok (.aload_n 0, 1) := by decide +kernel
theorem dX1_init_5 : decode cX1_init 5 = .ok (.iconst (-1), 1) := by decide +kernel
theorem dX1_init_6 : decode cX1_init 6 = .ok (.putfield 9, 3) := by decide +kernel
theorem dX1_init_9 : decode cX1_init 9 = .ok (.aload_n 0, 1) := by decide +kernel
theorem dX1_init_10 : decode cX1_init 10 = .ok (.bipush 12, 2) := by decide +kernel
theorem dX1_init_12 : decode cX1_init 12 = .ok (.newarray .int, 2) := by decide +kernel
theorem dX1_init_14 : decode cX1_init 14 = .ok (.putfield 15, 3) := by decide +kernel
theorem dX1_init_17 : decode cX1_init 17 = .ok (.aload_n 0, 1) := by decide +kernel
theorem dX1_init_18 : decode cX1_init 18 = .ok (.bipush 12, 2) := by decide +kernel
theorem dX1_init_20 : decode cX1_init 20 = .ok (.newarray .int, 2) := by decide +kernel
theorem dX1_init_22 : decode cX1_init 22 = .ok (.putfield 19, 3) := by decide +kernel
theorem dX1_init_25 : decode cX1_init 25 = .ok (.aload_n 0, 1) := by decide +kernel
theorem dX1_init_26 : decode cX1_init 26 = .ok (.bipush 12, 2) := by decide +kernel
theorem dX1_init_28 : decode cX1_init 28 = .ok (.newarray .int, 2) := by decide +kernel
theorem dX1_init_30 : decode cX1_init 30 = .ok (.putfield 22, 3) := by decide +kernel
theorem dX1_init_33 : decode cX1_init 33 = .ok (.aload_n 0, 1) := by decide +kernel
theorem dX1_init_34 : decode cX1_init 34 = .ok (.bipush 12, 2) := by decide +kernel
theorem dX1_init_36 : decode cX1_init 36 = .ok (.newarray .int, 2) := by decide +kernel
theorem dX1_init_38 : decode cX1_init 38 = .ok (.putfield 25, 3) := by decide +kernel
theorem dX1_init_41 : decode cX1_init 41 = .ok (.aload_n 0, 1) := by decide +kernel
theorem dX1_init_42 : decode cX1_init 42 = .ok (.sipush 400, 3) := by decide +kernel
theorem dX1_init_45 : decode cX1_init 45 = .ok (.newarray .int, 2) := by decide +kernel
theorem dX1_init_47 : decode cX1_init 47 = .ok (.putfield 28, 3) := by decide +kernel
theorem dX1_init_50 : decode cX1_init 50 = .ok (.aload_n 0, 1) := by decide +kernel
theorem dX1_init_51 : decode cX1_init 51 = .ok (.bipush 8, 2) := by decide +kernel
theorem dX1_init_53 : decode cX1_init 53 = .ok (.newarray .int, 2) := by decide +kernel
theorem dX1_init_55 : decode cX1_init 55 = .ok (.putfield 31, 3) := by decide +kernel
theorem dX1_init_58 : decode cX1_init 58 = .ok (.aload_n 0, 1) := by decide +kernel
theorem dX1_init_59 : decode cX1_init 59 = .ok (.bipush 40, 2) := by decide +kernel
theorem dX1_init_61 : decode cX1_init 61 = .ok (.newarray .int, 2) := by decide +kernel
theorem dX1_init_63 : decode cX1_init 63 = .ok (.putfield 34, 3) := by decide +kernel
theorem dX1_init_66 : decode cX1_init 66 = .ok (.return_, 1) := by decide +kernel
theorem dX1_copyFrom_0 : decode cX1_copyFrom 0 = .ok (.aload_n 0, 1) := by decide +kernel
theorem dX1_copyFrom_1 : decode cX1_copyFrom 1 = .ok (.aload_n 1, 1) := by decide +kernel
theorem dX1_copyFrom_2 : decode cX1_copyFrom 2 = .ok (.getfield 9, 3) := by decide +kernel
theorem dX1_copyFrom_5 : decode cX1_copyFrom 5 = .ok (.putfield 9, 3) := by decide +kernel
theorem dX1_copyFrom_8 : decode cX1_copyFrom 8 = .ok (.aload_n 0, 1) := by decide +kernel
theorem dX1_copyFrom_9 : decode cX1_copyFrom 9 = .ok (.aload_n 1, 1) := by decide +kernel
theorem dX1_copyFrom_10 : decode cX1_copyFrom 10 = .ok (.getfield 37, 3) := by decide +kernel
theorem dX1_copyFrom_13 : decode cX1_copyFrom 13 = .ok (.putfield 37, 3) := by decide +kernel
theorem dX1_copyFrom_16 : decode cX1_copyFrom 16 = .ok (.aload_n 1, 1) := by decide +kernel
theorem dX1_copyFrom_17 : decode cX1_copyFrom 17 = .ok (.getfield 15, 3) := by decide +kernel
theorem dX1_copyFrom_20 : decode cX1_copyFrom 20 = .ok (.aload_n 0, 1) := by decide +kernel
theorem dX1_copyFrom_21 : decode cX1_copyFrom 21 = .ok (.getfield 15, 3) := by decide +kernel
theorem dX1_copyFrom_24 : decode cX1_copyFrom 24 = .ok (.invokestatic 40, 3) := by decide +kernel
theorem dX1_copyFrom_27 : decode cX1_copyFrom 27 = .ok (.aload_n 1, 1) := by decide +kernel
theorem dX1_copyFrom_28 : decode cX1_copyFrom 28 = .ok (.getfield 19, 3) := by decide +kernel
theorem dX1_copyFrom_31 : decode cX1_copyFrom 31 = .ok (.aload_n 0, 1) := by decide +kernel
theorem dX1_copyFrom_32 : decode cX1_copyFrom 32 = .ok (.getfield 19, 3) := by decide +kernel
theorem dX1_copyFrom_35 : decode cX1_copyFrom 35 = .ok (.invokestatic 40, 3) := by decide +kernel
theorem dX1_copyFrom_38 : decode cX1_copyFrom 38 = .ok (.aload_n 1, 1) := by decide +kernel
theorem dX1_copyFrom_39 : decode cX1_copyFrom 39 = .ok (.getfield 22, 3) := by decide +kernel
theorem dX1_copyFrom_42 : decode cX1_copyFrom 42 = .ok (.aload_n 0, 1) := by decide +kernel
theorem dX1_copyFrom_43 : decode cX1_copyFrom 43 = .ok (.getfield 22, 3) := by decide +kernel
theorem dX1_copyFrom_46 : decode cX1_copyFrom 46 = .ok (.invokestatic 40, 3) := by decide +kernel
theorem dX1_copyFrom_49 : decode cX1_copyFrom 49 = .ok (.aload_n 1, 1) := by decide +kernel
theorem dX1_copyFrom_50 : decode cX1_copyFrom 50 = .ok (.getfield 25, 3) := by decide +kernel
theorem dX1_copyFrom_53 : decode cX1_copyFrom 53 = .ok (.aload_n 0, 1) := by decide +kernel
theorem dX1_copyFrom_54 : decode cX1_copyFrom 54 = .ok (.getfield 25, 3) := by decide +kernel
theorem dX1_copyFrom_57 : decode cX1_copyFrom 57 = .ok (.invokestatic 40, 3) := by decide +kernel
theorem dX1_copyFrom_60 : decode cX1_copyFrom 60 = .ok (.aload_n 1, 1) := by decide +kernel
theorem dX1_copyFrom_61 : decode cX1_copyFrom 61 = .ok (.getfield 28, 3) := by decide +kernel
theorem dX1_copyFrom_64 : decode cX1_copyFrom 64 = .ok (.aload_n 0, 1) := by decide +kernel
theorem dX1_copyFrom_65 : decode cX1_copyFrom 65 = .ok (.getfield 28, 3) := by decide +kernel
theorem dX1_copyFrom_68 : decode cX1_copyFrom 68 = .ok (.invokestatic 40, 3) := by decide +kernel
theorem dX1_copyFrom_71 : decode cX1_copyFrom 71 = .ok (.return_, 1) := by decide +kernel
theorem dX1_begin_0 : decode cX1_begin 0 = .ok (.aload_n 0, 1) := by decide +kernel
theorem dX1_begin_1 : decode cX1_begin 1 = .ok (.iconst 0, 1) := by decide +kernel
theorem dX1_begin_2 : decode cX1_begin 2 = .ok (.putfield 9, 3) := by decide +kernel
theorem dX1_begin_5 : decode cX1_begin 5 = .ok (.aload_n 0, 1) := by decide +kernel
theorem dX1_begin_6 : decode cX1_begin 6 = .ok (.iconst 0, 1) := by decide +kernel
theorem dX1_begin_7 : decode cX1_begin 7 = .ok (.putfield 37, 3) := by decide +kernel
theorem dX1_begin_10 : decode cX1_begin 10 = .ok (.return_, 1) := by decide +kernel
theorem dX1_emit_0 : decode cX1_emit 0 = .ok (.aload_n 0, 1) := by decide +kernel
theorem dX1_emit_1 : decode cX1_emit 1 = .ok (.getfield 28, 3) := by decide +kernel
theorem dX1_emit_4 : decode cX1_emit 4 = .ok (.aload_n 0, 1) := by decide +kernel
theorem dX1_emit_5 : decode cX1_emit 5 = .ok (.getfield 37, 3) := by decide +kernel
theorem dX1_emit_8 : decode cX1_emit 8 = .ok (.iload_n 1, 1) := by decide +kernel
theorem dX1_emit_9 : decode cX1_emit 9 = .ok (.invokestatic 44, 3) := by decide +kernel
theorem dX1_emit_12 : decode cX1_emit 12 = .ok (.aload_n 0, 1) := by decide +kernel
theorem dX1_emit_13 : decode cX1_emit 13 = .ok (.dup, 1) := by decide +kernel
theorem dX1_emit_14 : decode cX1_emit 14 = .ok (.getfield 37, 3) := by decide +kernel
theorem dX1_emit_17 : decode cX1_emit 17 = .ok (.iconst 1, 1) := by decide +kernel
theorem dX1_emit_18 : decode cX1_emit 18 = .ok (.iadd, 1) := by decide +kernel
theorem dX1_emit_19 : decode cX1_emit 19 = .ok (.putfield 37, 3) := by decide +kernel
theorem dX1_emit_22 : decode cX1_emit 22 = .ok (.return_, 1) := by decide +kernel
theorem dX1_addLine_0 : decode cX1_addLine 0 = .ok (.aload_n 0, 1) := by decide +kernel
theorem dX1_addLine_1 : decode cX1_addLine 1 = .ok (.getfield 15, 3) := by decide +kernel
theorem dX1_addLine_4 : decode cX1_addLine 4 = .ok (.aload_n 0, 1) := by decide +kernel
theorem dX1_addLine_5 : decode cX1_addLine 5 = .ok (.getfield 9, 3) := by decide +kernel
theorem dX1_addLine_8 : decode cX1_addLine 8 = .ok (.iload_n 1, 1) := by decide +kernel
theorem dX1_addLine_9 : decode cX1_addLine 9 = .ok (.invokestatic 44, 3) := by decide +kernel
theorem dX1_addLine_12 : decode cX1_addLine 12 = .ok (.aload_n 0, 1) := by decide +kernel
theorem dX1_addLine_13 : decode cX1_addLine 13 = .ok (.getfield 19, 3) := by decide +kernel
theorem dX1_addLine_16 : decode cX1_addLine 16 = .ok (.aload_n 0, 1) := by decide +kernel
theorem dX1_addLine_17 : decode cX1_addLine 17 = .ok (.getfield 9, 3) := by decide +kernel
theorem dX1_addLine_20 : decode cX1_addLine 20 = .ok (.iload_n 2, 1) := by decide +kernel
theorem dX1_addLine_21 : decode cX1_addLine 21 = .ok (.invokestatic 44, 3) := by decide +kernel
theorem dX1_addLine_24 : decode cX1_addLine 24 = .ok (.aload_n 0, 1) := by decide +kernel
theorem dX1_addLine_25 : decode cX1_addLine 25 = .ok (.getfield 22, 3) := by decide +kernel
theorem dX1_addLine_28 : decode cX1_addLine 28 = .ok (.aload_n 0, 1) := by decide +kernel
theorem dX1_addLine_29 : decode cX1_addLine 29 = .ok (.getfield 9, 3) := by decide +kernel
theorem dX1_addLine_32 : decode cX1_addLine 32 = .ok (.iload_n 3, 1) := by decide +kernel
theorem dX1_addLine_33 : decode cX1_addLine 33 = .ok (.invokestatic 44, 3) := by decide +kernel
theorem dX1_addLine_36 : decode cX1_addLine 36 = .ok (.aload_n 0, 1) := by decide +kernel
theorem dX1_addLine_37 : decode cX1_addLine 37 = .ok (.getfield 25, 3) := by decide +kernel
theorem dX1_addLine_40 : decode cX1_addLine 40 = .ok (.aload_n 0, 1) := by decide +kernel
theorem dX1_addLine_41 : decode cX1_addLine 41 = .ok (.getfield 9, 3) := by decide +kernel
theorem dX1_addLine_44 : decode cX1_addLine 44 = .ok (.aload_n 0, 1) := by decide +kernel
theorem dX1_addLine_45 : decode cX1_addLine 45 = .ok (.getfield 37, 3) := by decide +kernel
theorem dX1_addLine_48 : decode cX1_addLine 48 = .ok (.invokestatic 44, 3) := by decide +kernel
theorem dX1_addLine_51 : decode cX1_addLine 51 = .ok (.aload_n 0, 1) := by decide +kernel
theorem dX1_addLine_52 : decode cX1_addLine 52 = .ok (.dup, 1) := by decide +kernel
theorem dX1_addLine_53 : decode cX1_addLine 53 = .ok (.getfield 9, 3) := by decide +kernel
theorem dX1_addLine_56 : decode cX1_addLine 56 = .ok (.iconst 1, 1) := by decide +kernel
theorem dX1_addLine_57 : decode cX1_addLine 57 = .ok (.iadd, 1) := by decide +kernel
theorem dX1_addLine_58 : decode cX1_addLine 58 = .ok (.putfield 9, 3) := by decide +kernel
theorem dX1_addLine_61 : decode cX1_addLine 61 = .ok (.return_, 1) := by decide +kernel
theorem dX1_withoutText_0 : decode cX1_withoutText 0 = .ok (.iload_n 1, 1) := by decide +kernel
theorem dX1_withoutText_1 : decode cX1_withoutText 1 = .ok (.lookupswitch 33 #[(0, 27), (1, 30)], 27) := by decide +kernel
theorem dX1_withoutText_28 : decode cX1_withoutText 28 = .ok (.bipush 50, 2) := by decide +kernel
theorem dX1_withoutText_30 : decode cX1_withoutText 30 = .ok (.ireturn, 1) := by decide +kernel
theorem dX1_withoutText_31 : decode cX1_withoutText 31 = .ok (.bipush 20, 2) := by decide +kernel
theorem dX1_withoutText_33 : decode cX1_withoutText 33 = .ok (.ireturn, 1) := by decide +kernel
theorem dX1_withoutText_34 : decode cX1_withoutText 34 = .ok (.iconst 1, 1) := by decide +kernel
theorem dX1_withoutText_35 : decode cX1_withoutText 35 = .ok (.ireturn, 1) := by decide +kernel
theorem dX1_sumOf_0 : decode cX1_sumOf 0 = .ok (.iconst 0, 1) := by decide +kernel
theorem dX1_sumOf_1 : decode cX1_sumOf 1 = .ok (.istore_n 2, 1) := by decide +kernel
theorem dX1_sumOf_2 : decode cX1_sumOf 2 = .ok (.iconst 0, 1) := by decide +kernel
theorem dX1_sumOf_3 : decode cX1_sumOf 3 = .ok (.istore_n 3, 1) := by decide +kernel
theorem dX1_sumOf_4 : decode cX1_sumOf 4 = .ok (.iload_n 3, 1) := by decide +kernel
theorem dX1_sumOf_5 : decode cX1_sumOf 5 = .ok (.aload_n 0, 1) := by decide +kernel
theorem dX1_sumOf_6 : decode cX1_sumOf 6 = .ok (.getfield 9, 3) := by decide +kernel
theorem dX1_sumOf_9 : decode cX1_sumOf 9 = .ok (.if_icmp .ge 46, 3) := by decide +kernel
theorem dX1_sumOf_12 : decode cX1_sumOf 12 = .ok (.iload_n 3, 1) := by decide +kernel
theorem dX1_sumOf_13 : decode cX1_sumOf 13 = .ok (.bipush 12, 2) := by decide +kernel
theorem dX1_sumOf_15 : decode cX1_sumOf 15 = .ok (.if_icmp .ge 40, 3) := by decide +kernel
theorem dX1_sumOf_18 : decode cX1_sumOf 18 = .ok (.aload_n 0, 1) := by decide +kernel
theorem dX1_sumOf_19 : decode cX1_sumOf 19 = .ok (.getfield 15, 3) := by decide +kernel
theorem dX1_sumOf_22 : decode cX1_sumOf 22 = .ok (.iload_n 3, 1) := by decide +kernel
theorem dX1_sumOf_23 : decode cX1_sumOf 23 = .ok (.invokestatic 48, 3) := by decide +kernel
theorem dX1_sumOf_26 : decode cX1_sumOf 26 = .ok (.iload_n 1, 1) := by decide +kernel
theorem dX1_sumOf_27 : decode cX1_sumOf 27 = .ok (.if_icmp .ne 22, 3) := by decide +kernel
theorem dX1_sumOf_30 : decode cX1_sumOf 30 = .ok (.aload_n 0, 1) := by decide +kernel
theorem dX1_sumOf_31 : decode cX1_sumOf 31 = .ok (.iload_n 3, 1) := by decide +kernel
theorem dX1_sumOf_32 : decode cX1_sumOf 32 = .ok (.invokevirtual 52, 3) := by decide +kernel
theorem dX1_sumOf_35 : decode cX1_sumOf 35 = .ok (.ifCond .eq 14, 3) := by decide +kernel
theorem dX1_sumOf_38 : decode cX1_sumOf 38 = .ok (.iload_n 2, 1) := by decide +kernel
theorem dX1_sumOf_39 : decode cX1_sumOf 39 = .ok (.aload_n 0, 1) := by decide +kernel
theorem dX1_sumOf_40 : decode cX1_sumOf 40 = .ok (.getfield 19, 3) := by decide +kernel
theorem dX1_sumOf_43 : decode cX1_sumOf 43 = .ok (.iload_n 3, 1) := by decide +kernel
theorem dX1_sumOf_44 : decode cX1_sumOf 44 = .ok (.invokestatic 48, 3) := by decide +kernel
theorem dX1_sumOf_47 : decode cX1_sumOf 47 = .ok (.iadd, 1) := by decide +kernel
theorem dX1_sumOf_48 : decode cX1_sumOf 48 = .ok (.istore_n 2, 1) := by decide +kernel
theorem dX1_sumOf_49 : decode cX1_sumOf 49 = .ok (.iinc 3 1, 3) := by decide +kernel
theorem dX1_sumOf_52 : decode cX1_sumOf 52 = .ok (.goto (-48), 3) := by decide +kernel
theorem dX1_sumOf_55 : decode cX1_sumOf 55 = .ok (.iload_n 2, 1) := by decide +kernel
theorem dX1_sumOf_56 : decode cX1_sumOf 56 = .ok (.bipush 100, 2) := by decide +kernel
theorem dX1_sumOf_58 : decode cX1_sumOf 58 = .ok (.invokestatic 56, 3) := by decide +kernel
theorem dX1_sumOf_61 : decode cX1_sumOf 61 = .ok (.ireturn, 1) := by decide +kernel
theorem dX1_holds_0 : decode cX1_holds 0 = .ok (.aload_n 0, 1) := by decide +kernel
theorem dX1_holds_1 : decode cX1_holds 1 = .ok (.getfield 22, 3) := by decide +kernel
theorem dX1_holds_4 : decode cX1_holds 4 = .ok (.iload_n 1, 1) := by decide +kernel
theorem dX1_holds_5 : decode cX1_holds 5 = .ok (.invokestatic 48, 3) := by decide +kernel
theorem dX1_holds_8 : decode cX1_holds 8 = .ok (.istore_n 2, 1) := by decide +kernel
theorem dX1_holds_9 : decode cX1_holds 9 = .ok (.aload_n 0, 1) := by decide +kernel
theorem dX1_holds_10 : decode cX1_holds 10 = .ok (.getfield 25, 3) := by decide +kernel
theorem dX1_holds_13 : decode cX1_holds 13 = .ok (.iload_n 1, 1) := by decide +kernel
theorem dX1_holds_14 : decode cX1_holds 14 = .ok (.invokestatic 48, 3) := by decide +kernel
theorem dX1_holds_17 : decode cX1_holds 17 = .ok (.istore_n 3, 1) := by decide +kernel
theorem dX1_holds_18 : decode cX1_holds 18 = .ok (.iload_n 2, 1) := by decide +kernel
theorem dX1_holds_19 : decode cX1_holds 19 = .ok (.iload_n 3, 1) := by decide +kernel
theorem dX1_holds_20 : decode cX1_holds 20 = .ok (.if_icmp .lt 5, 3) := by decide +kernel
theorem dX1_holds_23 : decode cX1_holds 23 = .ok (.iconst 1, 1) := by decide +kernel
theorem dX1_holds_24 : decode cX1_holds 24 = .ok (.ireturn, 1) := by decide +kernel
theorem dX1_holds_25 : decode cX1_holds 25 = .ok (.iconst 0, 1) := by decide +kernel
theorem dX1_holds_26 : decode cX1_holds 26 = .ok (.istore 4, 2) := by decide +kernel
theorem dX1_holds_28 : decode cX1_holds 28 = .ok (.iload_n 2, 1) := by decide +kernel
theorem dX1_holds_29 : decode cX1_holds 29 = .ok (.istore 5, 2) := by decide +kernel
theorem dX1_holds_31 : decode cX1_holds 31 = .ok (.iload 5, 2) := by decide +kernel
theorem dX1_holds_33 : decode cX1_holds 33 = .ok (.iload_n 3, 1) := by decide +kernel
theorem dX1_holds_34 : decode cX1_holds 34 = .ok (.if_icmp .ge 26, 3) := by decide +kernel
theorem dX1_holds_37 : decode cX1_holds 37 = .ok (.aload_n 0, 1) := by decide +kernel
theorem dX1_holds_38 : decode cX1_holds 38 = .ok (.aload_n 0, 1) := by decide +kernel
theorem dX1_holds_39 : decode cX1_holds 39 = .ok (.getfield 28, 3) := by decide +kernel
theorem dX1_holds_42 : decode cX1_holds 42 = .ok (.iload 5, 2) := by decide +kernel
theorem dX1_holds_44 : decode cX1_holds 44 = .ok (.invokestatic 48, 3) := by decide +kernel
theorem dX1_holds_47 : decode cX1_holds 47 = .ok (.iload 4, 2) := by decide +kernel
theorem dX1_holds_49 : decode cX1_holds 49 = .ok (.invokevirtual 62, 3) := by decide +kernel
theorem dX1_holds_52 : decode cX1_holds 52 = .ok (.istore 4, 2) := by decide +kernel
theorem dX1_holds_54 : decode cX1_holds 54 = .ok (.iinc 5 1, 3) := by decide +kernel
theorem dX1_holds_57 : decode cX1_holds 57 = .ok (.goto (-26), 3) := by decide +kernel
theorem dX1_holds_60 : decode cX1_holds 60 = .ok (.aload_n 0, 1) := by decide +kernel
theorem dX1_holds_61 : decode cX1_holds 61 = .ok (.getfield 34, 3) := by decide +kernel
theorem dX1_holds_64 : decode cX1_holds 64 = .ok (.iconst 0, 1) := by decide +kernel
theorem dX1_holds_65 : decode cX1_holds 65 = .ok (.iaload, 1) := by decide +kernel
theorem dX1_holds_66 : decode cX1_holds 66 = .ok (.ifCond .eq 7, 3) := by decide +kernel
theorem dX1_holds_69 : decode cX1_holds 69 = .ok (.iconst 1, 1) := by decide +kernel
theorem dX1_holds_70 : decode cX1_holds 70 = .ok (.goto 4, 3) := by decide +kernel
theorem dX1_holds_73 : decode cX1_holds 73 = .ok (.iconst 0, 1) := by decide +kernel
theorem dX1_holds_74 : decode cX1_holds 74 = .ok (.ireturn, 1) := by decide +kernel
theorem dX1_apply_0 : decode cX1_apply 0 = .ok (.iload_n 1, 1) := by decide +kernel
theorem dX1_apply_1 : decode cX1_apply 1 = .ok (.sipush 1008, 3) := by decide +kernel
theorem dX1_apply_4 : decode cX1_apply 4 = .ok (.if_icmp .ge 38, 3) := by decide +kernel
theorem dX1_apply_7 : decode cX1_apply 7 = .ok (.aload_n 0, 1) := by decide +kernel
theorem dX1_apply_8 : decode cX1_apply 8 = .ok (.getfield 34, 3) := by decide +kernel
theorem dX1_apply_11 : decode cX1_apply 11 = .ok (.iload_n 2, 1) := by decide +kernel
theorem dX1_apply_12 : decode cX1_apply 12 = .ok (.iload_n 1, 1) := by decide +kernel
theorem dX1_apply_13 : decode cX1_apply 13 = .ok (.sipush 1000, 3) := by decide +kernel
theorem dX1_apply_16 : decode cX1_apply 16 = .ok (.if_icmp .ge 7, 3) := by decide +kernel
theorem dX1_apply_19 : decode cX1_apply 19 = .ok (.iload_n 1, 1) := by decide +kernel
theorem dX1_apply_20 : decode cX1_apply 20 = .ok (.goto 15, 3) := by decide +kernel
theorem dX1_apply_23 : decode cX1_apply 23 = .ok (.aload_n 0, 1) := by decide +kernel
theorem dX1_apply_24 : decode cX1_apply 24 = .ok (.getfield 31, 3) := by decide +kernel
theorem dX1_apply_27 : decode cX1_apply 27 = .ok (.iload_n 1, 1) := by decide +kernel
theorem dX1_apply_28 : decode cX1_apply 28 = .ok (.sipush 1000, 3) := by decide +kernel
theorem dX1_apply_31 : decode cX1_apply 31 = .ok (.isub, 1) := by decide +kernel
theorem dX1_apply_32 : decode cX1_apply 32 = .ok (.invokestatic 48, 3) := by decide +kernel
theorem dX1_apply_35 : decode cX1_apply 35 = .ok (.invokestatic 44, 3) := by decide +kernel
theorem dX1_apply_38 : decode cX1_apply 38 = .ok (.iload_n 2, 1) := by decide +kernel
theorem dX1_apply_39 : decode cX1_apply 39 = .ok (.iconst 1, 1) := by decide +kernel
theorem dX1_apply_40 : decode cX1_apply 40 = .ok (.iadd, 1) := by decide +kernel
theorem dX1_apply_41 : decode cX1_apply 41 = .ok (.ireturn, 1) := by decide +kernel
theorem dX1_apply_42 : decode cX1_apply 42 = .ok (.iload_n 1, 1) := by decide +kernel
theorem dX1_apply_43 : decode cX1_apply 43 = .ok (.sipush 1011, 3) := by decide +kernel
theorem dX1_apply_46 : decode cX1_apply 46 = .ok (.if_icmp .ne 27, 3) := by decide +kernel
theorem dX1_apply_49 : decode cX1_apply 49 = .ok (.aload_n 0, 1) := by decide +kernel
theorem dX1_apply_50 : decode cX1_apply 50 = .ok (.getfield 34, 3) := by decide +kernel
theorem dX1_apply_53 : decode cX1_apply 53 = .ok (.iload_n 2, 1) := by decide +kernel
theorem dX1_apply_54 : decode cX1_apply 54 = .ok (.iconst 1, 1) := by decide +kernel
theorem dX1_apply_55 : decode cX1_apply 55 = .ok (.isub, 1) := by decide +kernel
theorem dX1_apply_56 : decode cX1_apply 56 = .ok (.iconst 1, 1) := by decide +kernel
theorem dX1_apply_57 : decode cX1_apply 57 = .ok (.aload_n 0, 1) := by decide +kernel
theorem dX1_apply_58 : decode cX1_apply 58 = .ok (.getfield 34, 3) := by decide +kernel
theorem dX1_apply_61 : decode cX1_apply 61 = .ok (.iload_n 2, 1) := by decide +kernel
theorem dX1_apply_62 : decode cX1_apply 62 = .ok (.iconst 1, 1) := by decide +kernel
theorem dX1_apply_63 : decode cX1_apply 63 = .ok (.isub, 1) := by decide +kernel
theorem dX1_apply_64 : decode cX1_apply 64 = .ok (.invokestatic 48, 3) := by decide +kernel
theorem dX1_apply_67 : decode cX1_apply 67 = .ok (.isub, 1) := by decide +kernel
theorem dX1_apply_68 : decode cX1_apply 68 = .ok (.invokestatic 44, 3) := by decide +kernel
theorem dX1_apply_71 : decode cX1_apply 71 = .ok (.iload_n 2, 1) := by decide +kernel
theorem dX1_apply_72 : decode cX1_apply 72 = .ok (.ireturn, 1) := by decide +kernel
theorem dX1_apply_73 : decode cX1_apply 73 = .ok (.aload_n 0, 1) := by decide +kernel
theorem dX1_apply_74 : decode cX1_apply 74 = .ok (.getfield 34, 3) := by decide +kernel
theorem dX1_apply_77 : decode cX1_apply 77 = .ok (.iload_n 2, 1) := by decide +kernel
theorem dX1_apply_78 : decode cX1_apply 78 = .ok (.iconst 2, 1) := by decide +kernel
theorem dX1_apply_79 : decode cX1_apply 79 = .ok (.isub, 1) := by decide +kernel
theorem dX1_apply_80 : decode cX1_apply 80 = .ok (.iload_n 1, 1) := by decide +kernel
theorem dX1_apply_81 : decode cX1_apply 81 = .ok (.aload_n 0, 1) := by decide +kernel
theorem dX1_apply_82 : decode cX1_apply 82 = .ok (.getfield 34, 3) := by decide +kernel
theorem dX1_apply_85 : decode cX1_apply 85 = .ok (.iload_n 2, 1) := by decide +kernel
theorem dX1_apply_86 : decode cX1_apply 86 = .ok (.iconst 2, 1) := by decide +kernel
theorem dX1_apply_87 : decode cX1_apply 87 = .ok (.isub, 1) := by decide +kernel
theorem dX1_apply_88 : decode cX1_apply 88 = .ok (.invokestatic 48, 3) := by decide +kernel
theorem dX1_apply_91 : decode cX1_apply 91 = .ok (.aload_n 0, 1) := by decide +kernel
theorem dX1_apply_92 : decode cX1_apply 92 = .ok (.getfield 34, 3) := by decide +kernel
theorem dX1_apply_95 : decode cX1_apply 95 = .ok (.iload_n 2, 1) := by decide +kernel
theorem dX1_apply_96 : decode cX1_apply 96 = .ok (.iconst 1, 1) := by decide +kernel
theorem dX1_apply_97 : decode cX1_apply 97 = .ok (.isub, 1) := by decide +kernel
theorem dX1_apply_98 : decode cX1_apply 98 = .ok (.invokestatic 48, 3) := by decide +kernel
theorem dX1_apply_101 : decode cX1_apply 101 = .ok (.invokestatic 65, 3) := by decide +kernel
theorem dX1_apply_104 : decode cX1_apply 104 = .ok (.invokestatic 44, 3) := by decide +kernel
theorem dX1_apply_107 : decode cX1_apply 107 = .ok (.iload_n 2, 1) := by decide +kernel
theorem dX1_apply_108 : decode cX1_apply 108 = .ok (.iconst 1, 1) := by decide +kernel
theorem dX1_apply_109 : decode cX1_apply 109 = .ok (.isub, 1) := by decide +kernel
theorem dX1_apply_110 : decode cX1_apply 110 = .ok (.ireturn, 1) := by decide +kernel
theorem dX1_joined_0 : decode cX1_joined 0 = .ok (.iload_n 0, 1) := by decide +kernel
theorem dX1_joined_1 : decode cX1_joined 1 = .ok (.tableswitch 65 1008 1012 #[35, 39, 50, 65, 61], 35) := by decide +kernel
theorem dX1_joined_36 : decode cX1_joined 36 = .ok (.iload_n 1, 1) := by decide +kernel
theorem dX1_joined_37 : decode cX1_joined 37 = .ok (.iload_n 2, 1) := by decide +kernel
theorem dX1_joined_38 : decode cX1_joined 38 = .ok (.iadd, 1) := by decide +kernel
theorem dX1_joined_39 : decode cX1_joined 39 = .ok (.ireturn, 1) := by decide +kernel
theorem dX1_joined_40 : decode cX1_joined 40 = .ok (.iload_n 1, 1) := by decide +kernel
theorem dX1_joined_41 : decode cX1_joined 41 = .ok (.iload_n 2, 1) := by decide +kernel
theorem dX1_joined_42 : decode cX1_joined 42 = .ok (.if_icmp .ge 7, 3) := by decide +kernel
theorem dX1_joined_45 : decode cX1_joined 45 = .ok (.iconst 1, 1) := by decide +kernel
theorem dX1_joined_46 : decode cX1_joined 46 = .ok (.goto 4, 3) := by decide +kernel
theorem dX1_joined_49 : decode cX1_joined 49 = .ok (.iconst 0, 1) := by decide +kernel
theorem dX1_joined_50 : decode cX1_joined 50 = .ok (.ireturn, 1) := by decide +kernel
theorem dX1_joined_51 : decode cX1_joined 51 = .ok (.iload_n 1, 1) := by decide +kernel
theorem dX1_joined_52 : decode cX1_joined 52 = .ok (.iload_n 2, 1) := by decide +kernel
theorem dX1_joined_53 : decode cX1_joined 53 = .ok (.if_icmp .le 7, 3) := by decide +kernel
theorem dX1_joined_56 : decode cX1_joined 56 = .ok (.iconst 1, 1) := by decide +kernel
theorem dX1_joined_57 : decode cX1_joined 57 = .ok (.goto 4, 3) := by decide +kernel
theorem dX1_joined_60 : decode cX1_joined 60 = .ok (.iconst 0, 1) := by decide +kernel
theorem dX1_joined_61 : decode cX1_joined 61 = .ok (.ireturn, 1) := by decide +kernel
theorem dX1_joined_62 : decode cX1_joined 62 = .ok (.iload_n 1, 1) := by decide +kernel
theorem dX1_joined_63 : decode cX1_joined 63 = .ok (.iload_n 2, 1) := by decide +kernel
theorem dX1_joined_64 : decode cX1_joined 64 = .ok (.iand, 1) := by decide +kernel
theorem dX1_joined_65 : decode cX1_joined 65 = .ok (.ireturn, 1) := by decide +kernel
theorem dX1_joined_66 : decode cX1_joined 66 = .ok (.iload_n 1, 1) := by decide +kernel
theorem dX1_joined_67 : decode cX1_joined 67 = .ok (.iload_n 2, 1) := by decide +kernel
theorem dX1_joined_68 : decode cX1_joined 68 = .ok (.ior, 1) := by decide +kernel
theorem dX1_joined_69 : decode cX1_joined 69 = .ok (.ireturn, 1) := by decide +kernel
theorem dX2_init_0 : decode cX2_init 0 = .ok (.aload_n 0, 1) := by decide +kernel
theorem dX2_init_1 : decode cX2_init 1 = .ok (.invokespecial 3, 3) := by decide +kernel
theorem dX2_init_4 : decode cX2_init 4 = .ok (.aload_n 0, 1) := by decide +kernel
theorem dX2_init_5 : decode cX2_init 5 = .ok (.aload_n 1, 1) := by decide +kernel
theorem dX2_init_6 : decode cX2_init 6 = .ok (.putfield 9, 3) := by decide +kernel
theorem dX2_init_9 : decode cX2_init 9 = .ok (.aload_n 0, 1) := by decide +kernel
theorem dX2_init_10 : decode cX2_init 10 = .ok (.aload_n 2, 1) := by decide +kernel
theorem dX2_init_11 : decode cX2_init 11 = .ok (.putfield 15, 3) := by decide +kernel
theorem dX2_init_14 : decode cX2_init 14 = .ok (.return_, 1) := by decide +kernel
theorem dX2_readAll_0 : decode cX2_readAll 0 = .ok (.aload_n 0, 1) := by decide +kernel
theorem dX2_readAll_1 : decode cX2_readAll 1 = .ok (.getfield 15, 3) := by decide +kernel
theorem dX2_readAll_4 : decode cX2_readAll 4 = .ok (.invokevirtual 19, 3) := by decide +kernel
theorem dX2_readAll_7 : decode cX2_readAll 7 = .ok (.aload_n 0, 1) := by decide +kernel
theorem dX2_readAll_8 : decode cX2_readAll 8 = .ok (.getfield 9, 3) := by decide +kernel
theorem dX2_readAll_11 : decode cX2_readAll 11 = .ok (.invokevirtual 24, 3) := by decide +kernel
theorem dX2_readAll_14 : decode cX2_readAll 14 = .ok (.aload_n 0, 1) := by decide +kernel
theorem dX2_readAll_15 : decode cX2_readAll 15 = .ok (.getfield 9, 3) := by decide +kernel
theorem dX2_readAll_18 : decode cX2_readAll 18 = .ok (.getfield 29, 3) := by decide +kernel
theorem dX2_readAll_21 : decode cX2_readAll 21 = .ok (.ifCond .ne 5, 3) := by decide +kernel
theorem dX2_readAll_24 : decode cX2_readAll 24 = .ok (.iconst 1, 1) := by decide +kernel
theorem dX2_readAll_25 : decode cX2_readAll 25 = .ok (.ireturn, 1) := by decide +kernel
theorem dX2_readAll_26 : decode cX2_readAll 26 = .ok (.iconst 0, 1) := by decide +kernel
theorem dX2_readAll_27 : decode cX2_readAll 27 = .ok (.istore_n 1, 1) := by decide +kernel
theorem dX2_readAll_28 : decode cX2_readAll 28 = .ok (.iload_n 1, 1) := by decide +kernel
theorem dX2_readAll_29 : decode cX2_readAll 29 = .ok (.bipush 12, 2) := by decide +kernel
theorem dX2_readAll_31 : decode cX2_readAll 31 = .ok (.if_icmp .ge 44, 3) := by decide +kernel
theorem dX2_readAll_34 : decode cX2_readAll 34 = .ok (.aload_n 0, 1) := by decide +kernel
theorem dX2_readAll_35 : decode cX2_readAll 35 = .ok (.invokevirtual 33, 3) := by decide +kernel
theorem dX2_readAll_38 : decode cX2_readAll 38 = .ok (.ifCond .ne 5, 3) := by decide +kernel
theorem dX2_readAll_41 : decode cX2_readAll 41 = .ok (.iconst 0, 1) := by decide +kernel
theorem dX2_readAll_42 : decode cX2_readAll 42 = .ok (.ireturn, 1) := by decide +kernel
theorem dX2_readAll_43 : decode cX2_readAll 43 = .ok (.aload_n 0, 1) := by decide +kernel
theorem dX2_readAll_44 : decode cX2_readAll 44 = .ok (.getfield 9, 3) := by decide +kernel
theorem dX2_readAll_47 : decode cX2_readAll 47 = .ok (.getfield 29, 3) := by decide +kernel
theorem dX2_readAll_50 : decode cX2_readAll 50 = .ok (.ifCond .ne 5, 3) := by decide +kernel
theorem dX2_readAll_53 : decode cX2_readAll 53 = .ok (.iconst 1, 1) := by decide +kernel
theorem dX2_readAll_54 : decode cX2_readAll 54 = .ok (.ireturn, 1) := by decide +kernel
theorem dX2_readAll_55 : decode cX2_readAll 55 = .ok (.aload_n 0, 1) := by decide +kernel
theorem dX2_readAll_56 : decode cX2_readAll 56 = .ok (.getfield 9, 3) := by decide +kernel
theorem dX2_readAll_59 : decode cX2_readAll 59 = .ok (.bipush 59, 2) := by decide +kernel
theorem dX2_readAll_61 : decode cX2_readAll 61 = .ok (.invokevirtual 37, 3) := by decide +kernel
theorem dX2_readAll_64 : decode cX2_readAll 64 = .ok (.ifCond .ne 5, 3) := by decide +kernel
theorem dX2_readAll_67 : decode cX2_readAll 67 = .ok (.iconst 0, 1) := by decide +kernel
theorem dX2_readAll_68 : decode cX2_readAll 68 = .ok (.ireturn, 1) := by decide +kernel
theorem dX2_readAll_69 : decode cX2_readAll 69 = .ok (.iinc 1 1, 3) := by decide +kernel
theorem dX2_readAll_72 : decode cX2_readAll 72 = .ok (.goto (-44), 3) := by decide +kernel
theorem dX2_readAll_75 : decode cX2_readAll 75 = .ok (.iconst 0, 1) := by decide +kernel
theorem dX2_readAll_76 : decode cX2_readAll 76 = .ok (.ireturn, 1) := by decide +kernel
theorem dX2_readLine_0 : decode cX2_readLine 0 = .ok (.aload_n 0, 1) := by decide +kernel
theorem dX2_readLine_1 : decode cX2_readLine 1 = .ok (.invokevirtual 41, 3) := by decide +kernel
theorem dX2_readLine_4 : decode cX2_readLine 4 = .ok (.istore_n 1, 1) := by decide +kernel
theorem dX2_readLine_5 : decode cX2_readLine 5 = .ok (.iload_n 1, 1) := by decide +kernel
theorem dX2_readLine_6 : decode cX2_readLine 6 = .ok (.iconst (-1), 1) := by decide +kernel
theorem dX2_readLine_7 : decode cX2_readLine 7 = .ok (.if_icmp .ne 5, 3) := by decide +kernel
theorem dX2_readLine_10 : decode cX2_readLine 10 = .ok (.iconst 0, 1) := by decide +kernel
theorem dX2_readLine_11 : decode cX2_readLine 11 = .ok (.ireturn, 1) := by decide +kernel
theorem dX2_readLine_12 : decode cX2_readLine 12 = .ok (.aload_n 0, 1) := by decide +kernel
theorem dX2_readLine_13 : decode cX2_readLine 13 = .ok (.getfield 9, 3) := by decide +kernel
theorem dX2_readLine_16 : decode cX2_readLine 16 = .ok (.invokevirtual 45, 3) := by decide +kernel
theorem dX2_readLine_19 : decode cX2_readLine 19 = .ok (.iconst 1, 1) := by decide +kernel
theorem dX2_readLine_20 : decode cX2_readLine 20 = .ok (.istore_n 2, 1) := by decide +kernel
theorem dX2_readLine_21 : decode cX2_readLine 21 = .ok (.iload_n 1, 1) := by decide +kernel
theorem dX2_readLine_22 : decode cX2_readLine 22 = .ok (.iconst 2, 1) := by decide +kernel
theorem dX2_readLine_23 : decode cX2_readLine 23 = .ok (.if_icmp .eq 34, 3) := by decide +kernel
theorem dX2_readLine_26 : decode cX2_readLine 26 = .ok (.aload_n 0, 1) := by decide +kernel
theorem dX2_readLine_27 : decode cX2_readLine 27 = .ok (.getfield 9, 3) := by decide +kernel
theorem dX2_readLine_30 : decode cX2_readLine 30 = .ok (.iconst 0, 1) := by decide +kernel
theorem dX2_readLine_31 : decode cX2_readLine 31 = .ok (.sipush 999, 3) := by decide +kernel
theorem dX2_readLine_34 : decode cX2_readLine 34 = .ok (.invokevirtual 48, 3) := by decide +kernel
theorem dX2_readLine_37 : decode cX2_readLine 37 = .ok (.ifCond .ne 5, 3) := by decide +kernel
theorem dX2_readLine_40 : decode cX2_readLine 40 = .ok (.iconst 0, 1) := by decide +kernel
theorem dX2_readLine_41 : decode cX2_readLine 41 = .ok (.ireturn, 1) := by decide +kernel
theorem dX2_readLine_42 : decode cX2_readLine 42 = .ok (.aload_n 0, 1) := by decide +kernel
theorem dX2_readLine_43 : decode cX2_readLine 43 = .ok (.getfield 9, 3) := by decide +kernel
theorem dX2_readLine_46 : decode cX2_readLine 46 = .ok (.getfield 52, 3) := by decide +kernel
theorem dX2_readLine_49 : decode cX2_readLine 49 = .ok (.istore_n 2, 1) := by decide +kernel
theorem dX2_readLine_50 : decode cX2_readLine 50 = .ok (.aload_n 0, 1) := by decide +kernel
theorem dX2_readLine_51 : decode cX2_readLine 51 = .ok (.getfield 9, 3) := by decide +kernel
theorem dX2_readLine_54 : decode cX2_readLine 54 = .ok (.invokevirtual 45, 3) := by decide +kernel
theorem dX2_readLine_57 : decode cX2_readLine 57 = .ok (.aload_n 0, 1) := by decide +kernel
theorem dX2_readLine_58 : decode cX2_readLine 58 = .ok (.getfield 15, 3) := by decide +kernel
theorem dX2_readLine_61 : decode cX2_readLine 61 = .ok (.getfield 55, 3) := by decide +kernel
theorem dX2_readLine_64 : decode cX2_readLine 64 = .ok (.istore_n 3, 1) := by decide +kernel
theorem dX2_readLine_65 : decode cX2_readLine 65 = .ok (.aload_n 0, 1) := by decide +kernel
theorem dX2_readLine_66 : decode cX2_readLine 66 = .ok (.getfield 9, 3) := by decide +kernel
theorem dX2_readLine_69 : decode cX2_readLine 69 = .ok (.ldc 58, 2) := by decide +kernel
theorem dX2_readLine_71 : decode cX2_readLine 71 = .ok (.invokevirtual 60, 3) := by decide +kernel
theorem dX2_readLine_74 : decode cX2_readLine 74 = .ok (.ifCond .eq 20, 3) := by decide +kernel
theorem dX2_readLine_77 : decode cX2_readLine 77 = .ok (.aload_n 0, 1) := by decide +kernel
theorem dX2_readLine_78 : decode cX2_readLine 78 = .ok (.getfield 9, 3) := by decide +kernel
theorem dX2_readLine_81 : decode cX2_readLine 81 = .ok (.invokevirtual 45, 3) := by decide +kernel
theorem dX2_readLine_84 : decode cX2_readLine 84 = .ok (.aload_n 0, 1) := by decide +kernel
theorem dX2_readLine_85 : decode cX2_readLine 85 = .ok (.iconst 0, 1) := by decide +kernel
theorem dX2_readLine_86 : decode cX2_readLine 86 = .ok (.invokevirtual 64, 3) := by decide +kernel
theorem dX2_readLine_89 : decode cX2_readLine 89 = .ok (.ifCond .ne 5, 3) := by decide +kernel
theorem dX2_readLine_92 : decode cX2_readLine 92 = .ok (.iconst 0, 1) := by decide +kernel
theorem dX2_readLine_93 : decode cX2_readLine 93 = .ok (.ireturn, 1) := by decide +kernel
theorem dX2_readLine_94 : decode cX2_readLine 94 = .ok (.aload_n 0, 1) := by decide +kernel
theorem dX2_readLine_95 : decode cX2_readLine 95 = .ok (.getfield 15, 3) := by decide +kernel
theorem dX2_readLine_98 : decode cX2_readLine 98 = .ok (.iload_n 1, 1) := by decide +kernel
theorem dX2_readLine_99 : decode cX2_readLine 99 = .ok (.iload_n 2, 1) := by decide +kernel
theorem dX2_readLine_100 : decode cX2_readLine 100 = .ok (.iload_n 3, 1) := by decide +kernel
theorem dX2_readLine_101 : decode cX2_readLine 101 = .ok (.invokevirtual 67, 3) := by decide +kernel
theorem dX2_readLine_104 : decode cX2_readLine 104 = .ok (.iconst 1, 1) := by decide +kernel
theorem dX2_readLine_105 : decode cX2_readLine 105 = .ok (.ireturn, 1) := by decide +kernel
theorem dX2_lineKind_0 : decode cX2_lineKind 0 = .ok (.aload_n 0, 1) := by decide +kernel
theorem dX2_lineKind_1 : decode cX2_lineKind 1 = .ok (.getfield 9, 3) := by decide +kernel
theorem dX2_lineKind_4 : decode cX2_lineKind 4 = .ok (.ldc 71, 2) := by decide +kernel
theorem dX2_lineKind_6 : decode cX2_lineKind 6 = .ok (.invokevirtual 60, 3) := by decide +kernel
theorem dX2_lineKind_9 : decode cX2_lineKind 9 = .ok (.ifCond .eq 5, 3) := by decide +kernel
theorem dX2_lineKind_12 : decode cX2_lineKind 12 = .ok (.iconst 0, 1) := by decide +kernel
theorem dX2_lineKind_13 : decode cX2_lineKind 13 = .ok (.ireturn, 1) := by decide +kernel
theorem dX2_lineKind_14 : decode cX2_lineKind 14 = .ok (.aload_n 0, 1) := by decide +kernel
theorem dX2_lineKind_15 : decode cX2_lineKind 15 = .ok (.getfield 9, 3) := by decide +kernel
theorem dX2_lineKind_18 : decode cX2_lineKind 18 = .ok (.ldc 73, 2) := by decide +kernel
theorem dX2_lineKind_20 : decode cX2_lineKind 20 = .ok (.invokevirtual 60, 3) := by decide +kernel
theorem dX2_lineKind_23 : decode cX2_lineKind 23 = .ok (.ifCond .eq 5, 3) := by decide +kernel
theorem dX2_lineKind_26 : decode cX2_lineKind 26 = .ok (.iconst 1, 1) := by decide +kernel
theorem dX2_lineKind_27 : decode cX2_lineKind 27 = .ok (.ireturn, 1) := by decide +kernel
theorem dX2_lineKind_28 : decode cX2_lineKind 28 = .ok (.aload_n 0, 1) := by decide +kernel
theorem dX2_lineKind_29 : decode cX2_lineKind 29 = .ok (.getfield 9, 3) := by decide +kernel
theorem dX2_lineKind_32 : decode cX2_lineKind 32 = .ok (.ldc 75, 2) := by decide +kernel
theorem dX2_lineKind_34 : decode cX2_lineKind 34 = .ok (.invokevirtual 60, 3) := by decide +kernel
theorem dX2_lineKind_37 : decode cX2_lineKind 37 = .ok (.ifCond .eq 7, 3) := by decide +kernel
theorem dX2_lineKind_40 : decode cX2_lineKind 40 = .ok (.iconst 2, 1) := by decide +kernel
theorem dX2_lineKind_41 : decode cX2_lineKind 41 = .ok (.goto 4, 3) := by decide +kernel
theorem dX2_lineKind_44 : decode cX2_lineKind 44 = .ok (.iconst (-1), 1) := by decide +kernel
theorem dX2_lineKind_45 : decode cX2_lineKind 45 = .ok (.ireturn, 1) := by decide +kernel
theorem dX2_anyOf_0 : decode cX2_anyOf 0 = .ok (.aload_n 0, 1) := by decide +kernel
theorem dX2_anyOf_1 : decode cX2_anyOf 1 = .ok (.iload_n 1, 1) := by decide +kernel
theorem dX2_anyOf_2 : decode cX2_anyOf 2 = .ok (.invokevirtual 77, 3) := by decide +kernel
theorem dX2_anyOf_5 : decode cX2_anyOf 5 = .ok (.ifCond .ne 5, 3) := by decide +kernel
theorem dX2_anyOf_8 : decode cX2_anyOf 8 = .ok (.iconst 0, 1) := by decide +kernel
theorem dX2_anyOf_9 : decode cX2_anyOf 9 = .ok (.ireturn, 1) := by decide +kernel
theorem dX2_anyOf_10 : decode cX2_anyOf 10 = .ok (.iconst 0, 1) := by decide +kernel
theorem dX2_anyOf_11 : decode cX2_anyOf 11 = .ok (.istore_n 2, 1) := by decide +kernel
theorem dX2_anyOf_12 : decode cX2_anyOf 12 = .ok (.iload_n 2, 1) := by decide +kernel
theorem dX2_anyOf_13 : decode cX2_anyOf 13 = .ok (.sipush 400, 3) := by decide +kernel
theorem dX2_anyOf_16 : decode cX2_anyOf 16 = .ok (.if_icmp .ge 48, 3) := by decide +kernel
theorem dX2_anyOf_19 : decode cX2_anyOf 19 = .ok (.aload_n 0, 1) := by decide +kernel
theorem dX2_anyOf_20 : decode cX2_anyOf 20 = .ok (.getfield 9, 3) := by decide +kernel
theorem dX2_anyOf_23 : decode cX2_anyOf 23 = .ok (.ldc 80, 2) := by decide +kernel
theorem dX2_anyOf_25 : decode cX2_anyOf 25 = .ok (.invokevirtual 60, 3) := by decide +kernel
theorem dX2_anyOf_28 : decode cX2_anyOf 28 = .ok (.ifCond .eq 36, 3) := by decide +kernel
theorem dX2_anyOf_31 : decode cX2_anyOf 31 = .ok (.aload_n 0, 1) := by decide +kernel
theorem dX2_anyOf_32 : decode cX2_anyOf 32 = .ok (.getfield 9, 3) := by decide +kernel
theorem dX2_anyOf_35 : decode cX2_anyOf 35 = .ok (.invokevirtual 45, 3) := by decide +kernel
theorem dX2_anyOf_38 : decode cX2_anyOf 38 = .ok (.aload_n 0, 1) := by decide +kernel
theorem dX2_anyOf_39 : decode cX2_anyOf 39 = .ok (.iload_n 1, 1) := by decide +kernel
theorem dX2_anyOf_40 : decode cX2_anyOf 40 = .ok (.invokevirtual 77, 3) := by decide +kernel
theorem dX2_anyOf_43 : decode cX2_anyOf 43 = .ok (.ifCond .ne 5, 3) := by decide +kernel
theorem dX2_anyOf_46 : decode cX2_anyOf 46 = .ok (.iconst 0, 1) := by decide +kernel
theorem dX2_anyOf_47 : decode cX2_anyOf 47 = .ok (.ireturn, 1) := by decide +kernel
theorem dX2_anyOf_48 : decode cX2_anyOf 48 = .ok (.aload_n 0, 1) := by decide +kernel
theorem dX2_anyOf_49 : decode cX2_anyOf 49 = .ok (.getfield 15, 3) := by decide +kernel
theorem dX2_anyOf_52 : decode cX2_anyOf 52 = .ok (.sipush 1013, 3) := by decide +kernel
theorem dX2_anyOf_55 : decode cX2_anyOf 55 = .ok (.invokevirtual 82, 3) := by decide +kernel
theorem dX2_anyOf_58 : decode cX2_anyOf 58 = .ok (.iinc 2 1, 3) := by decide +kernel
theorem dX2_anyOf_61 : decode cX2_anyOf 61 = .ok (.goto (-49), 3) := by decide +kernel
theorem dX2_anyOf_64 : decode cX2_anyOf 64 = .ok (.iconst 1, 1) := by decide +kernel
theorem dX2_anyOf_65 : decode cX2_anyOf 65 = .ok (.ireturn, 1) := by decide +kernel
theorem dX2_allOf_0 : decode cX2_allOf 0 = .ok (.aload_n 0, 1) := by decide +kernel
theorem dX2_allOf_1 : decode cX2_allOf 1 = .ok (.iload_n 1, 1) := by decide +kernel
theorem dX2_allOf_2 : decode cX2_allOf 2 = .ok (.invokevirtual 86, 3) := by decide +kernel
theorem dX2_allOf_5 : decode cX2_allOf 5 = .ok (.ifCond .ne 5, 3) := by decide +kernel
theorem dX2_allOf_8 : decode cX2_allOf 8 = .ok (.iconst 0, 1) := by decide +kernel
theorem dX2_allOf_9 : decode cX2_allOf 9 = .ok (.ireturn, 1) := by decide +kernel
theorem dX2_allOf_10 : decode cX2_allOf 10 = .ok (.iconst 0, 1) := by decide +kernel
theorem dX2_allOf_11 : decode cX2_allOf 11 = .ok (.istore_n 2, 1) := by decide +kernel
theorem dX2_allOf_12 : decode cX2_allOf 12 = .ok (.iload_n 2, 1) := by decide +kernel
theorem dX2_allOf_13 : decode cX2_allOf 13 = .ok (.sipush 400, 3) := by decide +kernel
theorem dX2_allOf_16 : decode cX2_allOf 16 = .ok (.if_icmp .ge 48, 3) := by decide +kernel
theorem dX2_allOf_19 : decode cX2_allOf 19 = .ok (.aload_n 0, 1) := by decide +kernel
theorem dX2_allOf_20 : decode cX2_allOf 20 = .ok (.getfield 9, 3) := by decide +kernel
theorem dX2_allOf_23 : decode cX2_allOf 23 = .ok (.ldc 89, 2) := by decide +kernel
theorem dX2_allOf_25 : decode cX2_allOf 25 = .ok (.invokevirtual 60, 3) := by decide +kernel
theorem dX2_allOf_28 : decode cX2_allOf 28 = .ok (.ifCond .eq 36, 3) := by decide +kernel
theorem dX2_allOf_31 : decode cX2_allOf 31 = .ok (.aload_n 0, 1) := by decide +kernel
theorem dX2_allOf_32 : decode cX2_allOf 32 = .ok (.getfield 9, 3) := by decide +kernel
theorem dX2_allOf_35 : decode cX2_allOf 35 = .ok (.invokevirtual 45, 3) := by decide +kernel
theorem dX2_allOf_38 : decode cX2_allOf 38 = .ok (.aload_n 0, 1) := by decide +kernel
theorem dX2_allOf_39 : decode cX2_allOf 39 = .ok (.iload_n 1, 1) := by decide +kernel
theorem dX2_allOf_40 : decode cX2_allOf 40 = .ok (.invokevirtual 86, 3) := by decide +kernel
theorem dX2_allOf_43 : decode cX2_allOf 43 = .ok (.ifCond .ne 5, 3) := by decide +kernel
theorem dX2_allOf_46 : decode cX2_allOf 46 = .ok (.iconst 0, 1) := by decide +kernel
theorem dX2_allOf_47 : decode cX2_allOf 47 = .ok (.ireturn, 1) := by decide +kernel
theorem dX2_allOf_48 : decode cX2_allOf 48 = .ok (.aload_n 0, 1) := by decide +kernel
theorem dX2_allOf_49 : decode cX2_allOf 49 = .ok (.getfield 15, 3) := by decide +kernel
theorem dX2_allOf_52 : decode cX2_allOf 52 = .ok (.sipush 1012, 3) := by decide +kernel
theorem dX2_allOf_55 : decode cX2_allOf 55 = .ok (.invokevirtual 82, 3) := by decide +kernel
theorem dX2_allOf_58 : decode cX2_allOf 58 = .ok (.iinc 2 1, 3) := by decide +kernel
theorem dX2_allOf_61 : decode cX2_allOf 61 = .ok (.goto (-49), 3) := by decide +kernel
theorem dX2_allOf_64 : decode cX2_allOf 64 = .ok (.iconst 1, 1) := by decide +kernel
theorem dX2_allOf_65 : decode cX2_allOf 65 = .ok (.ireturn, 1) := by decide +kernel
theorem dX2_atom_0 : decode cX2_atom 0 = .ok (.aload_n 0, 1) := by decide +kernel
theorem dX2_atom_1 : decode cX2_atom 1 = .ok (.getfield 9, 3) := by decide +kernel
theorem dX2_atom_4 : decode cX2_atom 4 = .ok (.ldc 91, 2) := by decide +kernel
theorem dX2_atom_6 : decode cX2_atom 6 = .ok (.invokevirtual 60, 3) := by decide +kernel
theorem dX2_atom_9 : decode cX2_atom 9 = .ok (.ifCond .eq 25, 3) := by decide +kernel
theorem dX2_atom_12 : decode cX2_atom 12 = .ok (.iload_n 1, 1) := by decide +kernel
theorem dX2_atom_13 : decode cX2_atom 13 = .ok (.bipush 6, 2) := by decide +kernel
theorem dX2_atom_15 : decode cX2_atom 15 = .ok (.if_icmp .ge 17, 3) := by decide +kernel
theorem dX2_atom_18 : decode cX2_atom 18 = .ok (.aload_n 0, 1) := by decide +kernel
theorem dX2_atom_19 : decode cX2_atom 19 = .ok (.iload_n 1, 1) := by decide +kernel
theorem dX2_atom_20 : decode cX2_atom 20 = .ok (.iconst 1, 1) := by decide +kernel
theorem dX2_atom_21 : decode cX2_atom 21 = .ok (.iadd, 1) := by decide +kernel
theorem dX2_atom_22 : decode cX2_atom 22 = .ok (.invokevirtual 93, 3) := by decide +kernel
theorem dX2_atom_25 : decode cX2_atom 25 = .ok (.ifCond .eq 7, 3) := by decide +kernel
theorem dX2_atom_28 : decode cX2_atom 28 = .ok (.iconst 1, 1) := by decide +kernel
theorem dX2_atom_29 : decode cX2_atom 29 = .ok (.goto 4, 3) := by decide +kernel
theorem dX2_atom_32 : decode cX2_atom 32 = .ok (.iconst 0, 1) := by decide +kernel
theorem dX2_atom_33 : decode cX2_atom 33 = .ok (.ireturn, 1) := by decide +kernel
theorem dX2_atom_34 : decode cX2_atom 34 = .ok (.aload_n 0, 1) := by decide +kernel
theorem dX2_atom_35 : decode cX2_atom 35 = .ok (.getfield 9, 3) := by decide +kernel
theorem dX2_atom_38 : decode cX2_atom 38 = .ok (.bipush 40, 2) := by decide +kernel
theorem dX2_atom_40 : decode cX2_atom 40 = .ok (.invokevirtual 96, 3) := by decide +kernel
theorem dX2_atom_43 : decode cX2_atom 43 = .ok (.ifCond .eq 25, 3) := by decide +kernel
theorem dX2_atom_46 : decode cX2_atom 46 = .ok (.iload_n 1, 1) := by decide +kernel
theorem dX2_atom_47 : decode cX2_atom 47 = .ok (.bipush 6, 2) := by decide +kernel
theorem dX2_atom_49 : decode cX2_atom 49 = .ok (.if_icmp .ge 17, 3) := by decide +kernel
theorem dX2_atom_52 : decode cX2_atom 52 = .ok (.aload_n 0, 1) := by decide +kernel
theorem dX2_atom_53 : decode cX2_atom 53 = .ok (.iload_n 1, 1) := by decide +kernel
theorem dX2_atom_54 : decode cX2_atom 54 = .ok (.iconst 1, 1) := by decide +kernel
theorem dX2_atom_55 : decode cX2_atom 55 = .ok (.iadd, 1) := by decide +kernel
theorem dX2_atom_56 : decode cX2_atom 56 = .ok (.invokevirtual 99, 3) := by decide +kernel
theorem dX2_atom_59 : decode cX2_atom 59 = .ok (.ifCond .eq 7, 3) := by decide +kernel
theorem dX2_atom_62 : decode cX2_atom 62 = .ok (.iconst 1, 1) := by decide +kernel
theorem dX2_atom_63 : decode cX2_atom 63 = .ok (.goto 4, 3) := by decide +kernel
theorem dX2_atom_66 : decode cX2_atom 66 = .ok (.iconst 0, 1) := by decide +kernel
theorem dX2_atom_67 : decode cX2_atom 67 = .ok (.ireturn, 1) := by decide +kernel
theorem dX2_atom_68 : decode cX2_atom 68 = .ok (.aload_n 0, 1) := by decide +kernel
theorem dX2_atom_69 : decode cX2_atom 69 = .ok (.getfield 9, 3) := by decide +kernel
theorem dX2_atom_72 : decode cX2_atom 72 = .ok (.ldc 102, 2) := by decide +kernel
theorem dX2_atom_74 : decode cX2_atom 74 = .ok (.invokevirtual 60, 3) := by decide +kernel
theorem dX2_atom_77 : decode cX2_atom 77 = .ok (.ifCond .eq 22, 3) := by decide +kernel
theorem dX2_atom_80 : decode cX2_atom 80 = .ok (.aload_n 0, 1) := by decide +kernel
theorem dX2_atom_81 : decode cX2_atom 81 = .ok (.getfield 9, 3) := by decide +kernel
theorem dX2_atom_84 : decode cX2_atom 84 = .ok (.invokevirtual 45, 3) := by decide +kernel
theorem dX2_atom_87 : decode cX2_atom 87 = .ok (.aload_n 0, 1) := by decide +kernel
theorem dX2_atom_88 : decode cX2_atom 88 = .ok (.getfield 15, 3) := by decide +kernel
theorem dX2_atom_91 : decode cX2_atom 91 = .ok (.sipush 1007, 3) := by decide +kernel
theorem dX2_atom_94 : decode cX2_atom 94 = .ok (.invokevirtual 82, 3) := by decide +kernel
theorem dX2_atom_97 : decode cX2_atom 97 = .ok (.iconst 1, 1) := by decide +kernel
theorem dX2_atom_98 : decode cX2_atom 98 = .ok (.ireturn, 1) := by decide +kernel
theorem dX2_atom_99 : decode cX2_atom 99 = .ok (.aload_n 0, 1) := by decide +kernel
theorem dX2_atom_100 : decode cX2_atom 100 = .ok (.invokevirtual 104, 3) := by decide +kernel
theorem dX2_atom_103 : decode cX2_atom 103 = .ok (.ifCond .ne 5, 3) := by decide +kernel
theorem dX2_atom_106 : decode cX2_atom 106 = .ok (.iconst 0, 1) := by decide +kernel
theorem dX2_atom_107 : decode cX2_atom 107 = .ok (.ireturn, 1) := by decide +kernel
theorem dX2_atom_108 : decode cX2_atom 108 = .ok (.aload_n 0, 1) := by decide +kernel
theorem dX2_atom_109 : decode cX2_atom 109 = .ok (.getfield 9, 3) := by decide +kernel
theorem dX2_atom_112 : decode cX2_atom 112 = .ok (.bipush 60, 2) := by decide +kernel
theorem dX2_atom_114 : decode cX2_atom 114 = .ok (.invokevirtual 96, 3) := by decide +kernel
theorem dX2_atom_117 : decode cX2_atom 117 = .ok (.ifCond .eq 9, 3) := by decide +kernel
theorem dX2_atom_120 : decode cX2_atom 120 = .ok (.sipush 1009, 3) := by decide +kernel
theorem dX2_atom_123 : decode cX2_atom 123 = .ok (.goto 6, 3) := by decide +kernel
theorem dX2_atom_126 : decode cX2_atom 126 = .ok (.sipush 1010, 3) := by decide +kernel
theorem dX2_atom_129 : decode cX2_atom 129 = .ok (.istore_n 2, 1) := by decide +kernel
theorem dX2_atom_130 : decode cX2_atom 130 = .ok (.iload_n 2, 1) := by decide +kernel
theorem dX2_atom_131 : decode cX2_atom 131 = .ok (.sipush 1010, 3) := by decide +kernel
theorem dX2_atom_134 : decode cX2_atom 134 = .ok (.if_icmp .ne 17, 3) := by decide +kernel
theorem dX2_atom_137 : decode cX2_atom 137 = .ok (.aload_n 0, 1) := by decide +kernel
theorem dX2_atom_138 : decode cX2_atom 138 = .ok (.getfield 9, 3) := by decide +kernel
theorem dX2_atom_141 : decode cX2_atom 141 = .ok (.bipush 62, 2) := by decide +kernel
theorem dX2_atom_143 : decode cX2_atom 143 = .ok (.invokevirtual 96, 3) := by decide +kernel
theorem dX2_atom_146 : decode cX2_atom 146 = .ok (.ifCond .ne 5, 3) := by decide +kernel
theorem dX2_atom_149 : decode cX2_atom 149 = .ok (.iconst 0, 1) := by decide +kernel
theorem dX2_atom_150 : decode cX2_atom 150 = .ok (.ireturn, 1) := by decide +kernel
theorem dX2_atom_151 : decode cX2_atom 151 = .ok (.aload_n 0, 1) := by decide +kernel
theorem dX2_atom_152 : decode cX2_atom 152 = .ok (.getfield 9, 3) := by decide +kernel
theorem dX2_atom_155 : decode cX2_atom 155 = .ok (.invokevirtual 45, 3) := by decide +kernel
theorem dX2_atom_158 : decode cX2_atom 158 = .ok (.aload_n 0, 1) := by decide +kernel
theorem dX2_atom_159 : decode cX2_atom 159 = .ok (.invokevirtual 104, 3) := by decide +kernel
theorem dX2_atom_162 : decode cX2_atom 162 = .ok (.ifCond .ne 5, 3) := by decide +kernel
theorem dX2_atom_165 : decode cX2_atom 165 = .ok (.iconst 0, 1) := by decide +kernel
theorem dX2_atom_166 : decode cX2_atom 166 = .ok (.ireturn, 1) := by decide +kernel
theorem dX2_atom_167 : decode cX2_atom 167 = .ok (.aload_n 0, 1) := by decide +kernel
theorem dX2_atom_168 : decode cX2_atom 168 = .ok (.getfield 15, 3) := by decide +kernel
theorem dX2_atom_171 : decode cX2_atom 171 = .ok (.iload_n 2, 1) := by decide +kernel
theorem dX2_atom_172 : decode cX2_atom 172 = .ok (.invokevirtual 82, 3) := by decide +kernel
theorem dX2_atom_175 : decode cX2_atom 175 = .ok (.iconst 1, 1) := by decide +kernel
theorem dX2_atom_176 : decode cX2_atom 176 = .ok (.ireturn, 1) := by decide +kernel
theorem dX2_denied_0 : decode cX2_denied 0 = .ok (.aload_n 0, 1) := by decide +kernel
theorem dX2_denied_1 : decode cX2_denied 1 = .ok (.getfield 9, 3) := by decide +kernel
theorem dX2_denied_4 : decode cX2_denied 4 = .ok (.invokevirtual 45, 3) := by decide +kernel
theorem dX2_denied_7 : decode cX2_denied 7 = .ok (.aload_n 0, 1) := by decide +kernel
theorem dX2_denied_8 : decode cX2_denied 8 = .ok (.iload_n 1, 1) := by decide +kernel
theorem dX2_denied_9 : decode cX2_denied 9 = .ok (.invokevirtual 86, 3) := by decide +kernel
theorem dX2_denied_12 : decode cX2_denied 12 = .ok (.ifCond .ne 5, 3) := by decide +kernel
theorem dX2_denied_15 : decode cX2_denied 15 = .ok (.iconst 0, 1) := by decide +kernel
theorem dX2_denied_16 : decode cX2_denied 16 = .ok (.ireturn, 1) := by decide +kernel
theorem dX2_denied_17 : decode cX2_denied 17 = .ok (.aload_n 0, 1) := by decide +kernel
theorem dX2_denied_18 : decode cX2_denied 18 = .ok (.getfield 15, 3) := by decide +kernel
theorem dX2_denied_21 : decode cX2_denied 21 = .ok (.sipush 1011, 3) := by decide +kernel
theorem dX2_denied_24 : decode cX2_denied 24 = .ok (.invokevirtual 82, 3) := by decide +kernel
theorem dX2_denied_27 : decode cX2_denied 27 = .ok (.iconst 1, 1) := by decide +kernel
theorem dX2_denied_28 : decode cX2_denied 28 = .ok (.ireturn, 1) := by decide +kernel
theorem dX2_bracketed_0 : decode cX2_bracketed 0 = .ok (.aload_n 0, 1) := by decide +kernel
theorem dX2_bracketed_1 : decode cX2_bracketed 1 = .ok (.getfield 9, 3) := by decide +kernel
theorem dX2_bracketed_4 : decode cX2_bracketed 4 = .ok (.invokevirtual 45, 3) := by decide +kernel
theorem dX2_bracketed_7 : decode cX2_bracketed 7 = .ok (.aload_n 0, 1) := by decide +kernel
theorem dX2_bracketed_8 : decode cX2_bracketed 8 = .ok (.iload_n 1, 1) := by decide +kernel
theorem dX2_bracketed_9 : decode cX2_bracketed 9 = .ok (.invokevirtual 64, 3) := by decide +kernel
theorem dX2_bracketed_12 : decode cX2_bracketed 12 = .ok (.ifCond .eq 19, 3) := by decide +kernel
theorem dX2_bracketed_15 : decode cX2_bracketed 15 = .ok (.aload_n 0, 1) := by decide +kernel
theorem dX2_bracketed_16 : decode cX2_bracketed 16 = .ok (.getfield 9, 3) := by decide +kernel
theorem dX2_bracketed_19 : decode cX2_bracketed 19 = .ok (.bipush 41, 2) := by decide +kernel
theorem dX2_bracketed_21 : decode cX2_bracketed 21 = .ok (.invokevirtual 37, 3) := by decide +kernel
theorem dX2_bracketed_24 : decode cX2_bracketed 24 = .ok (.ifCond .eq 7, 3) := by decide +kernel
theorem dX2_bracketed_27 : decode cX2_bracketed 27 = .ok (.iconst 1, 1) := by decide +kernel
theorem dX2_bracketed_28 : decode cX2_bracketed 28 = .ok (.goto 4, 3) := by decide +kernel
theorem dX2_bracketed_31 : decode cX2_bracketed 31 = .ok (.iconst 0, 1) := by decide +kernel
theorem dX2_bracketed_32 : decode cX2_bracketed 32 = .ok (.ireturn, 1) := by decide +kernel
theorem dX2_sum_0 : decode cX2_sum 0 = .ok (.iconst 0, 1) := by decide +kernel
theorem dX2_sum_1 : decode cX2_sum 1 = .ok (.istore_n 1, 1) := by decide +kernel
theorem dX2_sum_2 : decode cX2_sum 2 = .ok (.iload_n 1, 1) := by decide +kernel
theorem dX2_sum_3 : decode cX2_sum 3 = .ok (.sipush 400, 3) := by decide +kernel
theorem dX2_sum_6 : decode cX2_sum 6 = .ok (.if_icmp .ge 95, 3) := by decide +kernel
theorem dX2_sum_9 : decode cX2_sum 9 = .ok (.aload_n 0, 1) := by decide +kernel
theorem dX2_sum_10 : decode cX2_sum 10 = .ok (.getfield 9, 3) := by decide +kernel
theorem dX2_sum_13 : decode cX2_sum 13 = .ok (.iconst 0, 1) := by decide +kernel
theorem dX2_sum_14 : decode cX2_sum 14 = .ok (.sipush 999, 3) := by decide +kernel
theorem dX2_sum_17 : decode cX2_sum 17 = .ok (.invokevirtual 48, 3) := by decide +kernel
theorem dX2_sum_20 : decode cX2_sum 20 = .ok (.ifCond .eq 13, 3) := by decide +kernel
theorem dX2_sum_23 : decode cX2_sum 23 = .ok (.aload_n 0, 1) := by decide +kernel
theorem dX2_sum_24 : decode cX2_sum 24 = .ok (.getfield 9, 3) := by decide +kernel
theorem dX2_sum_27 : decode cX2_sum 27 = .ok (.getfield 52, 3) := by decide +kernel
theorem dX2_sum_30 : decode cX2_sum 30 = .ok (.goto 7, 3) := by decide +kernel
theorem dX2_sum_33 : decode cX2_sum 33 = .ok (.aload_n 0, 1) := by decide +kernel
theorem dX2_sum_34 : decode cX2_sum 34 = .ok (.invokevirtual 107, 3) := by decide +kernel
theorem dX2_sum_37 : decode cX2_sum 37 = .ok (.istore_n 2, 1) := by decide +kernel
theorem dX2_sum_38 : decode cX2_sum 38 = .ok (.iload_n 2, 1) := by decide +kernel
theorem dX2_sum_39 : decode cX2_sum 39 = .ok (.iconst (-1), 1) := by decide +kernel
theorem dX2_sum_40 : decode cX2_sum 40 = .ok (.if_icmp .ne 5, 3) := by decide +kernel
theorem dX2_sum_43 : decode cX2_sum 43 = .ok (.iconst 0, 1) := by decide +kernel
theorem dX2_sum_44 : decode cX2_sum 44 = .ok (.ireturn, 1) := by decide +kernel
theorem dX2_sum_45 : decode cX2_sum 45 = .ok (.aload_n 0, 1) := by decide +kernel
theorem dX2_sum_46 : decode cX2_sum 46 = .ok (.getfield 15, 3) := by decide +kernel
theorem dX2_sum_49 : decode cX2_sum 49 = .ok (.iload_n 2, 1) := by decide +kernel
theorem dX2_sum_50 : decode cX2_sum 50 = .ok (.invokevirtual 82, 3) := by decide +kernel
theorem dX2_sum_53 : decode cX2_sum 53 = .ok (.iload_n 1, 1) := by decide +kernel
theorem dX2_sum_54 : decode cX2_sum 54 = .ok (.ifCond .le 13, 3) := by decide +kernel
theorem dX2_sum_57 : decode cX2_sum 57 = .ok (.aload_n 0, 1) := by decide +kernel
theorem dX2_sum_58 : decode cX2_sum 58 = .ok (.getfield 15, 3) := by decide +kernel
theorem dX2_sum_61 : decode cX2_sum 61 = .ok (.sipush 1008, 3) := by decide +kernel
theorem dX2_sum_64 : decode cX2_sum 64 = .ok (.invokevirtual 82, 3) := by decide +kernel
theorem dX2_sum_67 : decode cX2_sum 67 = .ok (.aload_n 0, 1) := by decide +kernel
theorem dX2_sum_68 : decode cX2_sum 68 = .ok (.getfield 9, 3) := by decide +kernel
theorem dX2_sum_71 : decode cX2_sum 71 = .ok (.invokevirtual 45, 3) := by decide +kernel
theorem dX2_sum_74 : decode cX2_sum 74 = .ok (.aload_n 0, 1) := by decide +kernel
theorem dX2_sum_75 : decode cX2_sum 75 = .ok (.getfield 9, 3) := by decide +kernel
theorem dX2_sum_78 : decode cX2_sum 78 = .ok (.bipush 43, 2) := by decide +kernel
theorem dX2_sum_80 : decode cX2_sum 80 = .ok (.invokevirtual 96, 3) := by decide +kernel
theorem dX2_sum_83 : decode cX2_sum 83 = .ok (.ifCond .ne 5, 3) := by decide +kernel
theorem dX2_sum_86 : decode cX2_sum 86 = .ok (.iconst 1, 1) := by decide +kernel
theorem dX2_sum_87 : decode cX2_sum 87 = .ok (.ireturn, 1) := by decide +kernel
theorem dX2_sum_88 : decode cX2_sum 88 = .ok (.aload_n 0, 1) := by decide +kernel
theorem dX2_sum_89 : decode cX2_sum 89 = .ok (.getfield 9, 3) := by decide +kernel
theorem dX2_sum_92 : decode cX2_sum 92 = .ok (.invokevirtual 45, 3) := by decide +kernel
theorem dX2_sum_95 : decode cX2_sum 95 = .ok (.iinc 1 1, 3) := by decide +kernel
theorem dX2_sum_98 : decode cX2_sum 98 = .ok (.goto (-96), 3) := by decide +kernel
theorem dX2_sum_101 : decode cX2_sum 101 = .ok (.iconst 0, 1) := by decide +kernel
theorem dX2_sum_102 : decode cX2_sum 102 = .ok (.ireturn, 1) := by decide +kernel
theorem dX2_partWord_0 : decode cX2_partWord 0 = .ok (.aload_n 0, 1) := by decide +kernel
theorem dX2_partWord_1 : decode cX2_partWord 1 = .ok (.getfield 9, 3) := by decide +kernel
theorem dX2_partWord_4 : decode cX2_partWord 4 = .ok (.ldc 110, 2) := by decide +kernel
theorem dX2_partWord_6 : decode cX2_partWord 6 = .ok (.invokevirtual 60, 3) := by decide +kernel
theorem dX2_partWord_9 : decode cX2_partWord 9 = .ok (.ifCond .eq 7, 3) := by decide +kernel
theorem dX2_partWord_12 : decode cX2_partWord 12 = .ok (.sipush 1000, 3) := by decide +kernel
theorem dX2_partWord_15 : decode cX2_partWord 15 = .ok (.ireturn, 1) := by decide +kernel
theorem dX2_partWord_16 : decode cX2_partWord 16 = .ok (.aload_n 0, 1) := by decide +kernel
theorem dX2_partWord_17 : decode cX2_partWord 17 = .ok (.getfield 9, 3) := by decide +kernel
theorem dX2_partWord_20 : decode cX2_partWord 20 = .ok (.ldc 112, 2) := by decide +kernel
theorem dX2_partWord_22 : decode cX2_partWord 22 = .ok (.invokevirtual 60, 3) := by decide +kernel
theorem dX2_partWord_25 : decode cX2_partWord 25 = .ok (.ifCond .eq 7, 3) := by decide +kernel
theorem dX2_partWord_28 : decode cX2_partWord 28 = .ok (.sipush 1001, 3) := by decide +kernel
theorem dX2_partWord_31 : decode cX2_partWord 31 = .ok (.ireturn, 1) := by decide +kernel
theorem dX2_partWord_32 : decode cX2_partWord 32 = .ok (.aload_n 0, 1) := by decide +kernel
theorem dX2_partWord_33 : decode cX2_partWord 33 = .ok (.getfield 9, 3) := by decide +kernel
theorem dX2_partWord_36 : decode cX2_partWord 36 = .ok (.ldc 114, 2) := by decide +kernel
theorem dX2_partWord_38 : decode cX2_partWord 38 = .ok (.invokevirtual 60, 3) := by decide +kernel
theorem dX2_partWord_41 : decode cX2_partWord 41 = .ok (.ifCond .eq 7, 3) := by decide +kernel
theorem dX2_partWord_44 : decode cX2_partWord 44 = .ok (.sipush 1002, 3) := by decide +kernel
theorem dX2_partWord_47 : decode cX2_partWord 47 = .ok (.ireturn, 1) := by decide +kernel
theorem dX2_partWord_48 : decode cX2_partWord 48 = .ok (.aload_n 0, 1) := by decide +kernel
theorem dX2_partWord_49 : decode cX2_partWord 49 = .ok (.getfield 9, 3) := by decide +kernel
theorem dX2_partWord_52 : decode cX2_partWord 52 = .ok (.ldc 116, 2) := by decide +kernel
theorem dX2_partWord_54 : decode cX2_partWord 54 = .ok (.invokevirtual 60, 3) := by decide +kernel
theorem dX2_partWord_57 : decode cX2_partWord 57 = .ok (.ifCond .eq 7, 3) := by decide +kernel
theorem dX2_partWord_60 : decode cX2_partWord 60 = .ok (.sipush 1003, 3) := by decide +kernel
theorem dX2_partWord_63 : decode cX2_partWord 63 = .ok (.ireturn, 1) := by decide +kernel
theorem dX2_partWord_64 : decode cX2_partWord 64 = .ok (.aload_n 0, 1) := by decide +kernel
theorem dX2_partWord_65 : decode cX2_partWord 65 = .ok (.getfield 9, 3) := by decide +kernel
theorem dX2_partWord_68 : decode cX2_partWord 68 = .ok (.ldc 118, 2) := by decide +kernel
theorem dX2_partWord_70 : decode cX2_partWord 70 = .ok (.invokevirtual 60, 3) := by decide +kernel
theorem dX2_partWord_73 : decode cX2_partWord 73 = .ok (.ifCond .eq 7, 3) := by decide +kernel
theorem dX2_partWord_76 : decode cX2_partWord 76 = .ok (.sipush 1004, 3) := by decide +kernel
theorem dX2_partWord_79 : decode cX2_partWord 79 = .ok (.ireturn, 1) := by decide +kernel
theorem dX2_partWord_80 : decode cX2_partWord 80 = .ok (.aload_n 0, 1) := by decide +kernel
theorem dX2_partWord_81 : decode cX2_partWord 81 = .ok (.getfield 9, 3) := by decide +kernel
theorem dX2_partWord_84 : decode cX2_partWord 84 = .ok (.ldc 120, 2) := by decide +kernel
theorem dX2_partWord_86 : decode cX2_partWord 86 = .ok (.invokevirtual 60, 3) := by decide +kernel
theorem dX2_partWord_89 : decode cX2_partWord 89 = .ok (.ifCond .eq 7, 3) := by decide +kernel
theorem dX2_partWord_92 : decode cX2_partWord 92 = .ok (.sipush 1005, 3) := by decide +kernel
theorem dX2_partWord_95 : decode cX2_partWord 95 = .ok (.ireturn, 1) := by decide +kernel
theorem dX2_partWord_96 : decode cX2_partWord 96 = .ok (.aload_n 0, 1) := by decide +kernel
theorem dX2_partWord_97 : decode cX2_partWord 97 = .ok (.getfield 9, 3) := by decide +kernel
theorem dX2_partWord_100 : decode cX2_partWord 100 = .ok (.ldc 122, 2) := by decide +kernel
theorem dX2_partWord_102 : decode cX2_partWord 102 = .ok (.invokevirtual 60, 3) := by decide +kernel
theorem dX2_partWord_105 : decode cX2_partWord 105 = .ok (.ifCond .eq 9, 3) := by decide +kernel
theorem dX2_partWord_108 : decode cX2_partWord 108 = .ok (.sipush 1006, 3) := by decide +kernel
theorem dX2_partWord_111 : decode cX2_partWord 111 = .ok (.goto 4, 3) := by decide +kernel
theorem dX2_partWord_114 : decode cX2_partWord 114 = .ok (.iconst (-1), 1) := by decide +kernel
theorem dX2_partWord_115 : decode cX2_partWord 115 = .ok (.ireturn, 1) := by decide +kernel
theorem dX3_init_0 : decode cX3_init 0 = .ok (.aload_n 0, 1) := by decide +kernel
theorem dX3_init_1 : decode cX3_init 1 = .ok (.invokespecial 3, 3) := by decide +kernel
theorem dX3_init_4 : decode cX3_init 4 = .ok (.aload_n 0, 1) := by decide +kernel
theorem dX3_init_5 : decode cX3_init 5 = .ok (.bipush 16, 2) := by decide +kernel
theorem dX3_init_7 : decode cX3_init 7 = .ok (.newarray .int, 2) := by decide +kernel
theorem dX3_init_9 : decode cX3_init 9 = .ok (.putfield 9, 3) := by decide +kernel
theorem dX3_init_12 : decode cX3_init 12 = .ok (.aload_n 0, 1) := by decide +kernel
theorem dX3_init_13 : decode cX3_init 13 = .ok (.bipush 16, 2) := by decide +kernel
theorem dX3_init_15 : decode cX3_init 15 = .ok (.newarray .int, 2) := by decide +kernel
theorem dX3_init_17 : decode cX3_init 17 = .ok (.putfield 15, 3) := by decide +kernel
theorem dX3_init_20 : decode cX3_init 20 = .ok (.aload_n 0, 1) := by decide +kernel
theorem dX3_init_21 : decode cX3_init 21 = .ok (.bipush 16, 2) := by decide +kernel
theorem dX3_init_23 : decode cX3_init 23 = .ok (.newarray .int, 2) := by decide +kernel
theorem dX3_init_25 : decode cX3_init 25 = .ok (.putfield 18, 3) := by decide +kernel
theorem dX3_init_28 : decode cX3_init 28 = .ok (.aload_n 0, 1) := by decide +kernel
theorem dX3_init_29 : decode cX3_init 29 = .ok (.bipush 16, 2) := by decide +kernel
theorem dX3_init_31 : decode cX3_init 31 = .ok (.newarray .int, 2) := by decide +kernel
theorem dX3_init_33 : decode cX3_init 33 = .ok (.putfield 21, 3) := by decide +kernel
theorem dX3_init_36 : decode cX3_init 36 = .ok (.aload_n 0, 1) := by decide +kernel
theorem dX3_init_37 : decode cX3_init 37 = .ok (.bipush 16, 2) := by decide +kernel
theorem dX3_init_39 : decode cX3_init 39 = .ok (.newarray .int, 2) := by decide +kernel
theorem dX3_init_41 : decode cX3_init 41 = .ok (.putfield 24, 3) := by decide +kernel
theorem dX3_init_44 : decode cX3_init 44 = .ok (.aload_n 0, 1) := by decide +kernel
theorem dX3_init_45 : decode cX3_init 45 = .ok (.bipush 10, 2) := by decide +kernel
theorem dX3_init_47 : decode cX3_init 47 = .ok (.newarray .int, 2) := by decide +kernel
theorem dX3_init_49 : decode cX3_init 49 = .ok (.putfield 27, 3) := by decide +kernel
theorem dX3_init_52 : decode cX3_init 52 = .ok (.aload_n 0, 1) := by decide +kernel
theorem dX3_init_53 : decode cX3_init 53 = .ok (.bipush 10, 2) := by decide +kernel
theorem dX3_init_55 : decode cX3_init 55 = .ok (.newarray .int, 2) := by decide +kernel
theorem dX3_init_57 : decode cX3_init 57 = .ok (.putfield 30, 3) := by decide +kernel
theorem dX3_init_60 : decode cX3_init 60 = .ok (.aload_n 0, 1) := by decide +kernel
theorem dX3_init_61 : decode cX3_init 61 = .ok (.bipush 10, 2) := by decide +kernel
theorem dX3_init_63 : decode cX3_init 63 = .ok (.newarray .int, 2) := by decide +kernel
theorem dX3_init_65 : decode cX3_init 65 = .ok (.putfield 33, 3) := by decide +kernel
theorem dX3_init_68 : decode cX3_init 68 = .ok (.aload_n 0, 1) := by decide +kernel
theorem dX3_init_69 : decode cX3_init 69 = .ok (.bipush 60, 2) := by decide +kernel
theorem dX3_init_71 : decode cX3_init 71 = .ok (.newarray .int, 2) := by decide +kernel
theorem dX3_init_73 : decode cX3_init 73 = .ok (.putfield 36, 3) := by decide +kernel
theorem dX3_init_76 : decode cX3_init 76 = .ok (.aload_n 0, 1) := by decide +kernel
theorem dX3_init_77 : decode cX3_init 77 = .ok (.bipush 10, 2) := by decide +kernel
theorem dX3_init_79 : decode cX3_init 79 = .ok (.newarray .int, 2) := by decide +kernel
theorem dX3_init_81 : decode cX3_init 81 = .ok (.putfield 39, 3) := by decide +kernel
theorem dX3_init_84 : decode cX3_init 84 = .ok (.aload_n 0, 1) := by decide +kernel
theorem dX3_init_85 : decode cX3_init 85 = .ok (.bipush 10, 2) := by decide +kernel
theorem dX3_init_87 : decode cX3_init 87 = .ok (.newarray .int, 2) := by decide +kernel
theorem dX3_init_89 : decode cX3_init 89 = .ok (.putfield 42, 3) := by decide +kernel
theorem dX3_init_92 : decode cX3_init 92 = .ok (.aload_n 0, 1) := by decide +kernel
theorem dX3_init_93 : decode cX3_init 93 = .ok (.iconst 2, 1) := by decide +kernel
theorem dX3_init_94 : decode cX3_init 94 = .ok (.newarray .int, 2) := by decide +kernel
theorem dX3_init_96 : decode cX3_init 96 = .ok (.putfield 45, 3) := by decide +kernel
theorem dX3_init_99 : decode cX3_init 99 = .ok (.return_, 1) := by decide +kernel
theorem dX3_copyFrom_0 : decode cX3_copyFrom 0 = .ok (.aload_n 0, 1) := by decide +kernel
theorem dX3_copyFrom_1 : decode cX3_copyFrom 1 = .ok (.aload_n 1, 1) := by decide +kernel
theorem dX3_copyFrom_2 : decode cX3_copyFrom 2 = .ok (.getfield 48, 3) := by decide +kernel
theorem dX3_copyFrom_5 : decode cX3_copyFrom 5 = .ok (.putfield 48, 3) := by decide +kernel
theorem dX3_copyFrom_8 : decode cX3_copyFrom 8 = .ok (.aload_n 0, 1) := by decide +kernel
theorem dX3_copyFrom_9 : decode cX3_copyFrom 9 = .ok (.aload_n 1, 1) := by decide +kernel
theorem dX3_copyFrom_10 : decode cX3_copyFrom 10 = .ok (.getfield 52, 3) := by decide +kernel
theorem dX3_copyFrom_13 : decode cX3_copyFrom 13 = .ok (.putfield 52, 3) := by decide +kernel
theorem dX3_copyFrom_16 : decode cX3_copyFrom 16 = .ok (.aload_n 0, 1) := by decide +kernel
theorem dX3_copyFrom_17 : decode cX3_copyFrom 17 = .ok (.aload_n 1, 1) := by decide +kernel
theorem dX3_copyFrom_18 : decode cX3_copyFrom 18 = .ok (.getfield 55, 3) := by decide +kernel
theorem dX3_copyFrom_21 : decode cX3_copyFrom 21 = .ok (.putfield 55, 3) := by decide +kernel
theorem dX3_copyFrom_24 : decode cX3_copyFrom 24 = .ok (.aload_n 0, 1) := by decide +kernel
theorem dX3_copyFrom_25 : decode cX3_copyFrom 25 = .ok (.aload_n 1, 1) := by decide +kernel
theorem dX3_copyFrom_26 : decode cX3_copyFrom 26 = .ok (.getfield 58, 3) := by decide +kernel
theorem dX3_copyFrom_29 : decode cX3_copyFrom 29 = .ok (.putfield 58, 3) := by decide +kernel
theorem dX3_copyFrom_32 : decode cX3_copyFrom 32 = .ok (.aload_n 1, 1) := by decide +kernel
theorem dX3_copyFrom_33 : decode cX3_copyFrom 33 = .ok (.getfield 9, 3) := by decide +kernel
theorem dX3_copyFrom_36 : decode cX3_copyFrom 36 = .ok (.aload_n 0, 1) := by decide +kernel
theorem dX3_copyFrom_37 : decode cX3_copyFrom 37 = .ok (.getfield 9, 3) := by decide +kernel
theorem dX3_copyFrom_40 : decode cX3_copyFrom 40 = .ok (.invokestatic 61, 3) := by decide +kernel
theorem dX3_copyFrom_43 : decode cX3_copyFrom 43 = .ok (.aload_n 1, 1) := by decide +kernel
theorem dX3_copyFrom_44 : decode cX3_copyFrom 44 = .ok (.getfield 15, 3) := by decide +kernel
theorem dX3_copyFrom_47 : decode cX3_copyFrom 47 = .ok (.aload_n 0, 1) := by decide +kernel
theorem dX3_copyFrom_48 : decode cX3_copyFrom 48 = .ok (.getfield 15, 3) := by decide +kernel
theorem dX3_copyFrom_51 : decode cX3_copyFrom 51 = .ok (.invokestatic 61, 3) := by decide +kernel
theorem dX3_copyFrom_54 : decode cX3_copyFrom 54 = .ok (.aload_n 1, 1) := by decide +kernel
theorem dX3_copyFrom_55 : decode cX3_copyFrom 55 = .ok (.getfield 18, 3) := by decide +kernel
theorem dX3_copyFrom_58 : decode cX3_copyFrom 58 = .ok (.aload_n 0, 1) := by decide +kernel
theorem dX3_copyFrom_59 : decode cX3_copyFrom 59 = .ok (.getfield 18, 3) := by decide +kernel
theorem dX3_copyFrom_62 : decode cX3_copyFrom 62 = .ok (.invokestatic 61, 3) := by decide +kernel
theorem dX3_copyFrom_65 : decode cX3_copyFrom 65 = .ok (.aload_n 1, 1) := by decide +kernel
theorem dX3_copyFrom_66 : decode cX3_copyFrom 66 = .ok (.getfield 21, 3) := by decide +kernel
theorem dX3_copyFrom_69 : decode cX3_copyFrom 69 = .ok (.aload_n 0, 1) := by decide +kernel
theorem dX3_copyFrom_70 : decode cX3_copyFrom 70 = .ok (.getfield 21, 3) := by decide +kernel
theorem dX3_copyFrom_73 : decode cX3_copyFrom 73 = .ok (.invokestatic 61, 3) := by decide +kernel
theorem dX3_copyFrom_76 : decode cX3_copyFrom 76 = .ok (.aload_n 1, 1) := by decide +kernel
theorem dX3_copyFrom_77 : decode cX3_copyFrom 77 = .ok (.getfield 24, 3) := by decide +kernel
theorem dX3_copyFrom_80 : decode cX3_copyFrom 80 = .ok (.aload_n 0, 1) := by decide +kernel
theorem dX3_copyFrom_81 : decode cX3_copyFrom 81 = .ok (.getfield 24, 3) := by decide +kernel
theorem dX3_copyFrom_84 : decode cX3_copyFrom 84 = .ok (.invokestatic 61, 3) := by decide +kernel
theorem dX3_copyFrom_87 : decode cX3_copyFrom 87 = .ok (.aload_n 1, 1) := by decide +kernel
theorem dX3_copyFrom_88 : decode cX3_copyFrom 88 = .ok (.getfield 27, 3) := by decide +kernel
theorem dX3_copyFrom_91 : decode cX3_copyFrom 91 = .ok (.aload_n 0, 1) := by decide +kernel
theorem dX3_copyFrom_92 : decode cX3_copyFrom 92 = .ok (.getfield 27, 3) := by decide +kernel
theorem dX3_copyFrom_95 : decode cX3_copyFrom 95 = .ok (.invokestatic 61, 3) := by decide +kernel
theorem dX3_copyFrom_98 : decode cX3_copyFrom 98 = .ok (.aload_n 1, 1) := by decide +kernel
theorem dX3_copyFrom_99 : decode cX3_copyFrom 99 = .ok (.getfield 30, 3) := by decide +kernel
theorem dX3_copyFrom_102 : decode cX3_copyFrom 102 = .ok (.aload_n 0, 1) := by decide +kernel
theorem dX3_copyFrom_103 : decode cX3_copyFrom 103 = .ok (.getfield 30, 3) := by decide +kernel
theorem dX3_copyFrom_106 : decode cX3_copyFrom 106 = .ok (.invokestatic 61, 3) := by decide +kernel
theorem dX3_copyFrom_109 : decode cX3_copyFrom 109 = .ok (.aload_n 1, 1) := by decide +kernel
theorem dX3_copyFrom_110 : decode cX3_copyFrom 110 = .ok (.getfield 33, 3) := by decide +kernel
theorem dX3_copyFrom_113 : decode cX3_copyFrom 113 = .ok (.aload_n 0, 1) := by decide +kernel
theorem dX3_copyFrom_114 : decode cX3_copyFrom 114 = .ok (.getfield 33, 3) := by decide +kernel
theorem dX3_copyFrom_117 : decode cX3_copyFrom 117 = .ok (.invokestatic 61, 3) := by decide +kernel
theorem dX3_copyFrom_120 : decode cX3_copyFrom 120 = .ok (.aload_n 1, 1) := by decide +kernel
theorem dX3_copyFrom_121 : decode cX3_copyFrom 121 = .ok (.getfield 36, 3) := by decide +kernel
theorem dX3_copyFrom_124 : decode cX3_copyFrom 124 = .ok (.aload_n 0, 1) := by decide +kernel
theorem dX3_copyFrom_125 : decode cX3_copyFrom 125 = .ok (.getfield 36, 3) := by decide +kernel
theorem dX3_copyFrom_128 : decode cX3_copyFrom 128 = .ok (.invokestatic 61, 3) := by decide +kernel
theorem dX3_copyFrom_131 : decode cX3_copyFrom 131 = .ok (.aload_n 1, 1) := by decide +kernel
theorem dX3_copyFrom_132 : decode cX3_copyFrom 132 = .ok (.getfield 39, 3) := by decide +kernel
theorem dX3_copyFrom_135 : decode cX3_copyFrom 135 = .ok (.aload_n 0, 1) := by decide +kernel
theorem dX3_copyFrom_136 : decode cX3_copyFrom 136 = .ok (.getfield 39, 3) := by decide +kernel
theorem dX3_copyFrom_139 : decode cX3_copyFrom 139 = .ok (.invokestatic 61, 3) := by decide +kernel
theorem dX3_copyFrom_142 : decode cX3_copyFrom 142 = .ok (.aload_n 1, 1) := by decide +kernel
theorem dX3_copyFrom_143 : decode cX3_copyFrom 143 = .ok (.getfield 42, 3) := by decide +kernel
theorem dX3_copyFrom_146 : decode cX3_copyFrom 146 = .ok (.aload_n 0, 1) := by decide +kernel
theorem dX3_copyFrom_147 : decode cX3_copyFrom 147 = .ok (.getfield 42, 3) := by decide +kernel
theorem dX3_copyFrom_150 : decode cX3_copyFrom 150 = .ok (.invokestatic 61, 3) := by decide +kernel
theorem dX3_copyFrom_153 : decode cX3_copyFrom 153 = .ok (.aload_n 1, 1) := by decide +kernel
theorem dX3_copyFrom_154 : decode cX3_copyFrom 154 = .ok (.getfield 45, 3) := by decide +kernel
theorem dX3_copyFrom_157 : decode cX3_copyFrom 157 = .ok (.aload_n 0, 1) := by decide +kernel
theorem dX3_copyFrom_158 : decode cX3_copyFrom 158 = .ok (.getfield 45, 3) := by decide +kernel
theorem dX3_copyFrom_161 : decode cX3_copyFrom 161 = .ok (.invokestatic 61, 3) := by decide +kernel
theorem dX3_copyFrom_164 : decode cX3_copyFrom 164 = .ok (.return_, 1) := by decide +kernel
theorem dX3_addMemory_0 : decode cX3_addMemory 0 = .ok (.aload_n 0, 1) := by decide +kernel
theorem dX3_addMemory_1 : decode cX3_addMemory 1 = .ok (.getfield 52, 3) := by decide +kernel
theorem dX3_addMemory_4 : decode cX3_addMemory 4 = .ok (.bipush 16, 2) := by decide +kernel
theorem dX3_addMemory_6 : decode cX3_addMemory 6 = .ok (.if_icmp .lt 4, 3) := by decide +kernel
theorem dX3_addMemory_9 : decode cX3_addMemory 9 = .ok (.return_, 1) := by decide +kernel
theorem dX3_addMemory_10 : decode cX3_addMemory 10 = .ok (.iload_n 2, 1) := by decide +kernel
theorem dX3_addMemory_11 : decode cX3_addMemory 11 = .ok (.istore_n 3, 1) := by decide +kernel
theorem dX3_addMemory_12 : decode cX3_addMemory 12 = .ok (.iconst 0, 1) := by decide +kernel
theorem dX3_addMemory_13 : decode cX3_addMemory 13 = .ok (.istore 4, 2) := by decide +kernel
theorem dX3_addMemory_15 : decode cX3_addMemory 15 = .ok (.iload 4, 2) := by decide +kernel
theorem dX3_addMemory_17 : decode cX3_addMemory 17 = .ok (.aload_n 0, 1) := by decide +kernel
theorem dX3_addMemory_18 : decode cX3_addMemory 18 = .ok (.getfield 52, 3) := by decide +kernel
theorem dX3_addMemory_21 : decode cX3_addMemory 21 = .ok (.if_icmp .ge 30, 3) := by decide +kernel
theorem dX3_addMemory_24 : decode cX3_addMemory 24 = .ok (.iload_n 2, 1) := by decide +kernel
theorem dX3_addMemory_25 : decode cX3_addMemory 25 = .ok (.iload 4, 2) := by decide +kernel
theorem dX3_addMemory_27 : decode cX3_addMemory 27 = .ok (.invokestatic 65, 3) := by decide +kernel
theorem dX3_addMemory_30 : decode cX3_addMemory 30 = .ok (.ifCond .eq 15, 3) := by decide +kernel
theorem dX3_addMemory_33 : decode cX3_addMemory 33 = .ok (.iload_n 3, 1) := by decide +kernel
theorem dX3_addMemory_34 : decode cX3_addMemory 34 = .ok (.aload_n 0, 1) := by decide +kernel
theorem dX3_addMemory_35 : decode cX3_addMemory 35 = .ok (.getfield 18, 3) := by decide +kernel
theorem dX3_addMemory_38 : decode cX3_addMemory 38 = .ok (.iload 4, 2) := by decide +kernel
theorem dX3_addMemory_40 : decode cX3_addMemory 40 = .ok (.invokestatic 69, 3) := by decide +kernel
theorem dX3_addMemory_43 : decode cX3_addMemory 43 = .ok (.ior, 1) := by decide +kernel
theorem dX3_addMemory_44 : decode cX3_addMemory 44 = .ok (.istore_n 3, 1) := by decide +kernel
theorem dX3_addMemory_45 : decode cX3_addMemory 45 = .ok (.iinc 4 1, 3) := by decide +kernel
theorem dX3_addMemory_48 : decode cX3_addMemory 48 = .ok (.goto (-33), 3) := by decide +kernel
theorem dX3_addMemory_51 : decode cX3_addMemory 51 = .ok (.iconst 0, 1) := by decide +kernel
theorem dX3_addMemory_52 : decode cX3_addMemory 52 = .ok (.istore 4, 2) := by decide +kernel
theorem dX3_addMemory_54 : decode cX3_addMemory 54 = .ok (.iload 4, 2) := by decide +kernel
theorem dX3_addMemory_56 : decode cX3_addMemory 56 = .ok (.aload_n 0, 1) := by decide +kernel
theorem dX3_addMemory_57 : decode cX3_addMemory 57 = .ok (.getfield 52, 3) := by decide +kernel
theorem dX3_addMemory_60 : decode cX3_addMemory 60 = .ok (.if_icmp .ge 43, 3) := by decide +kernel
theorem dX3_addMemory_63 : decode cX3_addMemory 63 = .ok (.iload_n 3, 1) := by decide +kernel
theorem dX3_addMemory_64 : decode cX3_addMemory 64 = .ok (.iload 4, 2) := by decide +kernel
theorem dX3_addMemory_66 : decode cX3_addMemory 66 = .ok (.invokestatic 65, 3) := by decide +kernel
theorem dX3_addMemory_69 : decode cX3_addMemory 69 = .ok (.ifCond .eq 28, 3) := by decide +kernel
theorem dX3_addMemory_72 : decode cX3_addMemory 72 = .ok (.aload_n 0, 1) := by decide +kernel
theorem dX3_addMemory_73 : decode cX3_addMemory 73 = .ok (.getfield 21, 3) := by decide +kernel
theorem dX3_addMemory_76 : decode cX3_addMemory 76 = .ok (.iload 4, 2) := by decide +kernel
theorem dX3_addMemory_78 : decode cX3_addMemory 78 = .ok (.aload_n 0, 1) := by decide +kernel
theorem dX3_addMemory_79 : decode cX3_addMemory 79 = .ok (.getfield 21, 3) := by decide +kernel
theorem dX3_addMemory_82 : decode cX3_addMemory 82 = .ok (.iload 4, 2) := by decide +kernel
theorem dX3_addMemory_84 : decode cX3_addMemory 84 = .ok (.invokestatic 69, 3) := by decide +kernel
theorem dX3_addMemory_87 : decode cX3_addMemory 87 = .ok (.iconst 1, 1) := by decide +kernel
theorem dX3_addMemory_88 : decode cX3_addMemory 88 = .ok (.aload_n 0, 1) := by decide +kernel
theorem dX3_addMemory_89 : decode cX3_addMemory 89 = .ok (.getfield 52, 3) := by decide +kernel
theorem dX3_addMemory_92 : decode cX3_addMemory 92 = .ok (.ishl, 1) := by decide +kernel
theorem dX3_addMemory_93 : decode cX3_addMemory 93 = .ok (.ior, 1) := by decide +kernel
theorem dX3_addMemory_94 : decode cX3_addMemory 94 = .ok (.invokestatic 73, 3) := by decide +kernel
theorem dX3_addMemory_97 : decode cX3_addMemory 97 = .ok (.iinc 4 1, 3) := by decide +kernel
theorem dX3_addMemory_100 : decode cX3_addMemory 100 = .ok (.goto (-46), 3) := by decide +kernel
theorem dX3_addMemory_103 : decode cX3_addMemory 103 = .ok (.aload_n 0, 1) := by decide +kernel
theorem dX3_addMemory_104 : decode cX3_addMemory 104 = .ok (.getfield 9, 3) := by decide +kernel
theorem dX3_addMemory_107 : decode cX3_addMemory 107 = .ok (.aload_n 0, 1) := by decide +kernel
theorem dX3_addMemory_108 : decode cX3_addMemory 108 = .ok (.getfield 52, 3) := by decide +kernel
theorem dX3_addMemory_111 : decode cX3_addMemory 111 = .ok (.iload_n 1, 1) := by decide +kernel
theorem dX3_addMemory_112 : decode cX3_addMemory 112 = .ok (.invokestatic 73, 3) := by decide +kernel
theorem dX3_addMemory_115 : decode cX3_addMemory 115 = .ok (.aload_n 0, 1) := by decide +kernel
theorem dX3_addMemory_116 : decode cX3_addMemory 116 = .ok (.getfield 15, 3) := by decide +kernel
theorem dX3_addMemory_119 : decode cX3_addMemory 119 = .ok (.aload_n 0, 1) := by decide +kernel
theorem dX3_addMemory_120 : decode cX3_addMemory 120 = .ok (.getfield 52, 3) := by decide +kernel
theorem dX3_addMemory_123 : decode cX3_addMemory 123 = .ok (.iload_n 2, 1) := by decide +kernel
theorem dX3_addMemory_124 : decode cX3_addMemory 124 = .ok (.invokestatic 73, 3) := by decide +kernel
theorem dX3_addMemory_127 : decode cX3_addMemory 127 = .ok (.aload_n 0, 1) := by decide +kernel
theorem dX3_addMemory_128 : decode cX3_addMemory 128 = .ok (.getfield 18, 3) := by decide +kernel
theorem dX3_addMemory_131 : decode cX3_addMemory 131 = .ok (.aload_n 0, 1) := by decide +kernel
theorem dX3_addMemory_132 : decode cX3_addMemory 132 = .ok (.getfield 52, 3) := by decide +kernel
theorem dX3_addMemory_135 : decode cX3_addMemory 135 = .ok (.iload_n 3, 1) := by decide +kernel
theorem dX3_addMemory_136 : decode cX3_addMemory 136 = .ok (.invokestatic 73, 3) := by decide +kernel
theorem dX3_addMemory_139 : decode cX3_addMemory 139 = .ok (.aload_n 0, 1) := by decide +kernel
theorem dX3_addMemory_140 : decode cX3_addMemory 140 = .ok (.getfield 21, 3) := by decide +kernel
theorem dX3_addMemory_143 : decode cX3_addMemory 143 = .ok (.aload_n 0, 1) := by decide +kernel
theorem dX3_addMemory_144 : decode cX3_addMemory 144 = .ok (.getfield 52, 3) := by decide +kernel
theorem dX3_addMemory_147 : decode cX3_addMemory 147 = .ok (.iconst 0, 1) := by decide +kernel
theorem dX3_addMemory_148 : decode cX3_addMemory 148 = .ok (.invokestatic 73, 3) := by decide +kernel
theorem dX3_addMemory_151 : decode cX3_addMemory 151 = .ok (.aload_n 0, 1) := by decide +kernel
theorem dX3_addMemory_152 : decode cX3_addMemory 152 = .ok (.getfield 24, 3) := by decide +kernel
theorem dX3_addMemory_155 : decode cX3_addMemory 155 = .ok (.aload_n 0, 1) := by decide +kernel
theorem dX3_addMemory_156 : decode cX3_addMemory 156 = .ok (.getfield 52, 3) := by decide +kernel
theorem dX3_addMemory_159 : decode cX3_addMemory 159 = .ok (.iconst 0, 1) := by decide +kernel
theorem dX3_addMemory_160 : decode cX3_addMemory 160 = .ok (.invokestatic 73, 3) := by decide +kernel
theorem dX3_addMemory_163 : decode cX3_addMemory 163 = .ok (.aload_n 0, 1) := by decide +kernel
theorem dX3_addMemory_164 : decode cX3_addMemory 164 = .ok (.dup, 1) := by decide +kernel
theorem dX3_addMemory_165 : decode cX3_addMemory 165 = .ok (.getfield 52, 3) := by decide +kernel
theorem dX3_addMemory_168 : decode cX3_addMemory 168 = .ok (.iconst 1, 1) := by decide +kernel
theorem dX3_addMemory_169 : decode cX3_addMemory 169 = .ok (.iadd, 1) := by decide +kernel
theorem dX3_addMemory_170 : decode cX3_addMemory 170 = .ok (.putfield 52, 3) := by decide +kernel
theorem dX3_addMemory_173 : decode cX3_addMemory 173 = .ok (.return_, 1) := by decide +kernel
theorem dX3_addOrder_0 : decode cX3_addOrder 0 = .ok (.aload_n 0, 1) := by decide +kernel
theorem dX3_addOrder_1 : decode cX3_addOrder 1 = .ok (.getfield 58, 3) := by decide +kernel
theorem dX3_addOrder_4 : decode cX3_addOrder 4 = .ok (.bipush 10, 2) := by decide +kernel
theorem dX3_addOrder_6 : decode cX3_addOrder 6 = .ok (.if_icmp .ge 37, 3) := by decide +kernel
theorem dX3_addOrder_9 : decode cX3_addOrder 9 = .ok (.aload_n 0, 1) := by decide +kernel
theorem dX3_addOrder_10 : decode cX3_addOrder 10 = .ok (.getfield 39, 3) := by decide +kernel
theorem dX3_addOrder_13 : decode cX3_addOrder 13 = .ok (.aload_n 0, 1) := by decide +kernel
theorem dX3_addOrder_14 : decode cX3_addOrder 14 = .ok (.getfield 58, 3) := by decide +kernel
theorem dX3_addOrder_17 : decode cX3_addOrder 17 = .ok (.iload_n 1, 1) := by decide +kernel
theorem dX3_addOrder_18 : decode cX3_addOrder 18 = .ok (.invokestatic 73, 3) := by decide +kernel
theorem dX3_addOrder_21 : decode cX3_addOrder 21 = .ok (.aload_n 0, 1) := by decide +kernel
theorem dX3_addOrder_22 : decode cX3_addOrder 22 = .ok (.getfield 42, 3) := by decide +kernel
theorem dX3_addOrder_25 : decode cX3_addOrder 25 = .ok (.aload_n 0, 1) := by decide +kernel
theorem dX3_addOrder_26 : decode cX3_addOrder 26 = .ok (.getfield 58, 3) := by decide +kernel
theorem dX3_addOrder_29 : decode cX3_addOrder 29 = .ok (.iload_n 2, 1) := by decide +kernel
theorem dX3_addOrder_30 : decode cX3_addOrder 30 = .ok (.invokestatic 73, 3) := by decide +kernel
theorem dX3_addOrder_33 : decode cX3_addOrder 33 = .ok (.aload_n 0, 1) := by decide +kernel
theorem dX3_addOrder_34 : decode cX3_addOrder 34 = .ok (.dup, 1) := by decide +kernel
theorem dX3_addOrder_35 : decode cX3_addOrder 35 = .ok (.getfield 58, 3) := by decide +kernel
theorem dX3_addOrder_38 : decode cX3_addOrder 38 = .ok (.iconst 1, 1) := by decide +kernel
theorem dX3_addOrder_39 : decode cX3_addOrder 39 = .ok (.iadd, 1) := by decide +kernel
theorem dX3_addOrder_40 : decode cX3_addOrder 40 = .ok (.putfield 58, 3) := by decide +kernel
theorem dX3_addOrder_43 : decode cX3_addOrder 43 = .ok (.return_, 1) := by decide +kernel
theorem dX3_allMemories_0 : decode cX3_allMemories 0 = .ok (.iconst 1, 1) := by decide +kernel
theorem dX3_allMemories_1 : decode cX3_allMemories 1 = .ok (.aload_n 0, 1) := by decide +kernel
theorem dX3_allMemories_2 : decode cX3_allMemories 2 = .ok (.getfield 52, 3) := by decide +kernel
theorem dX3_allMemories_5 : decode cX3_allMemories 5 = .ok (.ishl, 1) := by decide +kernel
theorem dX3_allMemories_6 : decode cX3_allMemories 6 = .ok (.iconst 1, 1) := by decide +kernel
theorem dX3_allMemories_7 : decode cX3_allMemories 7 = .ok (.isub, 1) := by decide +kernel
theorem dX3_allMemories_8 : decode cX3_allMemories 8 = .ok (.ireturn, 1) := by decide +kernel
theorem dX3_usableOf_0 : decode cX3_usableOf 0 = .ok (.iconst 0, 1) := by decide +kernel
theorem dX3_usableOf_1 : decode cX3_usableOf 1 = .ok (.istore_n 2, 1) := by decide +kernel
theorem dX3_usableOf_2 : decode cX3_usableOf 2 = .ok (.iconst 0, 1) := by decide +kernel
theorem dX3_usableOf_3 : decode cX3_usableOf 3 = .ok (.istore_n 3, 1) := by decide +kernel
theorem dX3_usableOf_4 : decode cX3_usableOf 4 = .ok (.iload_n 3, 1) := by decide +kernel
theorem dX3_usableOf_5 : decode cX3_usableOf 5 = .ok (.aload_n 0, 1) := by decide +kernel
theorem dX3_usableOf_6 : decode cX3_usableOf 6 = .ok (.getfield 52, 3) := by decide +kernel
theorem dX3_usableOf_9 : decode cX3_usableOf 9 = .ok (.if_icmp .ge 38, 3) := by decide +kernel
theorem dX3_usableOf_12 : decode cX3_usableOf 12 = .ok (.iload_n 1, 1) := by decide +kernel
theorem dX3_usableOf_13 : decode cX3_usableOf 13 = .ok (.iload_n 3, 1) := by decide +kernel
theorem dX3_usableOf_14 : decode cX3_usableOf 14 = .ok (.invokestatic 65, 3) := by decide +kernel
theorem dX3_usableOf_17 : decode cX3_usableOf 17 = .ok (.ifCond .eq 24, 3) := by decide +kernel
theorem dX3_usableOf_20 : decode cX3_usableOf 20 = .ok (.aload_n 0, 1) := by decide +kernel
theorem dX3_usableOf_21 : decode cX3_usableOf 21 = .ok (.getfield 18, 3) := by decide +kernel
theorem dX3_usableOf_24 : decode cX3_usableOf 24 = .ok (.iload_n 3, 1) := by decide +kernel
theorem dX3_usableOf_25 : decode cX3_usableOf 25 = .ok (.invokestatic 69, 3) := by decide +kernel
theorem dX3_usableOf_28 : decode cX3_usableOf 28 = .ok (.iload_n 1, 1) := by decide +kernel
theorem dX3_usableOf_29 : decode cX3_usableOf 29 = .ok (.iconst (-1), 1) := by decide +kernel
theorem dX3_usableOf_30 : decode cX3_usableOf 30 = .ok (.ixor, 1) := by decide +kernel
theorem dX3_usableOf_31 : decode cX3_usableOf 31 = .ok (.iand, 1) := by decide +kernel
theorem dX3_usableOf_32 : decode cX3_usableOf 32 = .ok (.ifCond .ne 9, 3) := by decide +kernel
theorem dX3_usableOf_35 : decode cX3_usableOf 35 = .ok (.iload_n 2, 1) := by decide +kernel
theorem dX3_usableOf_36 : decode cX3_usableOf 36 = .ok (.iconst 1, 1) := by decide +kernel
theorem dX3_usableOf_37 : decode cX3_usableOf 37 = .ok (.iload_n 3, 1) := by decide +kernel
theorem dX3_usableOf_38 : decode cX3_usableOf 38 = .ok (.ishl, 1) := by decide +kernel
theorem dX3_usableOf_39 : decode cX3_usableOf 39 = .ok (.ior, 1) := by decide +kernel
theorem dX3_usableOf_40 : decode cX3_usableOf 40 = .ok (.istore_n 2, 1) := by decide +kernel
theorem dX3_usableOf_41 : decode cX3_usableOf 41 = .ok (.iinc 3 1, 3) := by decide +kernel
theorem dX3_usableOf_44 : decode cX3_usableOf 44 = .ok (.goto (-40), 3) := by decide +kernel
theorem dX3_usableOf_47 : decode cX3_usableOf 47 = .ok (.iload_n 2, 1) := by decide +kernel
theorem dX3_usableOf_48 : decode cX3_usableOf 48 = .ok (.ireturn, 1) := by decide +kernel
theorem dX3_worthOf_0 : decode cX3_worthOf 0 = .ok (.iconst 0, 1) := by decide +kernel
theorem dX3_worthOf_1 : decode cX3_worthOf 1 = .ok (.istore_n 2, 1) := by decide +kernel
theorem dX3_worthOf_2 : decode cX3_worthOf 2 = .ok (.iconst 0, 1) := by decide +kernel
theorem dX3_worthOf_3 : decode cX3_worthOf 3 = .ok (.istore_n 3, 1) := by decide +kernel
theorem dX3_worthOf_4 : decode cX3_worthOf 4 = .ok (.iload_n 3, 1) := by decide +kernel
theorem dX3_worthOf_5 : decode cX3_worthOf 5 = .ok (.aload_n 0, 1) := by decide +kernel
theorem dX3_worthOf_6 : decode cX3_worthOf 6 = .ok (.getfield 52, 3) := by decide +kernel
theorem dX3_worthOf_9 : decode cX3_worthOf 9 = .ok (.if_icmp .ge 28, 3) := by decide +kernel
theorem dX3_worthOf_12 : decode cX3_worthOf 12 = .ok (.iload_n 1, 1) := by decide +kernel
theorem dX3_worthOf_13 : decode cX3_worthOf 13 = .ok (.iload_n 3, 1) := by decide +kernel
theorem dX3_worthOf_14 : decode cX3_worthOf 14 = .ok (.invokestatic 65, 3) := by decide +kernel
theorem dX3_worthOf_17 : decode cX3_worthOf 17 = .ok (.ifCond .eq 14, 3) := by decide +kernel
theorem dX3_worthOf_20 : decode cX3_worthOf 20 = .ok (.iload_n 2, 1) := by decide +kernel
theorem dX3_worthOf_21 : decode cX3_worthOf 21 = .ok (.aload_n 0, 1) := by decide +kernel
theorem dX3_worthOf_22 : decode cX3_worthOf 22 = .ok (.getfield 9, 3) := by decide +kernel
theorem dX3_worthOf_25 : decode cX3_worthOf 25 = .ok (.iload_n 3, 1) := by decide +kernel
theorem dX3_worthOf_26 : decode cX3_worthOf 26 = .ok (.invokestatic 69, 3) := by decide +kernel
theorem dX3_worthOf_29 : decode cX3_worthOf 29 = .ok (.iadd, 1) := by decide +kernel
theorem dX3_worthOf_30 : decode cX3_worthOf 30 = .ok (.istore_n 2, 1) := by decide +kernel
theorem dX3_worthOf_31 : decode cX3_worthOf 31 = .ok (.iinc 3 1, 3) := by decide +kernel
theorem dX3_worthOf_34 : decode cX3_worthOf 34 = .ok (.goto (-30), 3) := by decide +kernel
theorem dX3_worthOf_37 : decode cX3_worthOf 37 = .ok (.iload_n 2, 1) := by decide +kernel
theorem dX3_worthOf_38 : decode cX3_worthOf 38 = .ok (.ireturn, 1) := by decide +kernel
theorem dX3_rootsIn_0 : decode cX3_rootsIn 0 = .ok (.iconst 0, 1) := by decide +kernel
theorem dX3_rootsIn_1 : decode cX3_rootsIn 1 = .ok (.istore_n 2, 1) := by decide +kernel
theorem dX3_rootsIn_2 : decode cX3_rootsIn 2 = .ok (.iconst 0, 1) := by decide +kernel
theorem dX3_rootsIn_3 : decode cX3_rootsIn 3 = .ok (.istore_n 3, 1) := by decide +kernel
theorem dX3_rootsIn_4 : decode cX3_rootsIn 4 = .ok (.iload_n 3, 1) := by decide +kernel
theorem dX3_rootsIn_5 : decode cX3_rootsIn 5 = .ok (.aload_n 0, 1) := by decide +kernel
theorem dX3_rootsIn_6 : decode cX3_rootsIn 6 = .ok (.getfield 52, 3) := by decide +kernel
theorem dX3_rootsIn_9 : decode cX3_rootsIn 9 = .ok (.if_icmp .ge 34, 3) := by decide +kernel
theorem dX3_rootsIn_12 : decode cX3_rootsIn 12 = .ok (.iload_n 1, 1) := by decide +kernel
theorem dX3_rootsIn_13 : decode cX3_rootsIn 13 = .ok (.iload_n 3, 1) := by decide +kernel
theorem dX3_rootsIn_14 : decode cX3_rootsIn 14 = .ok (.invokestatic 65, 3) := by decide +kernel
theorem dX3_rootsIn_17 : decode cX3_rootsIn 17 = .ok (.ifCond .eq 20, 3) := by decide +kernel
theorem dX3_rootsIn_20 : decode cX3_rootsIn 20 = .ok (.aload_n 0, 1) := by decide +kernel
theorem dX3_rootsIn_21 : decode cX3_rootsIn 21 = .ok (.getfield 15, 3) := by decide +kernel
theorem dX3_rootsIn_24 : decode cX3_rootsIn 24 = .ok (.iload_n 3, 1) := by decide +kernel
theorem dX3_rootsIn_25 : decode cX3_rootsIn 25 = .ok (.invokestatic 69, 3) := by decide +kernel
theorem dX3_rootsIn_28 : decode cX3_rootsIn 28 = .ok (.ifCond .ne 9, 3) := by decide +kernel
theorem dX3_rootsIn_31 : decode cX3_rootsIn 31 = .ok (.iload_n 2, 1) := by decide +kernel
theorem dX3_rootsIn_32 : decode cX3_rootsIn 32 = .ok (.iconst 1, 1) := by decide +kernel
theorem dX3_rootsIn_33 : decode cX3_rootsIn 33 = .ok (.iload_n 3, 1) := by decide +kernel
theorem dX3_rootsIn_34 : decode cX3_rootsIn 34 = .ok (.ishl, 1) := by decide +kernel
theorem dX3_rootsIn_35 : decode cX3_rootsIn 35 = .ok (.ior, 1) := by decide +kernel
theorem dX3_rootsIn_36 : decode cX3_rootsIn 36 = .ok (.istore_n 2, 1) := by decide +kernel
theorem dX3_rootsIn_37 : decode cX3_rootsIn 37 = .ok (.iinc 3 1, 3) := by decide +kernel
theorem dX3_rootsIn_40 : decode cX3_rootsIn 40 = .ok (.goto (-36), 3) := by decide +kernel
theorem dX3_rootsIn_43 : decode cX3_rootsIn 43 = .ok (.iload_n 2, 1) := by decide +kernel
theorem dX3_rootsIn_44 : decode cX3_rootsIn 44 = .ok (.ireturn, 1) := by decide +kernel
theorem dX3_ordersOf_0 : decode cX3_ordersOf 0 = .ok (.iconst 0, 1) := by decide +kernel
theorem dX3_ordersOf_1 : decode cX3_ordersOf 1 = .ok (.istore_n 2, 1) := by decide +kernel
theorem dX3_ordersOf_2 : decode cX3_ordersOf 2 = .ok (.iconst 0, 1) := by decide +kernel
theorem dX3_ordersOf_3 : decode cX3_ordersOf 3 = .ok (.istore_n 3, 1) := by decide +kernel
theorem dX3_ordersOf_4 : decode cX3_ordersOf 4 = .ok (.iload_n 3, 1) := by decide +kernel
theorem dX3_ordersOf_5 : decode cX3_ordersOf 5 = .ok (.aload_n 0, 1) := by decide +kernel
theorem dX3_ordersOf_6 : decode cX3_ordersOf 6 = .ok (.getfield 58, 3) := by decide +kernel
theorem dX3_ordersOf_9 : decode cX3_ordersOf 9 = .ok (.if_icmp .ge 27, 3) := by decide +kernel
theorem dX3_ordersOf_12 : decode cX3_ordersOf 12 = .ok (.aload_n 0, 1) := by decide +kernel
theorem dX3_ordersOf_13 : decode cX3_ordersOf 13 = .ok (.getfield 39, 3) := by decide +kernel
theorem dX3_ordersOf_16 : decode cX3_ordersOf 16 = .ok (.iload_n 3, 1) := by decide +kernel
theorem dX3_ordersOf_17 : decode cX3_ordersOf 17 = .ok (.invokestatic 69, 3) := by decide +kernel
theorem dX3_ordersOf_20 : decode cX3_ordersOf 20 = .ok (.iload_n 1, 1) := by decide +kernel
theorem dX3_ordersOf_21 : decode cX3_ordersOf 21 = .ok (.if_icmp .ne 9, 3) := by decide +kernel
theorem dX3_ordersOf_24 : decode cX3_ordersOf 24 = .ok (.iload_n 2, 1) := by decide +kernel
theorem dX3_ordersOf_25 : decode cX3_ordersOf 25 = .ok (.iconst 1, 1) := by decide +kernel
theorem dX3_ordersOf_26 : decode cX3_ordersOf 26 = .ok (.iload_n 3, 1) := by decide +kernel
theorem dX3_ordersOf_27 : decode cX3_ordersOf 27 = .ok (.ishl, 1) := by decide +kernel
theorem dX3_ordersOf_28 : decode cX3_ordersOf 28 = .ok (.ior, 1) := by decide +kernel
theorem dX3_ordersOf_29 : decode cX3_ordersOf 29 = .ok (.istore_n 2, 1) := by decide +kernel
theorem dX3_ordersOf_30 : decode cX3_ordersOf 30 = .ok (.iinc 3 1, 3) := by decide +kernel
theorem dX3_ordersOf_33 : decode cX3_ordersOf 33 = .ok (.goto (-29), 3) := by decide +kernel
theorem dX3_ordersOf_36 : decode cX3_ordersOf 36 = .ok (.iload_n 2, 1) := by decide +kernel
theorem dX3_ordersOf_37 : decode cX3_ordersOf 37 = .ok (.ireturn, 1) := by decide +kernel
theorem dX3_neededInAll_0 : decode cX3_neededInAll 0 = .ok (.aload_n 0, 1) := by decide +kernel
theorem dX3_neededInAll_1 : decode cX3_neededInAll 1 = .ok (.getfield 42, 3) := by decide +kernel
theorem dX3_neededInAll_4 : decode cX3_neededInAll 4 = .ok (.iload_n 1, 1) := by decide +kernel
theorem dX3_neededInAll_5 : decode cX3_neededInAll 5 = .ok (.invokestatic 69, 3) := by decide +kernel
theorem dX3_neededInAll_8 : decode cX3_neededInAll 8 = .ok (.istore_n 2, 1) := by decide +kernel
theorem dX3_neededInAll_9 : decode cX3_neededInAll 9 = .ok (.iload_n 2, 1) := by decide +kernel
theorem dX3_neededInAll_10 : decode cX3_neededInAll 10 = .ok (.istore_n 3, 1) := by decide +kernel
theorem dX3_neededInAll_11 : decode cX3_neededInAll 11 = .ok (.iconst 0, 1) := by decide +kernel
theorem dX3_neededInAll_12 : decode cX3_neededInAll 12 = .ok (.istore 4, 2) := by decide +kernel
theorem dX3_neededInAll_14 : decode cX3_neededInAll 14 = .ok (.iload 4, 2) := by decide +kernel
theorem dX3_neededInAll_16 : decode cX3_neededInAll 16 = .ok (.aload_n 0, 1) := by decide +kernel
theorem dX3_neededInAll_17 : decode cX3_neededInAll 17 = .ok (.getfield 52, 3) := by decide +kernel
theorem dX3_neededInAll_20 : decode cX3_neededInAll 20 = .ok (.if_icmp .ge 30, 3) := by decide +kernel
theorem dX3_neededInAll_23 : decode cX3_neededInAll 23 = .ok (.iload_n 2, 1) := by decide +kernel
theorem dX3_neededInAll_24 : decode cX3_neededInAll 24 = .ok (.iload 4, 2) := by decide +kernel
theorem dX3_neededInAll_26 : decode cX3_neededInAll 26 = .ok (.invokestatic 65, 3) := by decide +kernel
theorem dX3_neededInAll_29 : decode cX3_neededInAll 29 = .ok (.ifCond .eq 15, 3) := by decide +kernel
theorem dX3_neededInAll_32 : decode cX3_neededInAll 32 = .ok (.iload_n 3, 1) := by decide +kernel
theorem dX3_neededInAll_33 : decode cX3_neededInAll 33 = .ok (.aload_n 0, 1) := by decide +kernel
theorem dX3_neededInAll_34 : decode cX3_neededInAll 34 = .ok (.getfield 18, 3) := by decide +kernel
theorem dX3_neededInAll_37 : decode cX3_neededInAll 37 = .ok (.iload 4, 2) := by decide +kernel
theorem dX3_neededInAll_39 : decode cX3_neededInAll 39 = .ok (.invokestatic 69, 3) := by decide +kernel
theorem dX3_neededInAll_42 : decode cX3_neededInAll 42 = .ok (.ior, 1) := by decide +kernel
theorem dX3_neededInAll_43 : decode cX3_neededInAll 43 = .ok (.istore_n 3, 1) := by decide +kernel
theorem dX3_neededInAll_44 : decode cX3_neededInAll 44 = .ok (.iinc 4 1, 3) := by decide +kernel
theorem dX3_neededInAll_47 : decode cX3_neededInAll 47 = .ok (.goto (-33), 3) := by decide +kernel
theorem dX3_neededInAll_50 : decode cX3_neededInAll 50 = .ok (.iload_n 3, 1) := by decide +kernel
theorem dX3_neededInAll_51 : decode cX3_neededInAll 51 = .ok (.invokestatic 77, 3) := by decide +kernel
theorem dX3_neededInAll_54 : decode cX3_neededInAll 54 = .ok (.ireturn, 1) := by decide +kernel
theorem dX4_init_0 : decode cX4_init 0 = .ok (.aload_n 0, 1) := by decide +kernel
theorem dX4_init_1 : decode cX4_init 1 = .ok (.invokespecial 3, 3) := by decide +kernel
theorem dX4_init_4 : decode cX4_init 4 = .ok (.aload_n 0, 1) := by decide +kernel
theorem dX4_init_5 : decode cX4_init 5 = .ok (.bipush 12, 2) := by decide +kernel
theorem dX4_init_7 : decode cX4_init 7 = .ok (.anewarray 9, 3) := by decide +kernel
theorem dX4_init_10 : decode cX4_init 10 = .ok (.putfield 11, 3) := by decide +kernel
theorem dX4_init_13 : decode cX4_init 13 = .ok (.iconst 0, 1) := by decide +kernel
theorem dX4_init_14 : decode cX4_init 14 = .ok (.istore_n 1, 1) := by decide +kernel
theorem dX4_init_15 : decode cX4_init 15 = .ok (.iload_n 1, 1) := by decide +kernel
theorem dX4_init_16 : decode cX4_init 16 = .ok (.bipush 12, 2) := by decide +kernel
theorem dX4_init_18 : decode cX4_init 18 = .ok (.if_icmp .ge 22, 3) := by decide +kernel
theorem dX4_init_21 : decode cX4_init 21 = .ok (.aload_n 0, 1) := by decide +kernel
theorem dX4_init_22 : decode cX4_init 22 = .ok (.getfield 11, 3) := by decide +kernel
theorem dX4_init_25 : decode cX4_init 25 = .ok (.iload_n 1, 1) := by decide +kernel
theorem dX4_init_26 : decode cX4_init 26 = .ok (.new 9, 3) := by decide +kernel
theorem dX4_init_29 : decode cX4_init 29 = .ok (.dup, 1) := by decide +kernel
theorem dX4_init_30 : decode cX4_init 30 = .ok (.invokespecial 17, 3) := by decide +kernel
theorem dX4_init_33 : decode cX4_init 33 = .ok (.aastore, 1) := by decide +kernel
theorem dX4_init_34 : decode cX4_init 34 = .ok (.iinc 1 1, 3) := by decide +kernel
theorem dX4_init_37 : decode cX4_init 37 = .ok (.goto (-22), 3) := by decide +kernel
theorem dX4_init_40 : decode cX4_init 40 = .ok (.return_, 1) := by decide +kernel
theorem dX4_keep_0 : decode cX4_keep 0 = .ok (.aload_n 0, 1) := by decide +kernel
theorem dX4_keep_1 : decode cX4_keep 1 = .ok (.getfield 18, 3) := by decide +kernel
theorem dX4_keep_4 : decode cX4_keep 4 = .ok (.bipush 12, 2) := by decide +kernel
theorem dX4_keep_6 : decode cX4_keep 6 = .ok (.if_icmp .lt 7, 3) := by decide +kernel
theorem dX4_keep_9 : decode cX4_keep 9 = .ok (.aload_n 0, 1) := by decide +kernel
theorem dX4_keep_10 : decode cX4_keep 10 = .ok (.invokevirtual 22, 3) := by decide +kernel
theorem dX4_keep_13 : decode cX4_keep 13 = .ok (.aload_n 0, 1) := by decide +kernel
theorem dX4_keep_14 : decode cX4_keep 14 = .ok (.getfield 18, 3) := by decide +kernel
theorem dX4_keep_17 : decode cX4_keep 17 = .ok (.ifCond .lt 24, 3) := by decide +kernel
theorem dX4_keep_20 : decode cX4_keep 20 = .ok (.aload_n 0, 1) := by decide +kernel
theorem dX4_keep_21 : decode cX4_keep 21 = .ok (.getfield 18, 3) := by decide +kernel
theorem dX4_keep_24 : decode cX4_keep 24 = .ok (.bipush 12, 2) := by decide +kernel
theorem dX4_keep_26 : decode cX4_keep 26 = .ok (.if_icmp .ge 15, 3) := by decide +kernel
theorem dX4_keep_29 : decode cX4_keep 29 = .ok (.aload_n 0, 1) := by decide +kernel
theorem dX4_keep_30 : decode cX4_keep 30 = .ok (.getfield 11, 3) := by decide +kernel
theorem dX4_keep_33 : decode cX4_keep 33 = .ok (.aload_n 0, 1) := by decide +kernel
theorem dX4_keep_34 : decode cX4_keep 34 = .ok (.getfield 18, 3) := by decide +kernel
theorem dX4_keep_37 : decode cX4_keep 37 = .ok (.aaload, 1) := by decide +kernel
theorem dX4_keep_38 : decode cX4_keep 38 = .ok (.goto 4, 3) := by decide +kernel
theorem dX4_keep_41 : decode cX4_keep 41 = .ok (.aconst_null, 1) := by decide +kernel
theorem dX4_keep_42 : decode cX4_keep 42 = .ok (.astore_n 2, 1) := by decide +kernel
theorem dX4_keep_43 : decode cX4_keep 43 = .ok (.aload_n 2, 1) := by decide +kernel
theorem dX4_keep_44 : decode cX4_keep 44 = .ok (.ifnull 18, 3) := by decide +kernel
theorem dX4_keep_47 : decode cX4_keep 47 = .ok (.aload_n 2, 1) := by decide +kernel
theorem dX4_keep_48 : decode cX4_keep 48 = .ok (.aload_n 1, 1) := by decide +kernel
theorem dX4_keep_49 : decode cX4_keep 49 = .ok (.invokevirtual 25, 3) := by decide +kernel
theorem dX4_keep_52 : decode cX4_keep 52 = .ok (.aload_n 0, 1) := by decide +kernel
theorem dX4_keep_53 : decode cX4_keep 53 = .ok (.dup, 1) := by decide +kernel
theorem dX4_keep_54 : decode cX4_keep 54 = .ok (.getfield 18, 3) := by decide +kernel
theorem dX4_keep_57 : decode cX4_keep 57 = .ok (.iconst 1, 1) := by decide +kernel
theorem dX4_keep_58 : decode cX4_keep 58 = .ok (.iadd, 1) := by decide +kernel
theorem dX4_keep_59 : decode cX4_keep 59 = .ok (.putfield 18, 3) := by decide +kernel
theorem dX4_keep_62 : decode cX4_keep 62 = .ok (.return_, 1) := by decide +kernel
theorem dX4_forgetOldest_0 : decode cX4_forgetOldest 0 = .ok (.aload_n 0, 1) := by decide +kernel
theorem dX4_forgetOldest_1 : decode cX4_forgetOldest 1 = .ok (.getfield 11, 3) := by decide +kernel
theorem dX4_forgetOldest_4 : decode cX4_forgetOldest 4 = .ok (.iconst 0, 1) := by decide +kernel
theorem dX4_forgetOldest_5 : decode cX4_forgetOldest 5 = .ok (.aaload, 1) := by decide +kernel
theorem dX4_forgetOldest_6 : decode cX4_forgetOldest 6 = .ok (.astore_n 1, 1) := by decide +kernel
theorem dX4_forgetOldest_7 : decode cX4_forgetOldest 7 = .ok (.iconst 1, 1) := by decide +kernel
theorem dX4_forgetOldest_8 : decode cX4_forgetOldest 8 = .ok (.istore_n 2, 1) := by decide +kernel
theorem dX4_forgetOldest_9 : decode cX4_forgetOldest 9 = .ok (.iload_n 2, 1) := by decide +kernel
theorem dX4_forgetOldest_10 : decode cX4_forgetOldest 10 = .ok (.bipush 12, 2) := by decide +kernel
theorem dX4_forgetOldest_12 : decode cX4_forgetOldest 12 = .ok (.if_icmp .ge 23, 3) := by decide +kernel
theorem dX4_forgetOldest_15 : decode cX4_forgetOldest 15 = .ok (.aload_n 0, 1) := by decide +kernel
theorem dX4_forgetOldest_16 : decode cX4_forgetOldest 16 = .ok (.getfield 11, 3) := by decide +kernel
theorem dX4_forgetOldest_19 : decode cX4_forgetOldest 19 = .ok (.iload_n 2, 1) := by decide +kernel
theorem dX4_forgetOldest_20 : decode cX4_forgetOldest 20 = .ok (.iconst 1, 1) := by decide +kernel
theorem dX4_forgetOldest_21 : decode cX4_forgetOldest 21 = .ok (.isub, 1) := by decide +kernel
theorem dX4_forgetOldest_22 : decode cX4_forgetOldest 22 = .ok (.aload_n 0, 1) := by decide +kernel
theorem dX4_forgetOldest_23 : decode cX4_forgetOldest 23 = .ok (.getfield 11, 3) := by decide +kernel
theorem dX4_forgetOldest_26 : decode cX4_forgetOldest 26 = .ok (.iload_n 2, 1) := by decide +kernel
theorem dX4_forgetOldest_27 : decode cX4_forgetOldest 27 = .ok (.aaload, 1) := by decide +kernel
theorem dX4_forgetOldest_28 : decode cX4_forgetOldest 28 = .ok (.aastore, 1) := by decide +kernel
theorem dX4_forgetOldest_29 : decode cX4_forgetOldest 29 = .ok (.iinc 2 1, 3) := by decide +kernel
theorem dX4_forgetOldest_32 : decode cX4_forgetOldest 32 = .ok (.goto (-23), 3) := by decide +kernel
theorem dX4_forgetOldest_35 : decode cX4_forgetOldest 35 = .ok (.aload_n 0, 1) := by decide +kernel
theorem dX4_forgetOldest_36 : decode cX4_forgetOldest 36 = .ok (.getfield 11, 3) := by decide +kernel
theorem dX4_forgetOldest_39 : decode cX4_forgetOldest 39 = .ok (.bipush 11, 2) := by decide +kernel
theorem dX4_forgetOldest_41 : decode cX4_forgetOldest 41 = .ok (.aload_n 1, 1) := by decide +kernel
theorem dX4_forgetOldest_42 : decode cX4_forgetOldest 42 = .ok (.aastore, 1) := by decide +kernel
theorem dX4_forgetOldest_43 : decode cX4_forgetOldest 43 = .ok (.aload_n 0, 1) := by decide +kernel
theorem dX4_forgetOldest_44 : decode cX4_forgetOldest 44 = .ok (.bipush 11, 2) := by decide +kernel
theorem dX4_forgetOldest_46 : decode cX4_forgetOldest 46 = .ok (.putfield 18, 3) := by decide +kernel
theorem dX4_forgetOldest_49 : decode cX4_forgetOldest 49 = .ok (.return_, 1) := by decide +kernel
theorem dX4_giveBack_0 : decode cX4_giveBack 0 = .ok (.aload_n 0, 1) := by decide +kernel
theorem dX4_giveBack_1 : decode cX4_giveBack 1 = .ok (.getfield 18, 3) := by decide +kernel
theorem dX4_giveBack_4 : decode cX4_giveBack 4 = .ok (.ifCond .le 26, 3) := by decide +kernel
theorem dX4_giveBack_7 : decode cX4_giveBack 7 = .ok (.aload_n 0, 1) := by decide +kernel
theorem dX4_giveBack_8 : decode cX4_giveBack 8 = .ok (.getfield 18, 3) := by decide +kernel
theorem dX4_giveBack_11 : decode cX4_giveBack 11 = .ok (.bipush 12, 2) := by decide +kernel
theorem dX4_giveBack_13 : decode cX4_giveBack 13 = .ok (.if_icmp .gt 17, 3) := by decide +kernel
theorem dX4_giveBack_16 : decode cX4_giveBack 16 = .ok (.aload_n 0, 1) := by decide +kernel
theorem dX4_giveBack_17 : decode cX4_giveBack 17 = .ok (.getfield 11, 3) := by decide +kernel
theorem dX4_giveBack_20 : decode cX4_giveBack 20 = .ok (.aload_n 0, 1) := by decide +kernel
theorem dX4_giveBack_21 : decode cX4_giveBack 21 = .ok (.getfield 18, 3) := by decide +kernel
theorem dX4_giveBack_24 : decode cX4_giveBack 24 = .ok (.iconst 1, 1) := by decide +kernel
theorem dX4_giveBack_25 : decode cX4_giveBack 25 = .ok (.isub, 1) := by decide +kernel
theorem dX4_giveBack_26 : decode cX4_giveBack 26 = .ok (.aaload, 1) := by decide +kernel
theorem dX4_giveBack_27 : decode cX4_giveBack 27 = .ok (.goto 4, 3) := by decide +kernel
theorem dX4_giveBack_30 : decode cX4_giveBack 30 = .ok (.aconst_null, 1) := by decide +kernel
theorem dX4_giveBack_31 : decode cX4_giveBack 31 = .ok (.astore_n 2, 1) := by decide +kernel
theorem dX4_giveBack_32 : decode cX4_giveBack 32 = .ok (.aload_n 2, 1) := by decide +kernel
theorem dX4_giveBack_33 : decode cX4_giveBack 33 = .ok (.ifnonnull 5, 3) := by decide +kernel
theorem dX4_giveBack_36 : decode cX4_giveBack 36 = .ok (.iconst 0, 1) := by decide +kernel
theorem dX4_giveBack_37 : decode cX4_giveBack 37 = .ok (.ireturn, 1) := by decide +kernel
theorem dX4_giveBack_38 : decode cX4_giveBack 38 = .ok (.aload_n 1, 1) := by decide +kernel
theorem dX4_giveBack_39 : decode cX4_giveBack 39 = .ok (.aload_n 2, 1) := by decide +kernel
theorem dX4_giveBack_40 : decode cX4_giveBack 40 = .ok (.invokevirtual 25, 3) := by decide +kernel
theorem dX4_giveBack_43 : decode cX4_giveBack 43 = .ok (.aload_n 0, 1) := by decide +kernel
theorem dX4_giveBack_44 : decode cX4_giveBack 44 = .ok (.dup, 1) := by decide +kernel
theorem dX4_giveBack_45 : decode cX4_giveBack 45 = .ok (.getfield 18, 3) := by decide +kernel
theorem dX4_giveBack_48 : decode cX4_giveBack 48 = .ok (.iconst 1, 1) := by decide +kernel
theorem dX4_giveBack_49 : decode cX4_giveBack 49 = .ok (.isub, 1) := by decide +kernel
theorem dX4_giveBack_50 : decode cX4_giveBack 50 = .ok (.putfield 18, 3) := by decide +kernel
theorem dX4_giveBack_53 : decode cX4_giveBack 53 = .ok (.iconst 1, 1) := by decide +kernel
theorem dX4_giveBack_54 : decode cX4_giveBack 54 = .ok (.ireturn, 1) := by decide +kernel
theorem dX5_init_0 : decode cX5_init 0 = .ok (.aload_n 0, 1) := by decide +kernel
theorem dX5_init_1 : decode cX5_init 1 = .ok (.invokespecial 3, 3) := by decide +kernel
theorem dX5_init_4 : decode cX5_init 4 = .ok (.aload_n 0, 1) := by decide +kernel
theorem dX5_init_5 : decode cX5_init 5 = .ok (.iconst 1, 1) := by decide +kernel
theorem dX5_init_6 : decode cX5_init 6 = .ok (.putfield 9, 3) := by decide +kernel
theorem dX5_init_9 : decode cX5_init 9 = .ok (.aload_n 0, 1) := by decide +kernel
theorem dX5_init_10 : decode cX5_init 10 = .ok (.bipush 10, 2) := by decide +kernel
theorem dX5_init_12 : decode cX5_init 12 = .ok (.newarray .int, 2) := by decide +kernel
theorem dX5_init_14 : decode cX5_init 14 = .ok (.putfield 15, 3) := by decide +kernel
theorem dX5_init_17 : decode cX5_init 17 = .ok (.aload_n 0, 1) := by decide +kernel
theorem dX5_init_18 : decode cX5_init 18 = .ok (.bipush 10, 2) := by decide +kernel
theorem dX5_init_20 : decode cX5_init 20 = .ok (.newarray .int, 2) := by decide +kernel
theorem dX5_init_22 : decode cX5_init 22 = .ok (.putfield 19, 3) := by decide +kernel
theorem dX5_init_25 : decode cX5_init 25 = .ok (.aload_n 0, 1) := by decide +kernel
theorem dX5_init_26 : decode cX5_init 26 = .ok (.bipush 10, 2) := by decide +kernel
theorem dX5_init_28 : decode cX5_init 28 = .ok (.newarray .int, 2) := by decide +kernel
theorem dX5_init_30 : decode cX5_init 30 = .ok (.putfield 22, 3) := by decide +kernel
theorem dX5_init_33 : decode cX5_init 33 = .ok (.aload_n 0, 1) := by decide +kernel
theorem dX5_init_34 : decode cX5_init 34 = .ok (.bipush 10, 2) := by decide +kernel
theorem dX5_init_36 : decode cX5_init 36 = .ok (.newarray .int, 2) := by decide +kernel
theorem dX5_init_38 : decode cX5_init 38 = .ok (.putfield 25, 3) := by decide +kernel
theorem dX5_init_41 : decode cX5_init 41 = .ok (.aload_n 0, 1) := by decide +kernel
theorem dX5_init_42 : decode cX5_init 42 = .ok (.bipush 10, 2) := by decide +kernel
theorem dX5_init_44 : decode cX5_init 44 = .ok (.newarray .int, 2) := by decide +kernel
theorem dX5_init_46 : decode cX5_init 46 = .ok (.putfield 28, 3) := by decide +kernel
theorem dX5_init_49 : decode cX5_init 49 = .ok (.aload_n 0, 1) := by decide +kernel
theorem dX5_init_50 : decode cX5_init 50 = .ok (.bipush 120, 2) := by decide +kernel
theorem dX5_init_52 : decode cX5_init 52 = .ok (.newarray .int, 2) := by decide +kernel
theorem dX5_init_54 : decode cX5_init 54 = .ok (.putfield 31, 3) := by decide +kernel
theorem dX5_init_57 : decode cX5_init 57 = .ok (.aload_n 0, 1) := by decide +kernel
theorem dX5_init_58 : decode cX5_init 58 = .ok (.bipush 40, 2) := by decide +kernel
theorem dX5_init_60 : decode cX5_init 60 = .ok (.newarray .int, 2) := by decide +kernel
theorem dX5_init_62 : decode cX5_init 62 = .ok (.putfield 34, 3) := by decide +kernel
theorem dX5_init_65 : decode cX5_init 65 = .ok (.aload_n 0, 1) := by decide +kernel
theorem dX5_init_66 : decode cX5_init 66 = .ok (.bipush 40, 2) := by decide +kernel
theorem dX5_init_68 : decode cX5_init 68 = .ok (.newarray .int, 2) := by decide +kernel
theorem dX5_init_70 : decode cX5_init 70 = .ok (.putfield 37, 3) := by decide +kernel
theorem dX5_init_73 : decode cX5_init 73 = .ok (.aload_n 0, 1) := by decide +kernel
theorem dX5_init_74 : decode cX5_init 74 = .ok (.bipush 40, 2) := by decide +kernel
theorem dX5_init_76 : decode cX5_init 76 = .ok (.newarray .int, 2) := by decide +kernel
theorem dX5_init_78 : decode cX5_init 78 = .ok (.putfield 40, 3) := by decide +kernel
theorem dX5_init_81 : decode cX5_init 81 = .ok (.aload_n 0, 1) := by decide +kernel
theorem dX5_init_82 : decode cX5_init 82 = .ok (.bipush 60, 2) := by decide +kernel
theorem dX5_init_84 : decode cX5_init 84 = .ok (.newarray .int, 2) := by decide +kernel
theorem dX5_init_86 : decode cX5_init 86 = .ok (.putfield 43, 3) := by decide +kernel
theorem dX5_init_89 : decode cX5_init 89 = .ok (.aload_n 0, 1) := by decide +kernel
theorem dX5_init_90 : decode cX5_init 90 = .ok (.bipush 60, 2) := by decide +kernel
theorem dX5_init_92 : decode cX5_init 92 = .ok (.newarray .int, 2) := by decide +kernel
theorem dX5_init_94 : decode cX5_init 94 = .ok (.putfield 46, 3) := by decide +kernel
theorem dX5_init_97 : decode cX5_init 97 = .ok (.aload_n 0, 1) := by decide +kernel
theorem dX5_init_98 : decode cX5_init 98 = .ok (.bipush 60, 2) := by decide +kernel
theorem dX5_init_100 : decode cX5_init 100 = .ok (.newarray .int, 2) := by decide +kernel
theorem dX5_init_102 : decode cX5_init 102 = .ok (.putfield 49, 3) := by decide +kernel
theorem dX5_init_105 : decode cX5_init 105 = .ok (.aload_n 0, 1) := by decide +kernel
theorem dX5_init_106 : decode cX5_init 106 = .ok (.bipush 60, 2) := by decide +kernel
theorem dX5_init_108 : decode cX5_init 108 = .ok (.newarray .int, 2) := by decide +kernel
theorem dX5_init_110 : decode cX5_init 110 = .ok (.putfield 52, 3) := by decide +kernel
theorem dX5_init_113 : decode cX5_init 113 = .ok (.aload_n 0, 1) := by decide +kernel
theorem dX5_init_114 : decode cX5_init 114 = .ok (.bipush 60, 2) := by decide +kernel
theorem dX5_init_116 : decode cX5_init 116 = .ok (.newarray .int, 2) := by decide +kernel
theorem dX5_init_118 : decode cX5_init 118 = .ok (.putfield 55, 3) := by decide +kernel
theorem dX5_init_121 : decode cX5_init 121 = .ok (.return_, 1) := by decide +kernel
theorem dX5_copyFrom_0 : decode cX5_copyFrom 0 = .ok (.aload_n 0, 1) := by decide +kernel
theorem dX5_copyFrom_1 : decode cX5_copyFrom 1 = .ok (.aload_n 1, 1) := by decide +kernel
theorem dX5_copyFrom_2 : decode cX5_copyFrom 2 = .ok (.getfield 58, 3) := by decide +kernel
theorem dX5_copyFrom_5 : decode cX5_copyFrom 5 = .ok (.putfield 58, 3) := by decide +kernel
theorem dX5_copyFrom_8 : decode cX5_copyFrom 8 = .ok (.aload_n 0, 1) := by decide +kernel
theorem dX5_copyFrom_9 : decode cX5_copyFrom 9 = .ok (.aload_n 1, 1) := by decide +kernel
theorem dX5_copyFrom_10 : decode cX5_copyFrom 10 = .ok (.getfield 9, 3) := by decide +kernel
theorem dX5_copyFrom_13 : decode cX5_copyFrom 13 = .ok (.putfield 9, 3) := by decide +kernel
theorem dX5_copyFrom_16 : decode cX5_copyFrom 16 = .ok (.aload_n 0, 1) := by decide +kernel
theorem dX5_copyFrom_17 : decode cX5_copyFrom 17 = .ok (.aload_n 1, 1) := by decide +kernel
theorem dX5_copyFrom_18 : decode cX5_copyFrom 18 = .ok (.getfield 61, 3) := by decide +kernel
theorem dX5_copyFrom_21 : decode cX5_copyFrom 21 = .ok (.putfield 61, 3) := by decide +kernel
theorem dX5_copyFrom_24 : decode cX5_copyFrom 24 = .ok (.aload_n 0, 1) := by decide +kernel
theorem dX5_copyFrom_25 : decode cX5_copyFrom 25 = .ok (.aload_n 1, 1) := by decide +kernel
theorem dX5_copyFrom_26 : decode cX5_copyFrom 26 = .ok (.getfield 64, 3) := by decide +kernel
theorem dX5_copyFrom_29 : decode cX5_copyFrom 29 = .ok (.putfield 64, 3) := by decide +kernel
theorem dX5_copyFrom_32 : decode cX5_copyFrom 32 = .ok (.aload_n 0, 1) := by decide +kernel
theorem dX5_copyFrom_33 : decode cX5_copyFrom 33 = .ok (.aload_n 1, 1) := by decide +kernel
theorem dX5_copyFrom_34 : decode cX5_copyFrom 34 = .ok (.getfield 67, 3) := by decide +kernel
theorem dX5_copyFrom_37 : decode cX5_copyFrom 37 = .ok (.putfield 67, 3) := by decide +kernel
theorem dX5_copyFrom_40 : decode cX5_copyFrom 40 = .ok (.aload_n 1, 1) := by decide +kernel
theorem dX5_copyFrom_41 : decode cX5_copyFrom 41 = .ok (.getfield 15, 3) := by decide +kernel
theorem dX5_copyFrom_44 : decode cX5_copyFrom 44 = .ok (.aload_n 0, 1) := by decide +kernel
theorem dX5_copyFrom_45 : decode cX5_copyFrom 45 = .ok (.getfield 15, 3) := by decide +kernel
theorem dX5_copyFrom_48 : decode cX5_copyFrom 48 = .ok (.invokestatic 70, 3) := by decide +kernel
theorem dX5_copyFrom_51 : decode cX5_copyFrom 51 = .ok (.aload_n 1, 1) := by decide +kernel
theorem dX5_copyFrom_52 : decode cX5_copyFrom 52 = .ok (.getfield 19, 3) := by decide +kernel
theorem dX5_copyFrom_55 : decode cX5_copyFrom 55 = .ok (.aload_n 0, 1) := by decide +kernel
theorem dX5_copyFrom_56 : decode cX5_copyFrom 56 = .ok (.getfield 19, 3) := by decide +kernel
theorem dX5_copyFrom_59 : decode cX5_copyFrom 59 = .ok (.invokestatic 70, 3) := by decide +kernel
theorem dX5_copyFrom_62 : decode cX5_copyFrom 62 = .ok (.aload_n 1, 1) := by decide +kernel
theorem dX5_copyFrom_63 : decode cX5_copyFrom 63 = .ok (.getfield 22, 3) := by decide +kernel
theorem dX5_copyFrom_66 : decode cX5_copyFrom 66 = .ok (.aload_n 0, 1) := by decide +kernel
theorem dX5_copyFrom_67 : decode cX5_copyFrom 67 = .ok (.getfield 22, 3) := by decide +kernel
theorem dX5_copyFrom_70 : decode cX5_copyFrom 70 = .ok (.invokestatic 70, 3) := by decide +kernel
theorem dX5_copyFrom_73 : decode cX5_copyFrom 73 = .ok (.aload_n 1, 1) := by decide +kernel
theorem dX5_copyFrom_74 : decode cX5_copyFrom 74 = .ok (.getfield 25, 3) := by decide +kernel
theorem dX5_copyFrom_77 : decode cX5_copyFrom 77 = .ok (.aload_n 0, 1) := by decide +kernel
theorem dX5_copyFrom_78 : decode cX5_copyFrom 78 = .ok (.getfield 25, 3) := by decide +kernel
theorem dX5_copyFrom_81 : decode cX5_copyFrom 81 = .ok (.invokestatic 70, 3) := by decide +kernel
theorem dX5_copyFrom_84 : decode cX5_copyFrom 84 = .ok (.aload_n 1, 1) := by decide +kernel
theorem dX5_copyFrom_85 : decode cX5_copyFrom 85 = .ok (.getfield 28, 3) := by decide +kernel
theorem dX5_copyFrom_88 : decode cX5_copyFrom 88 = .ok (.aload_n 0, 1) := by decide +kernel
theorem dX5_copyFrom_89 : decode cX5_copyFrom 89 = .ok (.getfield 28, 3) := by decide +kernel
theorem dX5_copyFrom_92 : decode cX5_copyFrom 92 = .ok (.invokestatic 70, 3) := by decide +kernel
theorem dX5_copyFrom_95 : decode cX5_copyFrom 95 = .ok (.aload_n 1, 1) := by decide +kernel
theorem dX5_copyFrom_96 : decode cX5_copyFrom 96 = .ok (.getfield 31, 3) := by decide +kernel
theorem dX5_copyFrom_99 : decode cX5_copyFrom 99 = .ok (.aload_n 0, 1) := by decide +kernel
theorem dX5_copyFrom_100 : decode cX5_copyFrom 100 = .ok (.getfield 31, 3) := by decide +kernel
theorem dX5_copyFrom_103 : decode cX5_copyFrom 103 = .ok (.invokestatic 70, 3) := by decide +kernel
theorem dX5_copyFrom_106 : decode cX5_copyFrom 106 = .ok (.aload_n 1, 1) := by decide +kernel
theorem dX5_copyFrom_107 : decode cX5_copyFrom 107 = .ok (.getfield 34, 3) := by decide +kernel
theorem dX5_copyFrom_110 : decode cX5_copyFrom 110 = .ok (.aload_n 0, 1) := by decide +kernel
theorem dX5_copyFrom_111 : decode cX5_copyFrom 111 = .ok (.getfield 34, 3) := by decide +kernel
theorem dX5_copyFrom_114 : decode cX5_copyFrom 114 = .ok (.invokestatic 70, 3) := by decide +kernel
theorem dX5_copyFrom_117 : decode cX5_copyFrom 117 = .ok (.aload_n 1, 1) := by decide +kernel
theorem dX5_copyFrom_118 : decode cX5_copyFrom 118 = .ok (.getfield 37, 3) := by decide +kernel
theorem dX5_copyFrom_121 : decode cX5_copyFrom 121 = .ok (.aload_n 0, 1) := by decide +kernel
theorem dX5_copyFrom_122 : decode cX5_copyFrom 122 = .ok (.getfield 37, 3) := by decide +kernel
theorem dX5_copyFrom_125 : decode cX5_copyFrom 125 = .ok (.invokestatic 70, 3) := by decide +kernel
theorem dX5_copyFrom_128 : decode cX5_copyFrom 128 = .ok (.aload_n 1, 1) := by decide +kernel
theorem dX5_copyFrom_129 : decode cX5_copyFrom 129 = .ok (.getfield 40, 3) := by decide +kernel
theorem dX5_copyFrom_132 : decode cX5_copyFrom 132 = .ok (.aload_n 0, 1) := by decide +kernel
theorem dX5_copyFrom_133 : decode cX5_copyFrom 133 = .ok (.getfield 40, 3) := by decide +kernel
theorem dX5_copyFrom_136 : decode cX5_copyFrom 136 = .ok (.invokestatic 70, 3) := by decide +kernel
theorem dX5_copyFrom_139 : decode cX5_copyFrom 139 = .ok (.aload_n 1, 1) := by decide +kernel
theorem dX5_copyFrom_140 : decode cX5_copyFrom 140 = .ok (.getfield 43, 3) := by decide +kernel
theorem dX5_copyFrom_143 : decode cX5_copyFrom 143 = .ok (.aload_n 0, 1) := by decide +kernel
theorem dX5_copyFrom_144 : decode cX5_copyFrom 144 = .ok (.getfield 43, 3) := by decide +kernel
theorem dX5_copyFrom_147 : decode cX5_copyFrom 147 = .ok (.invokestatic 70, 3) := by decide +kernel
theorem dX5_copyFrom_150 : decode cX5_copyFrom 150 = .ok (.aload_n 1, 1) := by decide +kernel
theorem dX5_copyFrom_151 : decode cX5_copyFrom 151 = .ok (.getfield 46, 3) := by decide +kernel
theorem dX5_copyFrom_154 : decode cX5_copyFrom 154 = .ok (.aload_n 0, 1) := by decide +kernel
theorem dX5_copyFrom_155 : decode cX5_copyFrom 155 = .ok (.getfield 46, 3) := by decide +kernel
theorem dX5_copyFrom_158 : decode cX5_copyFrom 158 = .ok (.invokestatic 70, 3) := by decide +kernel
theorem dX5_copyFrom_161 : decode cX5_copyFrom 161 = .ok (.aload_n 1, 1) := by decide +kernel
theorem dX5_copyFrom_162 : decode cX5_copyFrom 162 = .ok (.getfield 49, 3) := by decide +kernel
theorem dX5_copyFrom_165 : decode cX5_copyFrom 165 = .ok (.aload_n 0, 1) := by decide +kernel
theorem dX5_copyFrom_166 : decode cX5_copyFrom 166 = .ok (.getfield 49, 3) := by decide +kernel
theorem dX5_copyFrom_169 : decode cX5_copyFrom 169 = .ok (.invokestatic 70, 3) := by decide +kernel
theorem dX5_copyFrom_172 : decode cX5_copyFrom 172 = .ok (.aload_n 1, 1) := by decide +kernel
theorem dX5_copyFrom_173 : decode cX5_copyFrom 173 = .ok (.getfield 52, 3) := by decide +kernel
theorem dX5_copyFrom_176 : decode cX5_copyFrom 176 = .ok (.aload_n 0, 1) := by decide +kernel
theorem dX5_copyFrom_177 : decode cX5_copyFrom 177 = .ok (.getfield 52, 3) := by decide +kernel
theorem dX5_copyFrom_180 : decode cX5_copyFrom 180 = .ok (.invokestatic 70, 3) := by decide +kernel
theorem dX5_copyFrom_183 : decode cX5_copyFrom 183 = .ok (.aload_n 1, 1) := by decide +kernel
theorem dX5_copyFrom_184 : decode cX5_copyFrom 184 = .ok (.getfield 55, 3) := by decide +kernel
theorem dX5_copyFrom_187 : decode cX5_copyFrom 187 = .ok (.aload_n 0, 1) := by decide +kernel
theorem dX5_copyFrom_188 : decode cX5_copyFrom 188 = .ok (.getfield 55, 3) := by decide +kernel
theorem dX5_copyFrom_191 : decode cX5_copyFrom 191 = .ok (.invokestatic 70, 3) := by decide +kernel
theorem dX5_copyFrom_194 : decode cX5_copyFrom 194 = .ok (.return_, 1) := by decide +kernel
theorem dX5_draw_0 : decode cX5_draw 0 = .ok (.aload_n 0, 1) := by decide +kernel
theorem dX5_draw_1 : decode cX5_draw 1 = .ok (.ldc 74, 2) := by decide +kernel
theorem dX5_draw_3 : decode cX5_draw 3 = .ok (.aload_n 0, 1) := by decide +kernel
theorem dX5_draw_4 : decode cX5_draw 4 = .ok (.getfield 9, 3) := by decide +kernel
theorem dX5_draw_7 : decode cX5_draw 7 = .ok (.imul, 1) := by decide +kernel
theorem dX5_draw_8 : decode cX5_draw 8 = .ok (.sipush 12345, 3) := by decide +kernel
theorem dX5_draw_11 : decode cX5_draw 11 = .ok (.iadd, 1) := by decide +kernel
theorem dX5_draw_12 : decode cX5_draw 12 = .ok (.putfield 9, 3) := by decide +kernel
theorem dX5_draw_15 : decode cX5_draw 15 = .ok (.aload_n 0, 1) := by decide +kernel
theorem dX5_draw_16 : decode cX5_draw 16 = .ok (.getfield 9, 3) := by decide +kernel
theorem dX5_draw_19 : decode cX5_draw 19 = .ok (.bipush 16, 2) := by decide +kernel
theorem dX5_draw_21 : decode cX5_draw 21 = .ok (.ishr, 1) := by decide +kernel
theorem dX5_draw_22 : decode cX5_draw 22 = .ok (.sipush 32767, 3) := by decide +kernel
theorem dX5_draw_25 : decode cX5_draw 25 = .ok (.iand, 1) := by decide +kernel
theorem dX5_draw_26 : decode cX5_draw 26 = .ok (.ireturn, 1) := by decide +kernel
theorem dX5_knownAt_0 : decode cX5_knownAt 0 = .ok (.iload_n 2, 1) := by decide +kernel
theorem dX5_knownAt_1 : decode cX5_knownAt 1 = .ok (.ifCond .lt 31, 3) := by decide +kernel
theorem dX5_knownAt_4 : decode cX5_knownAt 4 = .ok (.iload_n 2, 1) := by decide +kernel
theorem dX5_knownAt_5 : decode cX5_knownAt 5 = .ok (.aload_n 0, 1) := by decide +kernel
theorem dX5_knownAt_6 : decode cX5_knownAt 6 = .ok (.getfield 22, 3) := by decide +kernel
theorem dX5_knownAt_9 : decode cX5_knownAt 9 = .ok (.iload_n 1, 1) := by decide +kernel
theorem dX5_knownAt_10 : decode cX5_knownAt 10 = .ok (.invokestatic 75, 3) := by decide +kernel
theorem dX5_knownAt_13 : decode cX5_knownAt 13 = .ok (.if_icmp .ge 19, 3) := by decide +kernel
theorem dX5_knownAt_16 : decode cX5_knownAt 16 = .ok (.aload_n 0, 1) := by decide +kernel
theorem dX5_knownAt_17 : decode cX5_knownAt 17 = .ok (.getfield 31, 3) := by decide +kernel
theorem dX5_knownAt_20 : decode cX5_knownAt 20 = .ok (.iload_n 1, 1) := by decide +kernel
theorem dX5_knownAt_21 : decode cX5_knownAt 21 = .ok (.bipush 12, 2) := by decide +kernel
theorem dX5_knownAt_23 : decode cX5_knownAt 23 = .ok (.imul, 1) := by decide +kernel
theorem dX5_knownAt_24 : decode cX5_knownAt 24 = .ok (.iload_n 2, 1) := by decide +kernel
theorem dX5_knownAt_25 : decode cX5_knownAt 25 = .ok (.iadd, 1) := by decide +kernel
theorem dX5_knownAt_26 : decode cX5_knownAt 26 = .ok (.invokestatic 75, 3) := by decide +kernel
theorem dX5_knownAt_29 : decode cX5_knownAt 29 = .ok (.goto 4, 3) := by decide +kernel
theorem dX5_knownAt_32 : decode cX5_knownAt 32 = .ok (.iconst (-1), 1) := by decide +kernel
theorem dX5_knownAt_33 : decode cX5_knownAt 33 = .ok (.ireturn, 1) := by decide +kernel
theorem dX5_append_0 : decode cX5_append 0 = .ok (.aload_n 0, 1) := by decide +kernel
theorem dX5_append_1 : decode cX5_append 1 = .ok (.getfield 22, 3) := by decide +kernel
theorem dX5_append_4 : decode cX5_append 4 = .ok (.iload_n 1, 1) := by decide +kernel
theorem dX5_append_5 : decode cX5_append 5 = .ok (.invokestatic 75, 3) := by decide +kernel
theorem dX5_append_8 : decode cX5_append 8 = .ok (.istore_n 3, 1) := by decide +kernel
theorem dX5_append_9 : decode cX5_append 9 = .ok (.iload_n 3, 1) := by decide +kernel
theorem dX5_append_10 : decode cX5_append 10 = .ok (.bipush 12, 2) := by decide +kernel
theorem dX5_append_12 : decode cX5_append 12 = .ok (.if_icmp .ge 48, 3) := by decide +kernel
theorem dX5_append_15 : decode cX5_append 15 = .ok (.aload_n 0, 1) := by decide +kernel
theorem dX5_append_16 : decode cX5_append 16 = .ok (.getfield 31, 3) := by decide +kernel
theorem dX5_append_19 : decode cX5_append 19 = .ok (.iload_n 1, 1) := by decide +kernel
theorem dX5_append_20 : decode cX5_append 20 = .ok (.bipush 12, 2) := by decide +kernel
theorem dX5_append_22 : decode cX5_append 22 = .ok (.imul, 1) := by decide +kernel
theorem dX5_append_23 : decode cX5_append 23 = .ok (.iload_n 3, 1) := by decide +kernel
theorem dX5_append_24 : decode cX5_append 24 = .ok (.iadd, 1) := by decide +kernel
theorem dX5_append_25 : decode cX5_append 25 = .ok (.iload_n 2, 1) := by decide +kernel
theorem dX5_append_26 : decode cX5_append 26 = .ok (.invokestatic 79, 3) := by decide +kernel
theorem dX5_append_29 : decode cX5_append 29 = .ok (.aload_n 0, 1) := by decide +kernel
theorem dX5_append_30 : decode cX5_append 30 = .ok (.getfield 22, 3) := by decide +kernel
theorem dX5_append_33 : decode cX5_append 33 = .ok (.iload_n 1, 1) := by decide +kernel
theorem dX5_append_34 : decode cX5_append 34 = .ok (.iload_n 3, 1) := by decide +kernel
theorem dX5_append_35 : decode cX5_append 35 = .ok (.iconst 1, 1) := by decide +kernel
theorem dX5_append_36 : decode cX5_append 36 = .ok (.iadd, 1) := by decide +kernel
theorem dX5_append_37 : decode cX5_append 37 = .ok (.invokestatic 79, 3) := by decide +kernel
theorem dX5_append_40 : decode cX5_append 40 = .ok (.aload_n 0, 1) := by decide +kernel
theorem dX5_append_41 : decode cX5_append 41 = .ok (.getfield 25, 3) := by decide +kernel
theorem dX5_append_44 : decode cX5_append 44 = .ok (.iload_n 1, 1) := by decide +kernel
theorem dX5_append_45 : decode cX5_append 45 = .ok (.aload_n 0, 1) := by decide +kernel
theorem dX5_append_46 : decode cX5_append 46 = .ok (.getfield 25, 3) := by decide +kernel
theorem dX5_append_49 : decode cX5_append 49 = .ok (.iload_n 1, 1) := by decide +kernel
theorem dX5_append_50 : decode cX5_append 50 = .ok (.invokestatic 75, 3) := by decide +kernel
theorem dX5_append_53 : decode cX5_append 53 = .ok (.iconst 1, 1) := by decide +kernel
theorem dX5_append_54 : decode cX5_append 54 = .ok (.iload_n 2, 1) := by decide +kernel
theorem dX5_append_55 : decode cX5_append 55 = .ok (.ishl, 1) := by decide +kernel
theorem dX5_append_56 : decode cX5_append 56 = .ok (.ior, 1) := by decide +kernel
theorem dX5_append_57 : decode cX5_append 57 = .ok (.invokestatic 79, 3) := by decide +kernel
theorem dX5_append_60 : decode cX5_append 60 = .ok (.return_, 1) := by decide +kernel
theorem dX5_forget_0 : decode cX5_forget 0 = .ok (.aload_n 0, 1) := by decide +kernel
theorem dX5_forget_1 : decode cX5_forget 1 = .ok (.getfield 22, 3) := by decide +kernel
theorem dX5_forget_4 : decode cX5_forget 4 = .ok (.iload_n 1, 1) := by decide +kernel
theorem dX5_forget_5 : decode cX5_forget 5 = .ok (.invokestatic 75, 3) := by decide +kernel
theorem dX5_forget_8 : decode cX5_forget 8 = .ok (.istore_n 3, 1) := by decide +kernel
theorem dX5_forget_9 : decode cX5_forget 9 = .ok (.iconst 0, 1) := by decide +kernel
theorem dX5_forget_10 : decode cX5_forget 10 = .ok (.istore 4, 2) := by decide +kernel
theorem dX5_forget_12 : decode cX5_forget 12 = .ok (.iconst 0, 1) := by decide +kernel
theorem dX5_forget_13 : decode cX5_forget 13 = .ok (.istore 5, 2) := by decide +kernel
theorem dX5_forget_15 : decode cX5_forget 15 = .ok (.iload 5, 2) := by decide +kernel
theorem dX5_forget_17 : decode cX5_forget 17 = .ok (.iload_n 3, 1) := by decide +kernel
theorem dX5_forget_18 : decode cX5_forget 18 = .ok (.if_icmp .ge 50, 3) := by decide +kernel
theorem dX5_forget_21 : decode cX5_forget 21 = .ok (.aload_n 0, 1) := by decide +kernel
theorem dX5_forget_22 : decode cX5_forget 22 = .ok (.getfield 31, 3) := by decide +kernel
theorem dX5_forget_25 : decode cX5_forget 25 = .ok (.iload_n 1, 1) := by decide +kernel
theorem dX5_forget_26 : decode cX5_forget 26 = .ok (.bipush 12, 2) := by decide +kernel
theorem dX5_forget_28 : decode cX5_forget 28 = .ok (.imul, 1) := by decide +kernel
theorem dX5_forget_29 : decode cX5_forget 29 = .ok (.iload 5, 2) := by decide +kernel
theorem dX5_forget_31 : decode cX5_forget 31 = .ok (.iadd, 1) := by decide +kernel
theorem dX5_forget_32 : decode cX5_forget 32 = .ok (.invokestatic 75, 3) := by decide +kernel
theorem dX5_forget_35 : decode cX5_forget 35 = .ok (.istore 6, 2) := by decide +kernel
theorem dX5_forget_37 : decode cX5_forget 37 = .ok (.iload 6, 2) := by decide +kernel
theorem dX5_forget_39 : decode cX5_forget 39 = .ok (.iload_n 2, 1) := by decide +kernel
theorem dX5_forget_40 : decode cX5_forget 40 = .ok (.if_icmp .eq 22, 3) := by decide +kernel
theorem dX5_forget_43 : decode cX5_forget 43 = .ok (.aload_n 0, 1) := by decide +kernel
theorem dX5_forget_44 : decode cX5_forget 44 = .ok (.getfield 31, 3) := by decide +kernel
theorem dX5_forget_47 : decode cX5_forget 47 = .ok (.iload_n 1, 1) := by decide +kernel
theorem dX5_forget_48 : decode cX5_forget 48 = .ok (.bipush 12, 2) := by decide +kernel
theorem dX5_forget_50 : decode cX5_forget 50 = .ok (.imul, 1) := by decide +kernel
theorem dX5_forget_51 : decode cX5_forget 51 = .ok (.iload 4, 2) := by decide +kernel
theorem dX5_forget_53 : decode cX5_forget 53 = .ok (.iadd, 1) := by decide +kernel
theorem dX5_forget_54 : decode cX5_forget 54 = .ok (.iload 6, 2) := by decide +kernel
theorem dX5_forget_56 : decode cX5_forget 56 = .ok (.invokestatic 79, 3) := by decide +kernel
theorem dX5_forget_59 : decode cX5_forget 59 = .ok (.iinc 4 1, 3) := by decide +kernel
theorem dX5_forget_62 : decode cX5_forget 62 = .ok (.iinc 5 1, 3) := by decide +kernel
theorem dX5_forget_65 : decode cX5_forget 65 = .ok (.goto (-50), 3) := by decide +kernel
theorem dX5_forget_68 : decode cX5_forget 68 = .ok (.aload_n 0, 1) := by decide +kernel
theorem dX5_forget_69 : decode cX5_forget 69 = .ok (.getfield 22, 3) := by decide +kernel
theorem dX5_forget_72 : decode cX5_forget 72 = .ok (.iload_n 1, 1) := by decide +kernel
theorem dX5_forget_73 : decode cX5_forget 73 = .ok (.iload 4, 2) := by decide +kernel
theorem dX5_forget_75 : decode cX5_forget 75 = .ok (.invokestatic 79, 3) := by decide +kernel
theorem dX5_forget_78 : decode cX5_forget 78 = .ok (.aload_n 0, 1) := by decide +kernel
theorem dX5_forget_79 : decode cX5_forget 79 = .ok (.getfield 25, 3) := by decide +kernel
theorem dX5_forget_82 : decode cX5_forget 82 = .ok (.iload_n 1, 1) := by decide +kernel
theorem dX5_forget_83 : decode cX5_forget 83 = .ok (.aload_n 0, 1) := by decide +kernel
theorem dX5_forget_84 : decode cX5_forget 84 = .ok (.getfield 25, 3) := by decide +kernel
theorem dX5_forget_87 : decode cX5_forget 87 = .ok (.iload_n 1, 1) := by decide +kernel
theorem dX5_forget_88 : decode cX5_forget 88 = .ok (.invokestatic 75, 3) := by decide +kernel
theorem dX5_forget_91 : decode cX5_forget 91 = .ok (.iconst 1, 1) := by decide +kernel
theorem dX5_forget_92 : decode cX5_forget 92 = .ok (.iload_n 2, 1) := by decide +kernel
theorem dX5_forget_93 : decode cX5_forget 93 = .ok (.ishl, 1) := by decide +kernel
theorem dX5_forget_94 : decode cX5_forget 94 = .ok (.iconst (-1), 1) := by decide +kernel
theorem dX5_forget_95 : decode cX5_forget 95 = .ok (.ixor, 1) := by decide +kernel
theorem dX5_forget_96 : decode cX5_forget 96 = .ok (.iand, 1) := by decide +kernel
theorem dX5_forget_97 : decode cX5_forget 97 = .ok (.invokestatic 79, 3) := by decide +kernel
theorem dX5_forget_100 : decode cX5_forget 100 = .ok (.return_, 1) := by decide +kernel
theorem dX5_layDown_0 : decode cX5_layDown 0 = .ok (.aload_n 0, 1) := by decide +kernel
theorem dX5_layDown_1 : decode cX5_layDown 1 = .ok (.getfield 67, 3) := by decide +kernel
theorem dX5_layDown_4 : decode cX5_layDown 4 = .ok (.bipush 40, 2) := by decide +kernel
theorem dX5_layDown_6 : decode cX5_layDown 6 = .ok (.if_icmp .lt 8, 3) := by decide +kernel
theorem dX5_layDown_9 : decode cX5_layDown 9 = .ok (.aload_n 0, 1) := by decide +kernel
theorem dX5_layDown_10 : decode cX5_layDown 10 = .ok (.iconst 0, 1) := by decide +kernel
theorem dX5_layDown_11 : decode cX5_layDown 11 = .ok (.invokevirtual 83, 3) := by decide +kernel
theorem dX5_layDown_14 : decode cX5_layDown 14 = .ok (.aload_n 0, 1) := by decide +kernel
theorem dX5_layDown_15 : decode cX5_layDown 15 = .ok (.getfield 34, 3) := by decide +kernel
theorem dX5_layDown_18 : decode cX5_layDown 18 = .ok (.aload_n 0, 1) := by decide +kernel
theorem dX5_layDown_19 : decode cX5_layDown 19 = .ok (.getfield 67, 3) := by decide +kernel
theorem dX5_layDown_22 : decode cX5_layDown 22 = .ok (.iload_n 1, 1) := by decide +kernel
theorem dX5_layDown_23 : decode cX5_layDown 23 = .ok (.invokestatic 79, 3) := by decide +kernel
theorem dX5_layDown_26 : decode cX5_layDown 26 = .ok (.aload_n 0, 1) := by decide +kernel
theorem dX5_layDown_27 : decode cX5_layDown 27 = .ok (.getfield 37, 3) := by decide +kernel
theorem dX5_layDown_30 : decode cX5_layDown 30 = .ok (.aload_n 0, 1) := by decide +kernel
theorem dX5_layDown_31 : decode cX5_layDown 31 = .ok (.getfield 67, 3) := by decide +kernel
theorem dX5_layDown_34 : decode cX5_layDown 34 = .ok (.iload_n 2, 1) := by decide +kernel
theorem dX5_layDown_35 : decode cX5_layDown 35 = .ok (.invokestatic 79, 3) := by decide +kernel
theorem dX5_layDown_38 : decode cX5_layDown 38 = .ok (.aload_n 0, 1) := by decide +kernel
theorem dX5_layDown_39 : decode cX5_layDown 39 = .ok (.getfield 40, 3) := by decide +kernel
theorem dX5_layDown_42 : decode cX5_layDown 42 = .ok (.aload_n 0, 1) := by decide +kernel
theorem dX5_layDown_43 : decode cX5_layDown 43 = .ok (.getfield 67, 3) := by decide +kernel
theorem dX5_layDown_46 : decode cX5_layDown 46 = .ok (.iload_n 3, 1) := by decide +kernel
theorem dX5_layDown_47 : decode cX5_layDown 47 = .ok (.invokestatic 79, 3) := by decide +kernel
theorem dX5_layDown_50 : decode cX5_layDown 50 = .ok (.aload_n 0, 1) := by decide +kernel
theorem dX5_layDown_51 : decode cX5_layDown 51 = .ok (.dup, 1) := by decide +kernel
theorem dX5_layDown_52 : decode cX5_layDown 52 = .ok (.getfield 67, 3) := by decide +kernel
theorem dX5_layDown_55 : decode cX5_layDown 55 = .ok (.iconst 1, 1) := by decide +kernel
theorem dX5_layDown_56 : decode cX5_layDown 56 = .ok (.iadd, 1) := by decide +kernel
theorem dX5_layDown_57 : decode cX5_layDown 57 = .ok (.putfield 67, 3) := by decide +kernel
theorem dX5_layDown_60 : decode cX5_layDown 60 = .ok (.return_, 1) := by decide +kernel
theorem dX5_takeThing_0 : decode cX5_takeThing 0 = .ok (.aload_n 0, 1) := by decide +kernel
theorem dX5_takeThing_1 : decode cX5_takeThing 1 = .ok (.getfield 67, 3) := by decide +kernel
theorem dX5_takeThing_4 : decode cX5_takeThing 4 = .ok (.iconst 1, 1) := by decide +kernel
theorem dX5_takeThing_5 : decode cX5_takeThing 5 = .ok (.isub, 1) := by decide +kernel
theorem dX5_takeThing_6 : decode cX5_takeThing 6 = .ok (.iload_n 1, 1) := by decide +kernel
theorem dX5_takeThing_7 : decode cX5_takeThing 7 = .ok (.isub, 1) := by decide +kernel
theorem dX5_takeThing_8 : decode cX5_takeThing 8 = .ok (.istore_n 2, 1) := by decide +kernel
theorem dX5_takeThing_9 : decode cX5_takeThing 9 = .ok (.iload_n 1, 1) := by decide +kernel
theorem dX5_takeThing_10 : decode cX5_takeThing 10 = .ok (.ifCond .lt 16, 3) := by decide +kernel
theorem dX5_takeThing_13 : decode cX5_takeThing 13 = .ok (.iload_n 2, 1) := by decide +kernel
theorem dX5_takeThing_14 : decode cX5_takeThing 14 = .ok (.ifCond .lt 12, 3) := by decide +kernel
theorem dX5_takeThing_17 : decode cX5_takeThing 17 = .ok (.aload_n 0, 1) := by decide +kernel
theorem dX5_takeThing_18 : decode cX5_takeThing 18 = .ok (.getfield 67, 3) := by decide +kernel
theorem dX5_takeThing_21 : decode cX5_takeThing 21 = .ok (.bipush 40, 2) := by decide +kernel
theorem dX5_takeThing_23 : decode cX5_takeThing 23 = .ok (.if_icmp .le 4, 3) := by decide +kernel
theorem dX5_takeThing_26 : decode cX5_takeThing 26 = .ok (.return_, 1) := by decide +kernel
theorem dX5_takeThing_27 : decode cX5_takeThing 27 = .ok (.aload_n 0, 1) := by decide +kernel
theorem dX5_takeThing_28 : decode cX5_takeThing 28 = .ok (.getfield 34, 3) := by decide +kernel
theorem dX5_takeThing_31 : decode cX5_takeThing 31 = .ok (.iload_n 1, 1) := by decide +kernel
theorem dX5_takeThing_32 : decode cX5_takeThing 32 = .ok (.iconst 1, 1) := by decide +kernel
theorem dX5_takeThing_33 : decode cX5_takeThing 33 = .ok (.iadd, 1) := by decide +kernel
theorem dX5_takeThing_34 : decode cX5_takeThing 34 = .ok (.aload_n 0, 1) := by decide +kernel
theorem dX5_takeThing_35 : decode cX5_takeThing 35 = .ok (.getfield 34, 3) := by decide +kernel
theorem dX5_takeThing_38 : decode cX5_takeThing 38 = .ok (.iload_n 1, 1) := by decide +kernel
theorem dX5_takeThing_39 : decode cX5_takeThing 39 = .ok (.iload_n 2, 1) := by decide +kernel
theorem dX5_takeThing_40 : decode cX5_takeThing 40 = .ok (.invokestatic 87, 3) := by decide +kernel
theorem dX5_takeThing_43 : decode cX5_takeThing 43 = .ok (.aload_n 0, 1) := by decide +kernel
theorem dX5_takeThing_44 : decode cX5_takeThing 44 = .ok (.getfield 37, 3) := by decide +kernel
theorem dX5_takeThing_47 : decode cX5_takeThing 47 = .ok (.iload_n 1, 1) := by decide +kernel
theorem dX5_takeThing_48 : decode cX5_takeThing 48 = .ok (.iconst 1, 1) := by decide +kernel
theorem dX5_takeThing_49 : decode cX5_takeThing 49 = .ok (.iadd, 1) := by decide +kernel
theorem dX5_takeThing_50 : decode cX5_takeThing 50 = .ok (.aload_n 0, 1) := by decide +kernel
theorem dX5_takeThing_51 : decode cX5_takeThing 51 = .ok (.getfield 37, 3) := by decide +kernel
theorem dX5_takeThing_54 : decode cX5_takeThing 54 = .ok (.iload_n 1, 1) := by decide +kernel
theorem dX5_takeThing_55 : decode cX5_takeThing 55 = .ok (.iload_n 2, 1) := by decide +kernel
theorem dX5_takeThing_56 : decode cX5_takeThing 56 = .ok (.invokestatic 87, 3) := by decide +kernel
theorem dX5_takeThing_59 : decode cX5_takeThing 59 = .ok (.aload_n 0, 1) := by decide +kernel
theorem dX5_takeThing_60 : decode cX5_takeThing 60 = .ok (.getfield 40, 3) := by decide +kernel
theorem dX5_takeThing_63 : decode cX5_takeThing 63 = .ok (.iload_n 1, 1) := by decide +kernel
theorem dX5_takeThing_64 : decode cX5_takeThing 64 = .ok (.iconst 1, 1) := by decide +kernel
theorem dX5_takeThing_65 : decode cX5_takeThing 65 = .ok (.iadd, 1) := by decide +kernel
theorem dX5_takeThing_66 : decode cX5_takeThing 66 = .ok (.aload_n 0, 1) := by decide +kernel
theorem dX5_takeThing_67 : decode cX5_takeThing 67 = .ok (.getfield 40, 3) := by decide +kernel
theorem dX5_takeThing_70 : decode cX5_takeThing 70 = .ok (.iload_n 1, 1) := by decide +kernel
theorem dX5_takeThing_71 : decode cX5_takeThing 71 = .ok (.iload_n 2, 1) := by decide +kernel
theorem dX5_takeThing_72 : decode cX5_takeThing 72 = .ok (.invokestatic 87, 3) := by decide +kernel
theorem dX5_takeThing_75 : decode cX5_takeThing 75 = .ok (.aload_n 0, 1) := by decide +kernel
theorem dX5_takeThing_76 : decode cX5_takeThing 76 = .ok (.dup, 1) := by decide +kernel
theorem dX5_takeThing_77 : decode cX5_takeThing 77 = .ok (.getfield 67, 3) := by decide +kernel
theorem dX5_takeThing_80 : decode cX5_takeThing 80 = .ok (.iconst 1, 1) := by decide +kernel
theorem dX5_takeThing_81 : decode cX5_takeThing 81 = .ok (.isub, 1) := by decide +kernel
theorem dX5_takeThing_82 : decode cX5_takeThing 82 = .ok (.putfield 67, 3) := by decide +kernel
theorem dX5_takeThing_85 : decode cX5_takeThing 85 = .ok (.return_, 1) := by decide +kernel
theorem dX5_timesInField_0 : decode cX5_timesInField 0 = .ok (.iconst 0, 1) := by decide +kernel
theorem dX5_timesInField_1 : decode cX5_timesInField 1 = .ok (.istore_n 2, 1) := by decide +kernel
theorem dX5_timesInField_2 : decode cX5_timesInField 2 = .ok (.iconst 0, 1) := by decide +kernel
theorem dX5_timesInField_3 : decode cX5_timesInField 3 = .ok (.istore_n 3, 1) := by decide +kernel
theorem dX5_timesInField_4 : decode cX5_timesInField 4 = .ok (.iload_n 3, 1) := by decide +kernel
theorem dX5_timesInField_5 : decode cX5_timesInField 5 = .ok (.aload_n 0, 1) := by decide +kernel
theorem dX5_timesInField_6 : decode cX5_timesInField 6 = .ok (.getfield 67, 3) := by decide +kernel
theorem dX5_timesInField_9 : decode cX5_timesInField 9 = .ok (.if_icmp .ge 30, 3) := by decide +kernel
theorem dX5_timesInField_12 : decode cX5_timesInField 12 = .ok (.iload_n 3, 1) := by decide +kernel
theorem dX5_timesInField_13 : decode cX5_timesInField 13 = .ok (.bipush 40, 2) := by decide +kernel
theorem dX5_timesInField_15 : decode cX5_timesInField 15 = .ok (.if_icmp .ge 24, 3) := by decide +kernel
theorem dX5_timesInField_18 : decode cX5_timesInField 18 = .ok (.aload_n 0, 1) := by decide +kernel
theorem dX5_timesInField_19 : decode cX5_timesInField 19 = .ok (.getfield 34, 3) := by decide +kernel
theorem dX5_timesInField_22 : decode cX5_timesInField 22 = .ok (.iload_n 3, 1) := by decide +kernel
theorem dX5_timesInField_23 : decode cX5_timesInField 23 = .ok (.invokestatic 75, 3) := by decide +kernel
theorem dX5_timesInField_26 : decode cX5_timesInField 26 = .ok (.iload_n 1, 1) := by decide +kernel
theorem dX5_timesInField_27 : decode cX5_timesInField 27 = .ok (.if_icmp .ne 6, 3) := by decide +kernel
theorem dX5_timesInField_30 : decode cX5_timesInField 30 = .ok (.iinc 2 1, 3) := by decide +kernel
theorem dX5_timesInField_33 : decode cX5_timesInField 33 = .ok (.iinc 3 1, 3) := by decide +kernel
theorem dX5_timesInField_36 : decode cX5_timesInField 36 = .ok (.goto (-32), 3) := by decide +kernel
theorem dX5_timesInField_39 : decode cX5_timesInField 39 = .ok (.iload_n 2, 1) := by decide +kernel
theorem dX5_timesInField_40 : decode cX5_timesInField 40 = .ok (.ireturn, 1) := by decide +kernel
theorem dX5_writeRow_0 : decode cX5_writeRow 0 = .ok (.aload_n 0, 1) := by decide +kernel
theorem dX5_writeRow_1 : decode cX5_writeRow 1 = .ok (.getfield 61, 3) := by decide +kernel
theorem dX5_writeRow_4 : decode cX5_writeRow 4 = .ok (.bipush 60, 2) := by decide +kernel
theorem dX5_writeRow_6 : decode cX5_writeRow 6 = .ok (.irem, 1) := by decide +kernel
theorem dX5_writeRow_7 : decode cX5_writeRow 7 = .ok (.istore 5, 2) := by decide +kernel
theorem dX5_writeRow_9 : decode cX5_writeRow 9 = .ok (.aload_n 0, 1) := by decide +kernel
theorem dX5_writeRow_10 : decode cX5_writeRow 10 = .ok (.getfield 43, 3) := by decide +kernel
theorem dX5_writeRow_13 : decode cX5_writeRow 13 = .ok (.iload 5, 2) := by decide +kernel
theorem dX5_writeRow_15 : decode cX5_writeRow 15 = .ok (.aload_n 0, 1) := by decide +kernel
theorem dX5_writeRow_16 : decode cX5_writeRow 16 = .ok (.getfield 58, 3) := by decide +kernel
theorem dX5_writeRow_19 : decode cX5_writeRow 19 = .ok (.invokestatic 79, 3) := by decide +kernel
theorem dX5_writeRow_22 : decode cX5_writeRow 22 = .ok (.aload_n 0, 1) := by decide +kernel
theorem dX5_writeRow_23 : decode cX5_writeRow 23 = .ok (.getfield 46, 3) := by decide +kernel
theorem dX5_writeRow_26 : decode cX5_writeRow 26 = .ok (.iload 5, 2) := by decide +kernel
theorem dX5_writeRow_28 : decode cX5_writeRow 28 = .ok (.iload_n 1, 1) := by decide +kernel
theorem dX5_writeRow_29 : decode cX5_writeRow 29 = .ok (.invokestatic 79, 3) := by decide +kernel
theorem dX5_writeRow_32 : decode cX5_writeRow 32 = .ok (.aload_n 0, 1) := by decide +kernel
theorem dX5_writeRow_33 : decode cX5_writeRow 33 = .ok (.getfield 49, 3) := by decide +kernel
theorem dX5_writeRow_36 : decode cX5_writeRow 36 = .ok (.iload 5, 2) := by decide +kernel
theorem dX5_writeRow_38 : decode cX5_writeRow 38 = .ok (.iload_n 2, 1) := by decide +kernel
theorem dX5_writeRow_39 : decode cX5_writeRow 39 = .ok (.invokestatic 79, 3) := by decide +kernel
theorem dX5_writeRow_42 : decode cX5_writeRow 42 = .ok (.aload_n 0, 1) := by decide +kernel
theorem dX5_writeRow_43 : decode cX5_writeRow 43 = .ok (.getfield 52, 3) := by decide +kernel
theorem dX5_writeRow_46 : decode cX5_writeRow 46 = .ok (.iload 5, 2) := by decide +kernel
theorem dX5_writeRow_48 : decode cX5_writeRow 48 = .ok (.iload_n 3, 1) := by decide +kernel
theorem dX5_writeRow_49 : decode cX5_writeRow 49 = .ok (.invokestatic 79, 3) := by decide +kernel
theorem dX5_writeRow_52 : decode cX5_writeRow 52 = .ok (.aload_n 0, 1) := by decide +kernel
theorem dX5_writeRow_53 : decode cX5_writeRow 53 = .ok (.getfield 55, 3) := by decide +kernel
theorem dX5_writeRow_56 : decode cX5_writeRow 56 = .ok (.iload 5, 2) := by decide +kernel
theorem dX5_writeRow_58 : decode cX5_writeRow 58 = .ok (.iload 4, 2) := by decide +kernel
theorem dX5_writeRow_60 : decode cX5_writeRow 60 = .ok (.ifCond .eq 7, 3) := by decide +kernel
theorem dX5_writeRow_63 : decode cX5_writeRow 63 = .ok (.iconst 1, 1) := by decide +kernel
theorem dX5_writeRow_64 : decode cX5_writeRow 64 = .ok (.goto 4, 3) := by decide +kernel
theorem dX5_writeRow_67 : decode cX5_writeRow 67 = .ok (.iconst 0, 1) := by decide +kernel
theorem dX5_writeRow_68 : decode cX5_writeRow 68 = .ok (.invokestatic 79, 3) := by decide +kernel
theorem dX5_writeRow_71 : decode cX5_writeRow 71 = .ok (.aload_n 0, 1) := by decide +kernel
theorem dX5_writeRow_72 : decode cX5_writeRow 72 = .ok (.dup, 1) := by decide +kernel
theorem dX5_writeRow_73 : decode cX5_writeRow 73 = .ok (.getfield 61, 3) := by decide +kernel
theorem dX5_writeRow_76 : decode cX5_writeRow 76 = .ok (.iconst 1, 1) := by decide +kernel
theorem dX5_writeRow_77 : decode cX5_writeRow 77 = .ok (.iadd, 1) := by decide +kernel
theorem dX5_writeRow_78 : decode cX5_writeRow 78 = .ok (.putfield 61, 3) := by decide +kernel
theorem dX5_writeRow_81 : decode cX5_writeRow 81 = .ok (.return_, 1) := by decide +kernel
theorem dX5_rowCount_0 : decode cX5_rowCount 0 = .ok (.aload_n 0, 1) := by decide +kernel
theorem dX5_rowCount_1 : decode cX5_rowCount 1 = .ok (.getfield 61, 3) := by decide +kernel
theorem dX5_rowCount_4 : decode cX5_rowCount 4 = .ok (.bipush 60, 2) := by decide +kernel
theorem dX5_rowCount_6 : decode cX5_rowCount 6 = .ok (.invokestatic 93, 3) := by decide +kernel
theorem dX5_rowCount_9 : decode cX5_rowCount 9 = .ok (.ireturn, 1) := by decide +kernel
theorem dX5_rowAgo_0 : decode cX5_rowAgo 0 = .ok (.iload_n 1, 1) := by decide +kernel
theorem dX5_rowAgo_1 : decode cX5_rowAgo 1 = .ok (.ifCond .lt 25, 3) := by decide +kernel
theorem dX5_rowAgo_4 : decode cX5_rowAgo 4 = .ok (.iload_n 1, 1) := by decide +kernel
theorem dX5_rowAgo_5 : decode cX5_rowAgo 5 = .ok (.aload_n 0, 1) := by decide +kernel
theorem dX5_rowAgo_6 : decode cX5_rowAgo 6 = .ok (.invokevirtual 99, 3) := by decide +kernel
theorem dX5_rowAgo_9 : decode cX5_rowAgo 9 = .ok (.if_icmp .ge 17, 3) := by decide +kernel
theorem dX5_rowAgo_12 : decode cX5_rowAgo 12 = .ok (.aload_n 0, 1) := by decide +kernel
theorem dX5_rowAgo_13 : decode cX5_rowAgo 13 = .ok (.getfield 61, 3) := by decide +kernel
theorem dX5_rowAgo_16 : decode cX5_rowAgo 16 = .ok (.iconst 1, 1) := by decide +kernel
theorem dX5_rowAgo_17 : decode cX5_rowAgo 17 = .ok (.isub, 1) := by decide +kernel
theorem dX5_rowAgo_18 : decode cX5_rowAgo 18 = .ok (.iload_n 1, 1) := by decide +kernel
theorem dX5_rowAgo_19 : decode cX5_rowAgo 19 = .ok (.isub, 1) := by decide +kernel
theorem dX5_rowAgo_20 : decode cX5_rowAgo 20 = .ok (.bipush 60, 2) := by decide +kernel
theorem dX5_rowAgo_22 : decode cX5_rowAgo 22 = .ok (.irem, 1) := by decide +kernel
theorem dX5_rowAgo_23 : decode cX5_rowAgo 23 = .ok (.goto 4, 3) := by decide +kernel
theorem dX5_rowAgo_26 : decode cX5_rowAgo 26 = .ok (.iconst (-1), 1) := by decide +kernel
theorem dX5_rowAgo_27 : decode cX5_rowAgo 27 = .ok (.ireturn, 1) := by decide +kernel
theorem dX5_agoLost_0 : decode cX5_agoLost 0 = .ok (.aload_n 0, 1) := by decide +kernel
theorem dX5_agoLost_1 : decode cX5_agoLost 1 = .ok (.invokevirtual 99, 3) := by decide +kernel
theorem dX5_agoLost_4 : decode cX5_agoLost 4 = .ok (.istore_n 3, 1) := by decide +kernel
theorem dX5_agoLost_5 : decode cX5_agoLost 5 = .ok (.iconst 0, 1) := by decide +kernel
theorem dX5_agoLost_6 : decode cX5_agoLost 6 = .ok (.istore 4, 2) := by decide +kernel
theorem dX5_agoLost_8 : decode cX5_agoLost 8 = .ok (.iload 4, 2) := by decide +kernel
theorem dX5_agoLost_10 : decode cX5_agoLost 10 = .ok (.iload_n 3, 1) := by decide +kernel
theorem dX5_agoLost_11 : decode cX5_agoLost 11 = .ok (.if_icmp .ge 46, 3) := by decide +kernel
theorem dX5_agoLost_14 : decode cX5_agoLost 14 = .ok (.aload_n 0, 1) := by decide +kernel
theorem dX5_agoLost_15 : decode cX5_agoLost 15 = .ok (.iload 4, 2) := by decide +kernel
theorem dX5_agoLost_17 : decode cX5_agoLost 17 = .ok (.invokevirtual 103, 3) := by decide +kernel
theorem dX5_agoLost_20 : decode cX5_agoLost 20 = .ok (.istore 5, 2) := by decide +kernel
theorem dX5_agoLost_22 : decode cX5_agoLost 22 = .ok (.aload_n 0, 1) := by decide +kernel
theorem dX5_agoLost_23 : decode cX5_agoLost 23 = .ok (.getfield 49, 3) := by decide +kernel
theorem dX5_agoLost_26 : decode cX5_agoLost 26 = .ok (.iload 5, 2) := by decide +kernel
theorem dX5_agoLost_28 : decode cX5_agoLost 28 = .ok (.invokestatic 75, 3) := by decide +kernel
theorem dX5_agoLost_31 : decode cX5_agoLost 31 = .ok (.iload_n 1, 1) := by decide +kernel
theorem dX5_agoLost_32 : decode cX5_agoLost 32 = .ok (.if_icmp .ne 19, 3) := by decide +kernel
theorem dX5_agoLost_35 : decode cX5_agoLost 35 = .ok (.aload_n 0, 1) := by decide +kernel
theorem dX5_agoLost_36 : decode cX5_agoLost 36 = .ok (.getfield 52, 3) := by decide +kernel
theorem dX5_agoLost_39 : decode cX5_agoLost 39 = .ok (.iload 5, 2) := by decide +kernel
theorem dX5_agoLost_41 : decode cX5_agoLost 41 = .ok (.invokestatic 75, 3) := by decide +kernel
theorem dX5_agoLost_44 : decode cX5_agoLost 44 = .ok (.iload_n 2, 1) := by decide +kernel
theorem dX5_agoLost_45 : decode cX5_agoLost 45 = .ok (.if_icmp .ne 6, 3) := by decide +kernel
theorem dX5_agoLost_48 : decode cX5_agoLost 48 = .ok (.iload 4, 2) := by decide +kernel
theorem dX5_agoLost_50 : decode cX5_agoLost 50 = .ok (.ireturn, 1) := by decide +kernel
theorem dX5_agoLost_51 : decode cX5_agoLost 51 = .ok (.iinc 4 1, 3) := by decide +kernel
theorem dX5_agoLost_54 : decode cX5_agoLost 54 = .ok (.goto (-46), 3) := by decide +kernel
theorem dX5_agoLost_57 : decode cX5_agoLost 57 = .ok (.iconst (-1), 1) := by decide +kernel
theorem dX5_agoLost_58 : decode cX5_agoLost 58 = .ok (.ireturn, 1) := by decide +kernel
theorem dX6_init_0 : decode cX6_init 0 = .ok (.aload_n 0, 1) := by decide +kernel
theorem dX6_init_1 : decode cX6_init 1 = .ok (.invokespecial 3, 3) := by decide +kernel
theorem dX6_init_4 : decode cX6_init 4 = .ok (.aload_n 0, 1) := by decide +kernel
theorem dX6_init_5 : decode cX6_init 5 = .ok (.aload_n 1, 1) := by decide +kernel
theorem dX6_init_6 : decode cX6_init 6 = .ok (.putfield 9, 3) := by decide +kernel
theorem dX6_init_9 : decode cX6_init 9 = .ok (.aload_n 0, 1) := by decide +kernel
theorem dX6_init_10 : decode cX6_init 10 = .ok (.aload_n 1, 1) := by decide +kernel
theorem dX6_init_11 : decode cX6_init 11 = .ok (.getfield 15, 3) := by decide +kernel
theorem dX6_init_14 : decode cX6_init 14 = .ok (.putfield 21, 3) := by decide +kernel
theorem dX6_init_17 : decode cX6_init 17 = .ok (.aload_n 0, 1) := by decide +kernel
theorem dX6_init_18 : decode cX6_init 18 = .ok (.aload_n 1, 1) := by decide +kernel
theorem dX6_init_19 : decode cX6_init 19 = .ok (.getfield 22, 3) := by decide +kernel
theorem dX6_init_22 : decode cX6_init 22 = .ok (.putfield 26, 3) := by decide +kernel
theorem dX6_init_25 : decode cX6_init 25 = .ok (.aload_n 0, 1) := by decide +kernel
theorem dX6_init_26 : decode cX6_init 26 = .ok (.bipush 10, 2) := by decide +kernel
theorem dX6_init_28 : decode cX6_init 28 = .ok (.newarray .int, 2) := by decide +kernel
theorem dX6_init_30 : decode cX6_init 30 = .ok (.putfield 27, 3) := by decide +kernel
theorem dX6_init_33 : decode cX6_init 33 = .ok (.return_, 1) := by decide +kernel
theorem dX6_shotsAt_0 : decode cX6_shotsAt 0 = .ok (.aload_n 0, 1) := by decide +kernel
theorem dX6_shotsAt_1 : decode cX6_shotsAt 1 = .ok (.getfield 9, 3) := by decide +kernel
theorem dX6_shotsAt_4 : decode cX6_shotsAt 4 = .ok (.iload_n 1, 1) := by decide +kernel
theorem dX6_shotsAt_5 : decode cX6_shotsAt 5 = .ok (.iload_n 2, 1) := by decide +kernel
theorem dX6_shotsAt_6 : decode cX6_shotsAt 6 = .ok (.invokevirtual 31, 3) := by decide +kernel
theorem dX6_shotsAt_9 : decode cX6_shotsAt 9 = .ok (.ifCond .ne 5, 3) := by decide +kernel
theorem dX6_shotsAt_12 : decode cX6_shotsAt 12 = .ok (.iconst 0, 1) := by decide +kernel
theorem dX6_shotsAt_13 : decode cX6_shotsAt 13 = .ok (.ireturn, 1) := by decide +kernel
theorem dX6_shotsAt_14 : decode cX6_shotsAt 14 = .ok (.iload_n 3, 1) := by decide +kernel
theorem dX6_shotsAt_15 : decode cX6_shotsAt 15 = .ok (.ifCond .eq 5, 3) := by decide +kernel
theorem dX6_shotsAt_18 : decode cX6_shotsAt 18 = .ok (.iconst 1, 1) := by decide +kernel
theorem dX6_shotsAt_19 : decode cX6_shotsAt 19 = .ok (.ireturn, 1) := by decide +kernel
theorem dX6_shotsAt_20 : decode cX6_shotsAt 20 = .ok (.aload_n 0, 1) := by decide +kernel
theorem dX6_shotsAt_21 : decode cX6_shotsAt 21 = .ok (.getfield 21, 3) := by decide +kernel
theorem dX6_shotsAt_24 : decode cX6_shotsAt 24 = .ok (.getfield 35, 3) := by decide +kernel
theorem dX6_shotsAt_27 : decode cX6_shotsAt 27 = .ok (.iload_n 2, 1) := by decide +kernel
theorem dX6_shotsAt_28 : decode cX6_shotsAt 28 = .ok (.invokestatic 40, 3) := by decide +kernel
theorem dX6_shotsAt_31 : decode cX6_shotsAt 31 = .ok (.iconst 1, 1) := by decide +kernel
theorem dX6_shotsAt_32 : decode cX6_shotsAt 32 = .ok (.iload_n 2, 1) := by decide +kernel
theorem dX6_shotsAt_33 : decode cX6_shotsAt 33 = .ok (.ishl, 1) := by decide +kernel
theorem dX6_shotsAt_34 : decode cX6_shotsAt 34 = .ok (.ior, 1) := by decide +kernel
theorem dX6_shotsAt_35 : decode cX6_shotsAt 35 = .ok (.istore 4, 2) := by decide +kernel
theorem dX6_shotsAt_37 : decode cX6_shotsAt 37 = .ok (.aload_n 0, 1) := by decide +kernel
theorem dX6_shotsAt_38 : decode cX6_shotsAt 38 = .ok (.getfield 26, 3) := by decide +kernel
theorem dX6_shotsAt_41 : decode cX6_shotsAt 41 = .ok (.getfield 44, 3) := by decide +kernel
theorem dX6_shotsAt_44 : decode cX6_shotsAt 44 = .ok (.iload_n 1, 1) := by decide +kernel
theorem dX6_shotsAt_45 : decode cX6_shotsAt 45 = .ok (.invokestatic 40, 3) := by decide +kernel
theorem dX6_shotsAt_48 : decode cX6_shotsAt 48 = .ok (.istore 5, 2) := by decide +kernel
theorem dX6_shotsAt_50 : decode cX6_shotsAt 50 = .ok (.iload 5, 2) := by decide +kernel
theorem dX6_shotsAt_52 : decode cX6_shotsAt 52 = .ok (.iconst 1, 1) := by decide +kernel
theorem dX6_shotsAt_53 : decode cX6_shotsAt 53 = .ok (.isub, 1) := by decide +kernel
theorem dX6_shotsAt_54 : decode cX6_shotsAt 54 = .ok (.istore 6, 2) := by decide +kernel
theorem dX6_shotsAt_56 : decode cX6_shotsAt 56 = .ok (.iload 6, 2) := by decide +kernel
theorem dX6_shotsAt_58 : decode cX6_shotsAt 58 = .ok (.ifCond .lt 33, 3) := by decide +kernel
theorem dX6_shotsAt_61 : decode cX6_shotsAt 61 = .ok (.iload 4, 2) := by decide +kernel
theorem dX6_shotsAt_63 : decode cX6_shotsAt 63 = .ok (.aload_n 0, 1) := by decide +kernel
theorem dX6_shotsAt_64 : decode cX6_shotsAt 64 = .ok (.getfield 26, 3) := by decide +kernel
theorem dX6_shotsAt_67 : decode cX6_shotsAt 67 = .ok (.iload_n 1, 1) := by decide +kernel
theorem dX6_shotsAt_68 : decode cX6_shotsAt 68 = .ok (.iload 6, 2) := by decide +kernel
theorem dX6_shotsAt_70 : decode cX6_shotsAt 70 = .ok (.invokevirtual 49, 3) := by decide +kernel
theorem dX6_shotsAt_73 : decode cX6_shotsAt 73 = .ok (.invokestatic 53, 3) := by decide +kernel
theorem dX6_shotsAt_76 : decode cX6_shotsAt 76 = .ok (.ifCond .eq 9, 3) := by decide +kernel
theorem dX6_shotsAt_79 : decode cX6_shotsAt 79 = .ok (.iload 5, 2) := by decide +kernel
theorem dX6_shotsAt_81 : decode cX6_shotsAt 81 = .ok (.iload 6, 2) := by decide +kernel
theorem dX6_shotsAt_83 : decode cX6_shotsAt 83 = .ok (.isub, 1) := by decide +kernel
theorem dX6_shotsAt_84 : decode cX6_shotsAt 84 = .ok (.ireturn, 1) := by decide +kernel
theorem dX6_shotsAt_85 : decode cX6_shotsAt 85 = .ok (.iinc 6 (-1), 3) := by decide +kernel
theorem dX6_shotsAt_88 : decode cX6_shotsAt 88 = .ok (.goto (-32), 3) := by decide +kernel
theorem dX6_shotsAt_91 : decode cX6_shotsAt 91 = .ok (.iconst 0, 1) := by decide +kernel
theorem dX6_shotsAt_92 : decode cX6_shotsAt 92 = .ok (.ireturn, 1) := by decide +kernel
theorem dX6_shotsAtSide_0 : decode cX6_shotsAtSide 0 = .ok (.iconst 0, 1) := by decide +kernel
theorem dX6_shotsAtSide_1 : decode cX6_shotsAtSide 1 = .ok (.istore 4, 2) := by decide +kernel
theorem dX6_shotsAtSide_3 : decode cX6_shotsAtSide 3 = .ok (.iconst 0, 1) := by decide +kernel
theorem dX6_shotsAtSide_4 : decode cX6_shotsAtSide 4 = .ok (.istore 5, 2) := by decide +kernel
theorem dX6_shotsAtSide_6 : decode cX6_shotsAtSide 6 = .ok (.iload 5, 2) := by decide +kernel
theorem dX6_shotsAtSide_8 : decode cX6_shotsAtSide 8 = .ok (.aload_n 0, 1) := by decide +kernel
theorem dX6_shotsAtSide_9 : decode cX6_shotsAtSide 9 = .ok (.getfield 21, 3) := by decide +kernel
theorem dX6_shotsAtSide_12 : decode cX6_shotsAtSide 12 = .ok (.getfield 56, 3) := by decide +kernel
theorem dX6_shotsAtSide_15 : decode cX6_shotsAtSide 15 = .ok (.if_icmp .ge 38, 3) := by decide +kernel
theorem dX6_shotsAtSide_18 : decode cX6_shotsAtSide 18 = .ok (.aload_n 0, 1) := by decide +kernel
theorem dX6_shotsAtSide_19 : decode cX6_shotsAtSide 19 = .ok (.getfield 21, 3) := by decide +kernel
theorem dX6_shotsAtSide_22 : decode cX6_shotsAtSide 22 = .ok (.getfield 60, 3) := by decide +kernel
theorem dX6_shotsAtSide_25 : decode cX6_shotsAtSide 25 = .ok (.iload 5, 2) := by decide +kernel
theorem dX6_shotsAtSide_27 : decode cX6_shotsAtSide 27 = .ok (.invokestatic 40, 3) := by decide +kernel
theorem dX6_shotsAtSide_30 : decode cX6_shotsAtSide 30 = .ok (.iload_n 1, 1) := by decide +kernel
theorem dX6_shotsAtSide_31 : decode cX6_shotsAtSide 31 = .ok (.if_icmp .ne 16, 3) := by decide +kernel
theorem dX6_shotsAtSide_34 : decode cX6_shotsAtSide 34 = .ok (.iload 4, 2) := by decide +kernel
theorem dX6_shotsAtSide_36 : decode cX6_shotsAtSide 36 = .ok (.aload_n 0, 1) := by decide +kernel
theorem dX6_shotsAtSide_37 : decode cX6_shotsAtSide 37 = .ok (.iload 5, 2) := by decide +kernel
theorem dX6_shotsAtSide_39 : decode cX6_shotsAtSide 39 = .ok (.iload_n 2, 1) := by decide +kernel
theorem dX6_shotsAtSide_40 : decode cX6_shotsAtSide 40 = .ok (.iload_n 3, 1) := by decide +kernel
theorem dX6_shotsAtSide_41 : decode cX6_shotsAtSide 41 = .ok (.invokevirtual 63, 3) := by decide +kernel
theorem dX6_shotsAtSide_44 : decode cX6_shotsAtSide 44 = .ok (.iadd, 1) := by decide +kernel
theorem dX6_shotsAtSide_45 : decode cX6_shotsAtSide 45 = .ok (.istore 4, 2) := by decide +kernel
theorem dX6_shotsAtSide_47 : decode cX6_shotsAtSide 47 = .ok (.iinc 5 1, 3) := by decide +kernel
theorem dX6_shotsAtSide_50 : decode cX6_shotsAtSide 50 = .ok (.goto (-44), 3) := by decide +kernel
theorem dX6_shotsAtSide_53 : decode cX6_shotsAtSide 53 = .ok (.iload 4, 2) := by decide +kernel
theorem dX6_shotsAtSide_55 : decode cX6_shotsAtSide 55 = .ok (.ireturn, 1) := by decide +kernel
theorem dX6_weakestOfPlan_0 : decode cX6_weakestOfPlan 0 = .ok (.iconst (-1), 1) := by decide +kernel
theorem dX6_weakestOfPlan_1 : decode cX6_weakestOfPlan 1 = .ok (.istore_n 3, 1) := by decide +kernel
theorem dX6_weakestOfPlan_2 : decode cX6_weakestOfPlan 2 = .ok (.iconst 0, 1) := by decide +kernel
theorem dX6_weakestOfPlan_3 : decode cX6_weakestOfPlan 3 = .ok (.istore 4, 2) := by decide +kernel
theorem dX6_weakestOfPlan_5 : decode cX6_weakestOfPlan 5 = .ok (.iconst 0, 1) := by decide +kernel
theorem dX6_weakestOfPlan_6 : decode cX6_weakestOfPlan 6 = .ok (.istore 5, 2) := by decide +kernel
theorem dX6_weakestOfPlan_8 : decode cX6_weakestOfPlan 8 = .ok (.iload 5, 2) := by decide +kernel
theorem dX6_weakestOfPlan_10 : decode cX6_weakestOfPlan 10 = .ok (.aload_n 0, 1) := by decide +kernel
theorem dX6_weakestOfPlan_11 : decode cX6_weakestOfPlan 11 = .ok (.getfield 21, 3) := by decide +kernel
theorem dX6_weakestOfPlan_14 : decode cX6_weakestOfPlan 14 = .ok (.getfield 67, 3) := by decide +kernel
theorem dX6_weakestOfPlan_17 : decode cX6_weakestOfPlan 17 = .ok (.if_icmp .ge 57, 3) := by decide +kernel
theorem dX6_weakestOfPlan_20 : decode cX6_weakestOfPlan 20 = .ok (.aload_n 0, 1) := by decide +kernel
theorem dX6_weakestOfPlan_21 : decode cX6_weakestOfPlan 21 = .ok (.getfield 21, 3) := by decide +kernel
theorem dX6_weakestOfPlan_24 : decode cX6_weakestOfPlan 24 = .ok (.getfield 70, 3) := by decide +kernel
theorem dX6_weakestOfPlan_27 : decode cX6_weakestOfPlan 27 = .ok (.iload_n 1, 1) := by decide +kernel
theorem dX6_weakestOfPlan_28 : decode cX6_weakestOfPlan 28 = .ok (.invokestatic 40, 3) := by decide +kernel
theorem dX6_weakestOfPlan_31 : decode cX6_weakestOfPlan 31 = .ok (.iload 5, 2) := by decide +kernel
theorem dX6_weakestOfPlan_33 : decode cX6_weakestOfPlan 33 = .ok (.invokestatic 53, 3) := by decide +kernel
theorem dX6_weakestOfPlan_36 : decode cX6_weakestOfPlan 36 = .ok (.ifCond .eq 32, 3) := by decide +kernel
theorem dX6_weakestOfPlan_39 : decode cX6_weakestOfPlan 39 = .ok (.aload_n 0, 1) := by decide +kernel
theorem dX6_weakestOfPlan_40 : decode cX6_weakestOfPlan 40 = .ok (.iload_n 1, 1) := by decide +kernel
theorem dX6_weakestOfPlan_41 : decode cX6_weakestOfPlan 41 = .ok (.iload 5, 2) := by decide +kernel
theorem dX6_weakestOfPlan_43 : decode cX6_weakestOfPlan 43 = .ok (.iload_n 2, 1) := by decide +kernel
theorem dX6_weakestOfPlan_44 : decode cX6_weakestOfPlan 44 = .ok (.invokevirtual 73, 3) := by decide +kernel
theorem dX6_weakestOfPlan_47 : decode cX6_weakestOfPlan 47 = .ok (.istore 6, 2) := by decide +kernel
theorem dX6_weakestOfPlan_49 : decode cX6_weakestOfPlan 49 = .ok (.iload_n 3, 1) := by decide +kernel
theorem dX6_weakestOfPlan_50 : decode cX6_weakestOfPlan 50 = .ok (.iconst (-1), 1) := by decide +kernel
theorem dX6_weakestOfPlan_51 : decode cX6_weakestOfPlan 51 = .ok (.if_icmp .eq 10, 3) := by decide +kernel
theorem dX6_weakestOfPlan_54 : decode cX6_weakestOfPlan 54 = .ok (.iload 6, 2) := by decide +kernel
theorem dX6_weakestOfPlan_56 : decode cX6_weakestOfPlan 56 = .ok (.iload 4, 2) := by decide +kernel
theorem dX6_weakestOfPlan_58 : decode cX6_weakestOfPlan 58 = .ok (.if_icmp .ge 10, 3) := by decide +kernel
theorem dX6_weakestOfPlan_61 : decode cX6_weakestOfPlan 61 = .ok (.iload 5, 2) := by decide +kernel
theorem dX6_weakestOfPlan_63 : decode cX6_weakestOfPlan 63 = .ok (.istore_n 3, 1) := by decide +kernel
theorem dX6_weakestOfPlan_64 : decode cX6_weakestOfPlan 64 = .ok (.iload 6, 2) := by decide +kernel
theorem dX6_weakestOfPlan_66 : decode cX6_weakestOfPlan 66 = .ok (.istore 4, 2) := by decide +kernel
theorem dX6_weakestOfPlan_68 : decode cX6_weakestOfPlan 68 = .ok (.iinc 5 1, 3) := by decide +kernel
theorem dX6_weakestOfPlan_71 : decode cX6_weakestOfPlan 71 = .ok (.goto (-63), 3) := by decide +kernel
theorem dX6_weakestOfPlan_74 : decode cX6_weakestOfPlan 74 = .ok (.iload_n 3, 1) := by decide +kernel
theorem dX6_weakestOfPlan_75 : decode cX6_weakestOfPlan 75 = .ok (.ireturn, 1) := by decide +kernel
theorem dX6_lackingTo_0 : decode cX6_lackingTo 0 = .ok (.iconst 0, 1) := by decide +kernel
theorem dX6_lackingTo_1 : decode cX6_lackingTo 1 = .ok (.istore_n 3, 1) := by decide +kernel
theorem dX6_lackingTo_2 : decode cX6_lackingTo 2 = .ok (.iconst 0, 1) := by decide +kernel
theorem dX6_lackingTo_3 : decode cX6_lackingTo 3 = .ok (.istore 4, 2) := by decide +kernel
theorem dX6_lackingTo_5 : decode cX6_lackingTo 5 = .ok (.iload 4, 2) := by decide +kernel
theorem dX6_lackingTo_7 : decode cX6_lackingTo 7 = .ok (.aload_n 0, 1) := by decide +kernel
theorem dX6_lackingTo_8 : decode cX6_lackingTo 8 = .ok (.getfield 21, 3) := by decide +kernel
theorem dX6_lackingTo_11 : decode cX6_lackingTo 11 = .ok (.getfield 67, 3) := by decide +kernel
theorem dX6_lackingTo_14 : decode cX6_lackingTo 14 = .ok (.if_icmp .ge 76, 3) := by decide +kernel
theorem dX6_lackingTo_17 : decode cX6_lackingTo 17 = .ok (.aload_n 0, 1) := by decide +kernel
theorem dX6_lackingTo_18 : decode cX6_lackingTo 18 = .ok (.getfield 21, 3) := by decide +kernel
theorem dX6_lackingTo_21 : decode cX6_lackingTo 21 = .ok (.getfield 70, 3) := by decide +kernel
theorem dX6_lackingTo_24 : decode cX6_lackingTo 24 = .ok (.iload_n 1, 1) := by decide +kernel
theorem dX6_lackingTo_25 : decode cX6_lackingTo 25 = .ok (.invokestatic 40, 3) := by decide +kernel
theorem dX6_lackingTo_28 : decode cX6_lackingTo 28 = .ok (.iload 4, 2) := by decide +kernel
theorem dX6_lackingTo_30 : decode cX6_lackingTo 30 = .ok (.invokestatic 53, 3) := by decide +kernel
theorem dX6_lackingTo_33 : decode cX6_lackingTo 33 = .ok (.ifCond .eq 51, 3) := by decide +kernel
theorem dX6_lackingTo_36 : decode cX6_lackingTo 36 = .ok (.iload_n 2, 1) := by decide +kernel
theorem dX6_lackingTo_37 : decode cX6_lackingTo 37 = .ok (.aload_n 0, 1) := by decide +kernel
theorem dX6_lackingTo_38 : decode cX6_lackingTo 38 = .ok (.getfield 9, 3) := by decide +kernel
theorem dX6_lackingTo_41 : decode cX6_lackingTo 41 = .ok (.iload 4, 2) := by decide +kernel
theorem dX6_lackingTo_43 : decode cX6_lackingTo 43 = .ok (.invokevirtual 76, 3) := by decide +kernel
theorem dX6_lackingTo_46 : decode cX6_lackingTo 46 = .ok (.aload_n 0, 1) := by decide +kernel
theorem dX6_lackingTo_47 : decode cX6_lackingTo 47 = .ok (.getfield 9, 3) := by decide +kernel
theorem dX6_lackingTo_50 : decode cX6_lackingTo 50 = .ok (.iload_n 1, 1) := by decide +kernel
theorem dX6_lackingTo_51 : decode cX6_lackingTo 51 = .ok (.invokevirtual 80, 3) := by decide +kernel
theorem dX6_lackingTo_54 : decode cX6_lackingTo 54 = .ok (.iand, 1) := by decide +kernel
theorem dX6_lackingTo_55 : decode cX6_lackingTo 55 = .ok (.invokestatic 83, 3) := by decide +kernel
theorem dX6_lackingTo_58 : decode cX6_lackingTo 58 = .ok (.isub, 1) := by decide +kernel
theorem dX6_lackingTo_59 : decode cX6_lackingTo 59 = .ok (.istore 5, 2) := by decide +kernel
theorem dX6_lackingTo_61 : decode cX6_lackingTo 61 = .ok (.iload 5, 2) := by decide +kernel
theorem dX6_lackingTo_63 : decode cX6_lackingTo 63 = .ok (.aload_n 0, 1) := by decide +kernel
theorem dX6_lackingTo_64 : decode cX6_lackingTo 64 = .ok (.iload_n 1, 1) := by decide +kernel
theorem dX6_lackingTo_65 : decode cX6_lackingTo 65 = .ok (.iload 4, 2) := by decide +kernel
theorem dX6_lackingTo_67 : decode cX6_lackingTo 67 = .ok (.invokevirtual 88, 3) := by decide +kernel
theorem dX6_lackingTo_70 : decode cX6_lackingTo 70 = .ok (.if_icmp .le 5, 3) := by decide +kernel
theorem dX6_lackingTo_73 : decode cX6_lackingTo 73 = .ok (.iconst (-1), 1) := by decide +kernel
theorem dX6_lackingTo_74 : decode cX6_lackingTo 74 = .ok (.ireturn, 1) := by decide +kernel
theorem dX6_lackingTo_75 : decode cX6_lackingTo 75 = .ok (.iload_n 3, 1) := by decide +kernel
theorem dX6_lackingTo_76 : decode cX6_lackingTo 76 = .ok (.iload 5, 2) := by decide +kernel
theorem dX6_lackingTo_78 : decode cX6_lackingTo 78 = .ok (.iconst 0, 1) := by decide +kernel
theorem dX6_lackingTo_79 : decode cX6_lackingTo 79 = .ok (.invokestatic 91, 3) := by decide +kernel
theorem dX6_lackingTo_82 : decode cX6_lackingTo 82 = .ok (.iadd, 1) := by decide +kernel
theorem dX6_lackingTo_83 : decode cX6_lackingTo 83 = .ok (.istore_n 3, 1) := by decide +kernel
theorem dX6_lackingTo_84 : decode cX6_lackingTo 84 = .ok (.iinc 4 1, 3) := by decide +kernel
theorem dX6_lackingTo_87 : decode cX6_lackingTo 87 = .ok (.goto (-82), 3) := by decide +kernel
theorem dX6_lackingTo_90 : decode cX6_lackingTo 90 = .ok (.iload_n 3, 1) := by decide +kernel
theorem dX6_lackingTo_91 : decode cX6_lackingTo 91 = .ok (.ireturn, 1) := by decide +kernel
theorem dX6_pupilsFor_0 : decode cX6_pupilsFor 0 = .ok (.iconst 0, 1) := by decide +kernel
theorem dX6_pupilsFor_1 : decode cX6_pupilsFor 1 = .ok (.istore_n 3, 1) := by decide +kernel
theorem dX6_pupilsFor_2 : decode cX6_pupilsFor 2 = .ok (.iconst 0, 1) := by decide +kernel
theorem dX6_pupilsFor_3 : decode cX6_pupilsFor 3 = .ok (.istore 4, 2) := by decide +kernel
theorem dX6_pupilsFor_5 : decode cX6_pupilsFor 5 = .ok (.iload 4, 2) := by decide +kernel
theorem dX6_pupilsFor_7 : decode cX6_pupilsFor 7 = .ok (.aload_n 0, 1) := by decide +kernel
theorem dX6_pupilsFor_8 : decode cX6_pupilsFor 8 = .ok (.getfield 21, 3) := by decide +kernel
theorem dX6_pupilsFor_11 : decode cX6_pupilsFor 11 = .ok (.getfield 56, 3) := by decide +kernel
theorem dX6_pupilsFor_14 : decode cX6_pupilsFor 14 = .ok (.if_icmp .ge 41, 3) := by decide +kernel
theorem dX6_pupilsFor_17 : decode cX6_pupilsFor 17 = .ok (.aload_n 0, 1) := by decide +kernel
theorem dX6_pupilsFor_18 : decode cX6_pupilsFor 18 = .ok (.getfield 21, 3) := by decide +kernel
theorem dX6_pupilsFor_21 : decode cX6_pupilsFor 21 = .ok (.getfield 60, 3) := by decide +kernel
theorem dX6_pupilsFor_24 : decode cX6_pupilsFor 24 = .ok (.iload 4, 2) := by decide +kernel
theorem dX6_pupilsFor_26 : decode cX6_pupilsFor 26 = .ok (.invokestatic 40, 3) := by decide +kernel
theorem dX6_pupilsFor_29 : decode cX6_pupilsFor 29 = .ok (.iload_n 1, 1) := by decide +kernel
theorem dX6_pupilsFor_30 : decode cX6_pupilsFor 30 = .ok (.if_icmp .ne 19, 3) := by decide +kernel
theorem dX6_pupilsFor_33 : decode cX6_pupilsFor 33 = .ok (.aload_n 0, 1) := by decide +kernel
theorem dX6_pupilsFor_34 : decode cX6_pupilsFor 34 = .ok (.getfield 9, 3) := by decide +kernel
theorem dX6_pupilsFor_37 : decode cX6_pupilsFor 37 = .ok (.iload 4, 2) := by decide +kernel
theorem dX6_pupilsFor_39 : decode cX6_pupilsFor 39 = .ok (.iload_n 2, 1) := by decide +kernel
theorem dX6_pupilsFor_40 : decode cX6_pupilsFor 40 = .ok (.invokevirtual 96, 3) := by decide +kernel
theorem dX6_pupilsFor_43 : decode cX6_pupilsFor 43 = .ok (.ifCond .eq 6, 3) := by decide +kernel
theorem dX6_pupilsFor_46 : decode cX6_pupilsFor 46 = .ok (.iinc 3 1, 3) := by decide +kernel
theorem dX6_pupilsFor_49 : decode cX6_pupilsFor 49 = .ok (.iinc 4 1, 3) := by decide +kernel
theorem dX6_pupilsFor_52 : decode cX6_pupilsFor 52 = .ok (.goto (-47), 3) := by decide +kernel
theorem dX6_pupilsFor_55 : decode cX6_pupilsFor 55 = .ok (.iload_n 3, 1) := by decide +kernel
theorem dX6_pupilsFor_56 : decode cX6_pupilsFor 56 = .ok (.ireturn, 1) := by decide +kernel
theorem dX6_obeyedByChildren_0 : decode cX6_obeyedByChildren 0 = .ok (.iconst 0, 1) := by decide +kernel
theorem dX6_obeyedByChildren_1 : decode cX6_obeyedByChildren 1 = .ok (.istore_n 2, 1) := by decide +kernel
theorem dX6_obeyedByChildren_2 : decode cX6_obeyedByChildren 2 = .ok (.iconst 0, 1) := by decide +kernel
theorem dX6_obeyedByChildren_3 : decode cX6_obeyedByChildren 3 = .ok (.istore_n 3, 1) := by decide +kernel
theorem dX6_obeyedByChildren_4 : decode cX6_obeyedByChildren 4 = .ok (.iload_n 3, 1) := by decide +kernel
theorem dX6_obeyedByChildren_5 : decode cX6_obeyedByChildren 5 = .ok (.aload_n 0, 1) := by decide +kernel
theorem dX6_obeyedByChildren_6 : decode cX6_obeyedByChildren 6 = .ok (.getfield 21, 3) := by decide +kernel
theorem dX6_obeyedByChildren_9 : decode cX6_obeyedByChildren 9 = .ok (.getfield 99, 3) := by decide +kernel
theorem dX6_obeyedByChildren_12 : decode cX6_obeyedByChildren 12 = .ok (.if_icmp .ge 59, 3) := by decide +kernel
theorem dX6_obeyedByChildren_15 : decode cX6_obeyedByChildren 15 = .ok (.aload_n 0, 1) := by decide +kernel
theorem dX6_obeyedByChildren_16 : decode cX6_obeyedByChildren 16 = .ok (.getfield 21, 3) := by decide +kernel
theorem dX6_obeyedByChildren_19 : decode cX6_obeyedByChildren 19 = .ok (.aload_n 0, 1) := by decide +kernel
theorem dX6_obeyedByChildren_20 : decode cX6_obeyedByChildren 20 = .ok (.aload_n 0, 1) := by decide +kernel
theorem dX6_obeyedByChildren_21 : decode cX6_obeyedByChildren 21 = .ok (.getfield 21, 3) := by decide +kernel
theorem dX6_obeyedByChildren_24 : decode cX6_obeyedByChildren 24 = .ok (.getfield 102, 3) := by decide +kernel
theorem dX6_obeyedByChildren_27 : decode cX6_obeyedByChildren 27 = .ok (.iload_n 3, 1) := by decide +kernel
theorem dX6_obeyedByChildren_28 : decode cX6_obeyedByChildren 28 = .ok (.invokestatic 40, 3) := by decide +kernel
theorem dX6_obeyedByChildren_31 : decode cX6_obeyedByChildren 31 = .ok (.iload_n 1, 1) := by decide +kernel
theorem dX6_obeyedByChildren_32 : decode cX6_obeyedByChildren 32 = .ok (.invokevirtual 105, 3) := by decide +kernel
theorem dX6_obeyedByChildren_35 : decode cX6_obeyedByChildren 35 = .ok (.invokevirtual 108, 3) := by decide +kernel
theorem dX6_obeyedByChildren_38 : decode cX6_obeyedByChildren 38 = .ok (.istore 4, 2) := by decide +kernel
theorem dX6_obeyedByChildren_40 : decode cX6_obeyedByChildren 40 = .ok (.aload_n 0, 1) := by decide +kernel
theorem dX6_obeyedByChildren_41 : decode cX6_obeyedByChildren 41 = .ok (.getfield 21, 3) := by decide +kernel
theorem dX6_obeyedByChildren_44 : decode cX6_obeyedByChildren 44 = .ok (.getfield 111, 3) := by decide +kernel
theorem dX6_obeyedByChildren_47 : decode cX6_obeyedByChildren 47 = .ok (.iload_n 3, 1) := by decide +kernel
theorem dX6_obeyedByChildren_48 : decode cX6_obeyedByChildren 48 = .ok (.invokestatic 40, 3) := by decide +kernel
theorem dX6_obeyedByChildren_51 : decode cX6_obeyedByChildren 51 = .ok (.iload 4, 2) := by decide +kernel
theorem dX6_obeyedByChildren_53 : decode cX6_obeyedByChildren 53 = .ok (.iconst (-1), 1) := by decide +kernel
theorem dX6_obeyedByChildren_54 : decode cX6_obeyedByChildren 54 = .ok (.ixor, 1) := by decide +kernel
theorem dX6_obeyedByChildren_55 : decode cX6_obeyedByChildren 55 = .ok (.iand, 1) := by decide +kernel
theorem dX6_obeyedByChildren_56 : decode cX6_obeyedByChildren 56 = .ok (.ifCond .ne 9, 3) := by decide +kernel
theorem dX6_obeyedByChildren_59 : decode cX6_obeyedByChildren 59 = .ok (.iload_n 2, 1) := by decide +kernel
theorem dX6_obeyedByChildren_60 : decode cX6_obeyedByChildren 60 = .ok (.iconst 1, 1) := by decide +kernel
theorem dX6_obeyedByChildren_61 : decode cX6_obeyedByChildren 61 = .ok (.iload_n 3, 1) := by decide +kernel
theorem dX6_obeyedByChildren_62 : decode cX6_obeyedByChildren 62 = .ok (.ishl, 1) := by decide +kernel
theorem dX6_obeyedByChildren_63 : decode cX6_obeyedByChildren 63 = .ok (.ior, 1) := by decide +kernel
theorem dX6_obeyedByChildren_64 : decode cX6_obeyedByChildren 64 = .ok (.istore_n 2, 1) := by decide +kernel
theorem dX6_obeyedByChildren_65 : decode cX6_obeyedByChildren 65 = .ok (.iinc 3 1, 3) := by decide +kernel
theorem dX6_obeyedByChildren_68 : decode cX6_obeyedByChildren 68 = .ok (.goto (-64), 3) := by decide +kernel
theorem dX6_obeyedByChildren_71 : decode cX6_obeyedByChildren 71 = .ok (.iload_n 2, 1) := by decide +kernel
theorem dX6_obeyedByChildren_72 : decode cX6_obeyedByChildren 72 = .ok (.ireturn, 1) := by decide +kernel
theorem dX6_firstKnown_0 : decode cX6_firstKnown 0 = .ok (.iload_n 2, 1) := by decide +kernel
theorem dX6_firstKnown_1 : decode cX6_firstKnown 1 = .ok (.aload_n 0, 1) := by decide +kernel
theorem dX6_firstKnown_2 : decode cX6_firstKnown 2 = .ok (.getfield 26, 3) := by decide +kernel
theorem dX6_firstKnown_5 : decode cX6_firstKnown 5 = .ok (.getfield 44, 3) := by decide +kernel
theorem dX6_firstKnown_8 : decode cX6_firstKnown 8 = .ok (.iload_n 1, 1) := by decide +kernel
theorem dX6_firstKnown_9 : decode cX6_firstKnown 9 = .ok (.invokestatic 40, 3) := by decide +kernel
theorem dX6_firstKnown_12 : decode cX6_firstKnown 12 = .ok (.invokestatic 114, 3) := by decide +kernel
theorem dX6_firstKnown_15 : decode cX6_firstKnown 15 = .ok (.istore_n 3, 1) := by decide +kernel
theorem dX6_firstKnown_16 : decode cX6_firstKnown 16 = .ok (.iconst 0, 1) := by decide +kernel
theorem dX6_firstKnown_17 : decode cX6_firstKnown 17 = .ok (.istore 4, 2) := by decide +kernel
theorem dX6_firstKnown_19 : decode cX6_firstKnown 19 = .ok (.iconst 0, 1) := by decide +kernel
theorem dX6_firstKnown_20 : decode cX6_firstKnown 20 = .ok (.istore 5, 2) := by decide +kernel
theorem dX6_firstKnown_22 : decode cX6_firstKnown 22 = .ok (.iload 5, 2) := by decide +kernel
theorem dX6_firstKnown_24 : decode cX6_firstKnown 24 = .ok (.iload_n 3, 1) := by decide +kernel
theorem dX6_firstKnown_25 : decode cX6_firstKnown 25 = .ok (.if_icmp .ge 26, 3) := by decide +kernel
theorem dX6_firstKnown_28 : decode cX6_firstKnown 28 = .ok (.iload 4, 2) := by decide +kernel
theorem dX6_firstKnown_30 : decode cX6_firstKnown 30 = .ok (.iconst 1, 1) := by decide +kernel
theorem dX6_firstKnown_31 : decode cX6_firstKnown 31 = .ok (.aload_n 0, 1) := by decide +kernel
theorem dX6_firstKnown_32 : decode cX6_firstKnown 32 = .ok (.getfield 26, 3) := by decide +kernel
theorem dX6_firstKnown_35 : decode cX6_firstKnown 35 = .ok (.iload_n 1, 1) := by decide +kernel
theorem dX6_firstKnown_36 : decode cX6_firstKnown 36 = .ok (.iload 5, 2) := by decide +kernel
theorem dX6_firstKnown_38 : decode cX6_firstKnown 38 = .ok (.invokevirtual 49, 3) := by decide +kernel
theorem dX6_firstKnown_41 : decode cX6_firstKnown 41 = .ok (.ishl, 1) := by decide +kernel
theorem dX6_firstKnown_42 : decode cX6_firstKnown 42 = .ok (.ior, 1) := by decide +kernel
theorem dX6_firstKnown_43 : decode cX6_firstKnown 43 = .ok (.istore 4, 2) := by decide +kernel
theorem dX6_firstKnown_45 : decode cX6_firstKnown 45 = .ok (.iinc 5 1, 3) := by decide +kernel
theorem dX6_firstKnown_48 : decode cX6_firstKnown 48 = .ok (.goto (-26), 3) := by decide +kernel
theorem dX6_firstKnown_51 : decode cX6_firstKnown 51 = .ok (.iload 4, 2) := by decide +kernel
theorem dX6_firstKnown_53 : decode cX6_firstKnown 53 = .ok (.ireturn, 1) := by decide +kernel
theorem dX6_easiestOrder_0 : decode cX6_easiestOrder 0 = .ok (.iconst (-1), 1) := by decide +kernel
theorem dX6_easiestOrder_1 : decode cX6_easiestOrder 1 = .ok (.istore_n 1, 1) := by decide +kernel
theorem dX6_easiestOrder_2 : decode cX6_easiestOrder 2 = .ok (.iconst 0, 1) := by decide +kernel
theorem dX6_easiestOrder_3 : decode cX6_easiestOrder 3 = .ok (.istore_n 2, 1) := by decide +kernel
theorem dX6_easiestOrder_4 : decode cX6_easiestOrder 4 = .ok (.iconst 0, 1) := by decide +kernel
theorem dX6_easiestOrder_5 : decode cX6_easiestOrder 5 = .ok (.istore_n 3, 1) := by decide +kernel
theorem dX6_easiestOrder_6 : decode cX6_easiestOrder 6 = .ok (.iload_n 3, 1) := by decide +kernel
theorem dX6_easiestOrder_7 : decode cX6_easiestOrder 7 = .ok (.aload_n 0, 1) := by decide +kernel
theorem dX6_easiestOrder_8 : decode cX6_easiestOrder 8 = .ok (.getfield 21, 3) := by decide +kernel
theorem dX6_easiestOrder_11 : decode cX6_easiestOrder 11 = .ok (.getfield 99, 3) := by decide +kernel
theorem dX6_easiestOrder_14 : decode cX6_easiestOrder 14 = .ok (.if_icmp .ge 35, 3) := by decide +kernel
theorem dX6_easiestOrder_17 : decode cX6_easiestOrder 17 = .ok (.aload_n 0, 1) := by decide +kernel
theorem dX6_easiestOrder_18 : decode cX6_easiestOrder 18 = .ok (.getfield 21, 3) := by decide +kernel
theorem dX6_easiestOrder_21 : decode cX6_easiestOrder 21 = .ok (.iload_n 3, 1) := by decide +kernel
theorem dX6_easiestOrder_22 : decode cX6_easiestOrder 22 = .ok (.invokevirtual 117, 3) := by decide +kernel
theorem dX6_easiestOrder_25 : decode cX6_easiestOrder 25 = .ok (.istore 4, 2) := by decide +kernel
theorem dX6_easiestOrder_27 : decode cX6_easiestOrder 27 = .ok (.iload_n 1, 1) := by decide +kernel
theorem dX6_easiestOrder_28 : decode cX6_easiestOrder 28 = .ok (.iconst (-1), 1) := by decide +kernel
theorem dX6_easiestOrder_29 : decode cX6_easiestOrder 29 = .ok (.if_icmp .eq 9, 3) := by decide +kernel
theorem dX6_easiestOrder_32 : decode cX6_easiestOrder 32 = .ok (.iload 4, 2) := by decide +kernel
theorem dX6_easiestOrder_34 : decode cX6_easiestOrder 34 = .ok (.iload_n 2, 1) := by decide +kernel
theorem dX6_easiestOrder_35 : decode cX6_easiestOrder 35 = .ok (.if_icmp .ge 8, 3) := by decide +kernel
theorem dX6_easiestOrder_38 : decode cX6_easiestOrder 38 = .ok (.iload_n 3, 1) := by decide +kernel
theorem dX6_easiestOrder_39 : decode cX6_easiestOrder 39 = .ok (.istore_n 1, 1) := by decide +kernel
theorem dX6_easiestOrder_40 : decode cX6_easiestOrder 40 = .ok (.iload 4, 2) := by decide +kernel
theorem dX6_easiestOrder_42 : decode cX6_easiestOrder 42 = .ok (.istore_n 2, 1) := by decide +kernel
theorem dX6_easiestOrder_43 : decode cX6_easiestOrder 43 = .ok (.iinc 3 1, 3) := by decide +kernel
theorem dX6_easiestOrder_46 : decode cX6_easiestOrder 46 = .ok (.goto (-40), 3) := by decide +kernel
theorem dX6_easiestOrder_49 : decode cX6_easiestOrder 49 = .ok (.iload_n 1, 1) := by decide +kernel
theorem dX6_easiestOrder_50 : decode cX6_easiestOrder 50 = .ok (.ireturn, 1) := by decide +kernel
theorem dX6_tooManyFor_0 : decode cX6_tooManyFor 0 = .ok (.aload_n 0, 1) := by decide +kernel
theorem dX6_tooManyFor_1 : decode cX6_tooManyFor 1 = .ok (.getfield 26, 3) := by decide +kernel
theorem dX6_tooManyFor_4 : decode cX6_tooManyFor 4 = .ok (.getfield 44, 3) := by decide +kernel
theorem dX6_tooManyFor_7 : decode cX6_tooManyFor 7 = .ok (.iload_n 1, 1) := by decide +kernel
theorem dX6_tooManyFor_8 : decode cX6_tooManyFor 8 = .ok (.invokestatic 40, 3) := by decide +kernel
theorem dX6_tooManyFor_11 : decode cX6_tooManyFor 11 = .ok (.bipush 7, 2) := by decide +kernel
theorem dX6_tooManyFor_13 : decode cX6_tooManyFor 13 = .ok (.if_icmp .gt 19, 3) := by decide +kernel
theorem dX6_tooManyFor_16 : decode cX6_tooManyFor 16 = .ok (.aload_n 0, 1) := by decide +kernel
theorem dX6_tooManyFor_17 : decode cX6_tooManyFor 17 = .ok (.getfield 26, 3) := by decide +kernel
theorem dX6_tooManyFor_20 : decode cX6_tooManyFor 20 = .ok (.getfield 44, 3) := by decide +kernel
theorem dX6_tooManyFor_23 : decode cX6_tooManyFor 23 = .ok (.iload_n 2, 1) := by decide +kernel
theorem dX6_tooManyFor_24 : decode cX6_tooManyFor 24 = .ok (.invokestatic 40, 3) := by decide +kernel
theorem dX6_tooManyFor_27 : decode cX6_tooManyFor 27 = .ok (.bipush 7, 2) := by decide +kernel
theorem dX6_tooManyFor_29 : decode cX6_tooManyFor 29 = .ok (.if_icmp .le 7, 3) := by decide +kernel
theorem dX6_tooManyFor_32 : decode cX6_tooManyFor 32 = .ok (.iconst 1, 1) := by decide +kernel
theorem dX6_tooManyFor_33 : decode cX6_tooManyFor 33 = .ok (.goto 4, 3) := by decide +kernel
theorem dX6_tooManyFor_36 : decode cX6_tooManyFor 36 = .ok (.iconst 0, 1) := by decide +kernel
theorem dX6_tooManyFor_37 : decode cX6_tooManyFor 37 = .ok (.ireturn, 1) := by decide +kernel
theorem dX6_rootsOf_0 : decode cX6_rootsOf 0 = .ok (.aload_n 0, 1) := by decide +kernel
theorem dX6_rootsOf_1 : decode cX6_rootsOf 1 = .ok (.getfield 21, 3) := by decide +kernel
theorem dX6_rootsOf_4 : decode cX6_rootsOf 4 = .ok (.aload_n 0, 1) := by decide +kernel
theorem dX6_rootsOf_5 : decode cX6_rootsOf 5 = .ok (.getfield 26, 3) := by decide +kernel
theorem dX6_rootsOf_8 : decode cX6_rootsOf 8 = .ok (.getfield 120, 3) := by decide +kernel
theorem dX6_rootsOf_11 : decode cX6_rootsOf 11 = .ok (.iload_n 1, 1) := by decide +kernel
theorem dX6_rootsOf_12 : decode cX6_rootsOf 12 = .ok (.invokestatic 40, 3) := by decide +kernel
theorem dX6_rootsOf_15 : decode cX6_rootsOf 15 = .ok (.invokevirtual 123, 3) := by decide +kernel
theorem dX6_rootsOf_18 : decode cX6_rootsOf 18 = .ok (.ireturn, 1) := by decide +kernel
theorem dX6_beginnerWins_0 : decode cX6_beginnerWins 0 = .ok (.aload_n 0, 1) := by decide +kernel
theorem dX6_beginnerWins_1 : decode cX6_beginnerWins 1 = .ok (.iload_n 1, 1) := by decide +kernel
theorem dX6_beginnerWins_2 : decode cX6_beginnerWins 2 = .ok (.invokevirtual 126, 3) := by decide +kernel
theorem dX6_beginnerWins_5 : decode cX6_beginnerWins 5 = .ok (.invokestatic 83, 3) := by decide +kernel
theorem dX6_beginnerWins_8 : decode cX6_beginnerWins 8 = .ok (.aload_n 0, 1) := by decide +kernel
theorem dX6_beginnerWins_9 : decode cX6_beginnerWins 9 = .ok (.iload_n 2, 1) := by decide +kernel
theorem dX6_beginnerWins_10 : decode cX6_beginnerWins 10 = .ok (.invokevirtual 126, 3) := by decide +kernel
theorem dX6_beginnerWins_13 : decode cX6_beginnerWins 13 = .ok (.invokestatic 83, 3) := by decide +kernel
theorem dX6_beginnerWins_16 : decode cX6_beginnerWins 16 = .ok (.invokestatic 129, 3) := by decide +kernel
theorem dX6_beginnerWins_19 : decode cX6_beginnerWins 19 = .ok (.ireturn, 1) := by decide +kernel
theorem dX6_winsRace_0 : decode cX6_winsRace 0 = .ok (.iload_n 0, 1) := by decide +kernel
theorem dX6_winsRace_1 : decode cX6_winsRace 1 = .ok (.iconst 1, 1) := by decide +kernel
theorem dX6_winsRace_2 : decode cX6_winsRace 2 = .ok (.if_icmp .lt 12, 3) := by decide +kernel
theorem dX6_winsRace_5 : decode cX6_winsRace 5 = .ok (.iload_n 0, 1) := by decide +kernel
theorem dX6_winsRace_6 : decode cX6_winsRace 6 = .ok (.iload_n 1, 1) := by decide +kernel
theorem dX6_winsRace_7 : decode cX6_winsRace 7 = .ok (.if_icmp .lt 7, 3) := by decide +kernel
theorem dX6_winsRace_10 : decode cX6_winsRace 10 = .ok (.iconst 1, 1) := by decide +kernel
theorem dX6_winsRace_11 : decode cX6_winsRace 11 = .ok (.goto 4, 3) := by decide +kernel
theorem dX6_winsRace_14 : decode cX6_winsRace 14 = .ok (.iconst 0, 1) := by decide +kernel
theorem dX6_winsRace_15 : decode cX6_winsRace 15 = .ok (.ireturn, 1) := by decide +kernel
theorem dX6_winningHit_0 : decode cX6_winningHit 0 = .ok (.aload_n 0, 1) := by decide +kernel
theorem dX6_winningHit_1 : decode cX6_winningHit 1 = .ok (.iload_n 1, 1) := by decide +kernel
theorem dX6_winningHit_2 : decode cX6_winningHit 2 = .ok (.invokevirtual 126, 3) := by decide +kernel
theorem dX6_winningHit_5 : decode cX6_winningHit 5 = .ok (.invokestatic 83, 3) := by decide +kernel
theorem dX6_winningHit_8 : decode cX6_winningHit 8 = .ok (.istore_n 3, 1) := by decide +kernel
theorem dX6_winningHit_9 : decode cX6_winningHit 9 = .ok (.aload_n 0, 1) := by decide +kernel
theorem dX6_winningHit_10 : decode cX6_winningHit 10 = .ok (.iload_n 2, 1) := by decide +kernel
theorem dX6_winningHit_11 : decode cX6_winningHit 11 = .ok (.invokevirtual 126, 3) := by decide +kernel
theorem dX6_winningHit_14 : decode cX6_winningHit 14 = .ok (.istore 4, 2) := by decide +kernel
theorem dX6_winningHit_16 : decode cX6_winningHit 16 = .ok (.iload_n 3, 1) := by decide +kernel
theorem dX6_winningHit_17 : decode cX6_winningHit 17 = .ok (.iconst 1, 1) := by decide +kernel
theorem dX6_winningHit_18 : decode cX6_winningHit 18 = .ok (.if_icmp .ge 5, 3) := by decide +kernel
theorem dX6_winningHit_21 : decode cX6_winningHit 21 = .ok (.iconst (-1), 1) := by decide +kernel
theorem dX6_winningHit_22 : decode cX6_winningHit 22 = .ok (.ireturn, 1) := by decide +kernel
theorem dX6_winningHit_23 : decode cX6_winningHit 23 = .ok (.iconst 0, 1) := by decide +kernel
theorem dX6_winningHit_24 : decode cX6_winningHit 24 = .ok (.istore 5, 2) := by decide +kernel
theorem dX6_winningHit_26 : decode cX6_winningHit 26 = .ok (.iload 5, 2) := by decide +kernel
theorem dX6_winningHit_28 : decode cX6_winningHit 28 = .ok (.aload_n 0, 1) := by decide +kernel
theorem dX6_winningHit_29 : decode cX6_winningHit 29 = .ok (.getfield 21, 3) := by decide +kernel
theorem dX6_winningHit_32 : decode cX6_winningHit 32 = .ok (.getfield 67, 3) := by decide +kernel
theorem dX6_winningHit_35 : decode cX6_winningHit 35 = .ok (.if_icmp .ge 50, 3) := by decide +kernel
theorem dX6_winningHit_38 : decode cX6_winningHit 38 = .ok (.aload_n 0, 1) := by decide +kernel
theorem dX6_winningHit_39 : decode cX6_winningHit 39 = .ok (.getfield 26, 3) := by decide +kernel
theorem dX6_winningHit_42 : decode cX6_winningHit 42 = .ok (.getfield 120, 3) := by decide +kernel
theorem dX6_winningHit_45 : decode cX6_winningHit 45 = .ok (.iload_n 2, 1) := by decide +kernel
theorem dX6_winningHit_46 : decode cX6_winningHit 46 = .ok (.invokestatic 40, 3) := by decide +kernel
theorem dX6_winningHit_49 : decode cX6_winningHit 49 = .ok (.iload 5, 2) := by decide +kernel
theorem dX6_winningHit_51 : decode cX6_winningHit 51 = .ok (.invokestatic 53, 3) := by decide +kernel
theorem dX6_winningHit_54 : decode cX6_winningHit 54 = .ok (.ifCond .eq 25, 3) := by decide +kernel
theorem dX6_winningHit_57 : decode cX6_winningHit 57 = .ok (.iload 4, 2) := by decide +kernel
theorem dX6_winningHit_59 : decode cX6_winningHit 59 = .ok (.iconst 1, 1) := by decide +kernel
theorem dX6_winningHit_60 : decode cX6_winningHit 60 = .ok (.iload 5, 2) := by decide +kernel
theorem dX6_winningHit_62 : decode cX6_winningHit 62 = .ok (.ishl, 1) := by decide +kernel
theorem dX6_winningHit_63 : decode cX6_winningHit 63 = .ok (.iconst (-1), 1) := by decide +kernel
theorem dX6_winningHit_64 : decode cX6_winningHit 64 = .ok (.ixor, 1) := by decide +kernel
theorem dX6_winningHit_65 : decode cX6_winningHit 65 = .ok (.iand, 1) := by decide +kernel
theorem dX6_winningHit_66 : decode cX6_winningHit 66 = .ok (.invokestatic 83, 3) := by decide +kernel
theorem dX6_winningHit_69 : decode cX6_winningHit 69 = .ok (.iload_n 3, 1) := by decide +kernel
theorem dX6_winningHit_70 : decode cX6_winningHit 70 = .ok (.invokestatic 129, 3) := by decide +kernel
theorem dX6_winningHit_73 : decode cX6_winningHit 73 = .ok (.ifCond .ne 6, 3) := by decide +kernel
theorem dX6_winningHit_76 : decode cX6_winningHit 76 = .ok (.iload 5, 2) := by decide +kernel
theorem dX6_winningHit_78 : decode cX6_winningHit 78 = .ok (.ireturn, 1) := by decide +kernel
theorem dX6_winningHit_79 : decode cX6_winningHit 79 = .ok (.iinc 5 1, 3) := by decide +kernel
theorem dX6_winningHit_82 : decode cX6_winningHit 82 = .ok (.goto (-56), 3) := by decide +kernel
theorem dX6_winningHit_85 : decode cX6_winningHit 85 = .ok (.iconst (-1), 1) := by decide +kernel
theorem dX6_winningHit_86 : decode cX6_winningHit 86 = .ok (.ireturn, 1) := by decide +kernel
theorem dX6_fewestForgotten_0 : decode cX6_fewestForgotten 0 = .ok (.aload_n 0, 1) := by decide +kernel
theorem dX6_fewestForgotten_1 : decode cX6_fewestForgotten 1 = .ok (.getfield 26, 3) := by decide +kernel
theorem dX6_fewestForgotten_4 : decode cX6_fewestForgotten 4 = .ok (.getfield 132, 3) := by decide +kernel
theorem dX6_fewestForgotten_7 : decode cX6_fewestForgotten 7 = .ok (.iload_n 1, 1) := by decide +kernel
theorem dX6_fewestForgotten_8 : decode cX6_fewestForgotten 8 = .ok (.invokestatic 40, 3) := by decide +kernel
theorem dX6_fewestForgotten_11 : decode cX6_fewestForgotten 11 = .ok (.istore_n 2, 1) := by decide +kernel
theorem dX6_fewestForgotten_12 : decode cX6_fewestForgotten 12 = .ok (.iload_n 2, 1) := by decide +kernel
theorem dX6_fewestForgotten_13 : decode cX6_fewestForgotten 13 = .ok (.invokestatic 83, 3) := by decide +kernel
theorem dX6_fewestForgotten_16 : decode cX6_fewestForgotten 16 = .ok (.istore_n 3, 1) := by decide +kernel
theorem dX6_fewestForgotten_17 : decode cX6_fewestForgotten 17 = .ok (.iload_n 2, 1) := by decide +kernel
theorem dX6_fewestForgotten_18 : decode cX6_fewestForgotten 18 = .ok (.istore 4, 2) := by decide +kernel
theorem dX6_fewestForgotten_20 : decode cX6_fewestForgotten 20 = .ok (.iconst 0, 1) := by decide +kernel
theorem dX6_fewestForgotten_21 : decode cX6_fewestForgotten 21 = .ok (.istore 5, 2) := by decide +kernel
theorem dX6_fewestForgotten_23 : decode cX6_fewestForgotten 23 = .ok (.iconst 0, 1) := by decide +kernel
theorem dX6_fewestForgotten_24 : decode cX6_fewestForgotten 24 = .ok (.istore 6, 2) := by decide +kernel
theorem dX6_fewestForgotten_26 : decode cX6_fewestForgotten 26 = .ok (.iload 6, 2) := by decide +kernel
theorem dX6_fewestForgotten_28 : decode cX6_fewestForgotten 28 = .ok (.iconst 1, 1) := by decide +kernel
theorem dX6_fewestForgotten_29 : decode cX6_fewestForgotten 29 = .ok (.iload_n 3, 1) := by decide +kernel
theorem dX6_fewestForgotten_30 : decode cX6_fewestForgotten 30 = .ok (.ishl, 1) := by decide +kernel
theorem dX6_fewestForgotten_31 : decode cX6_fewestForgotten 31 = .ok (.if_icmp .ge 48, 3) := by decide +kernel
theorem dX6_fewestForgotten_34 : decode cX6_fewestForgotten 34 = .ok (.iload 5, 2) := by decide +kernel
theorem dX6_fewestForgotten_36 : decode cX6_fewestForgotten 36 = .ok (.invokestatic 83, 3) := by decide +kernel
theorem dX6_fewestForgotten_39 : decode cX6_fewestForgotten 39 = .ok (.iload 4, 2) := by decide +kernel
theorem dX6_fewestForgotten_41 : decode cX6_fewestForgotten 41 = .ok (.invokestatic 83, 3) := by decide +kernel
theorem dX6_fewestForgotten_44 : decode cX6_fewestForgotten 44 = .ok (.if_icmp .ge 21, 3) := by decide +kernel
theorem dX6_fewestForgotten_47 : decode cX6_fewestForgotten 47 = .ok (.aload_n 0, 1) := by decide +kernel
theorem dX6_fewestForgotten_48 : decode cX6_fewestForgotten 48 = .ok (.aload_n 0, 1) := by decide +kernel
theorem dX6_fewestForgotten_49 : decode cX6_fewestForgotten 49 = .ok (.iload_n 2, 1) := by decide +kernel
theorem dX6_fewestForgotten_50 : decode cX6_fewestForgotten 50 = .ok (.iload 5, 2) := by decide +kernel
theorem dX6_fewestForgotten_52 : decode cX6_fewestForgotten 52 = .ok (.invokevirtual 135, 3) := by decide +kernel
theorem dX6_fewestForgotten_55 : decode cX6_fewestForgotten 55 = .ok (.invokevirtual 138, 3) := by decide +kernel
theorem dX6_fewestForgotten_58 : decode cX6_fewestForgotten 58 = .ok (.ifCond .eq 7, 3) := by decide +kernel
theorem dX6_fewestForgotten_61 : decode cX6_fewestForgotten 61 = .ok (.iload 5, 2) := by decide +kernel
theorem dX6_fewestForgotten_63 : decode cX6_fewestForgotten 63 = .ok (.istore 4, 2) := by decide +kernel
theorem dX6_fewestForgotten_65 : decode cX6_fewestForgotten 65 = .ok (.iload 5, 2) := by decide +kernel
theorem dX6_fewestForgotten_67 : decode cX6_fewestForgotten 67 = .ok (.iload_n 2, 1) := by decide +kernel
theorem dX6_fewestForgotten_68 : decode cX6_fewestForgotten 68 = .ok (.isub, 1) := by decide +kernel
theorem dX6_fewestForgotten_69 : decode cX6_fewestForgotten 69 = .ok (.iload_n 2, 1) := by decide +kernel
theorem dX6_fewestForgotten_70 : decode cX6_fewestForgotten 70 = .ok (.iand, 1) := by decide +kernel
theorem dX6_fewestForgotten_71 : decode cX6_fewestForgotten 71 = .ok (.istore 5, 2) := by decide +kernel
theorem dX6_fewestForgotten_73 : decode cX6_fewestForgotten 73 = .ok (.iinc 6 1, 3) := by decide +kernel
theorem dX6_fewestForgotten_76 : decode cX6_fewestForgotten 76 = .ok (.goto (-50), 3) := by decide +kernel
theorem dX6_fewestForgotten_79 : decode cX6_fewestForgotten 79 = .ok (.iload 4, 2) := by decide +kernel
theorem dX6_fewestForgotten_81 : decode cX6_fewestForgotten 81 = .ok (.ireturn, 1) := by decide +kernel
theorem dX6_leftOf_0 : decode cX6_leftOf 0 = .ok (.iload_n 1, 1) := by decide +kernel
theorem dX6_leftOf_1 : decode cX6_leftOf 1 = .ok (.iload_n 2, 1) := by decide +kernel
theorem dX6_leftOf_2 : decode cX6_leftOf 2 = .ok (.iconst (-1), 1) := by decide +kernel
theorem dX6_leftOf_3 : decode cX6_leftOf 3 = .ok (.ixor, 1) := by decide +kernel
theorem dX6_leftOf_4 : decode cX6_leftOf 4 = .ok (.iand, 1) := by decide +kernel
theorem dX6_leftOf_5 : decode cX6_leftOf 5 = .ok (.istore_n 3, 1) := by decide +kernel
theorem dX6_leftOf_6 : decode cX6_leftOf 6 = .ok (.iconst 0, 1) := by decide +kernel
theorem dX6_leftOf_7 : decode cX6_leftOf 7 = .ok (.istore 4, 2) := by decide +kernel
theorem dX6_leftOf_9 : decode cX6_leftOf 9 = .ok (.iload 4, 2) := by decide +kernel
theorem dX6_leftOf_11 : decode cX6_leftOf 11 = .ok (.aload_n 0, 1) := by decide +kernel
theorem dX6_leftOf_12 : decode cX6_leftOf 12 = .ok (.getfield 21, 3) := by decide +kernel
theorem dX6_leftOf_15 : decode cX6_leftOf 15 = .ok (.getfield 67, 3) := by decide +kernel
theorem dX6_leftOf_18 : decode cX6_leftOf 18 = .ok (.if_icmp .ge 35, 3) := by decide +kernel
theorem dX6_leftOf_21 : decode cX6_leftOf 21 = .ok (.iload_n 2, 1) := by decide +kernel
theorem dX6_leftOf_22 : decode cX6_leftOf 22 = .ok (.iload 4, 2) := by decide +kernel
theorem dX6_leftOf_24 : decode cX6_leftOf 24 = .ok (.invokestatic 53, 3) := by decide +kernel
theorem dX6_leftOf_27 : decode cX6_leftOf 27 = .ok (.ifCond .eq 20, 3) := by decide +kernel
theorem dX6_leftOf_30 : decode cX6_leftOf 30 = .ok (.iload_n 3, 1) := by decide +kernel
theorem dX6_leftOf_31 : decode cX6_leftOf 31 = .ok (.aload_n 0, 1) := by decide +kernel
theorem dX6_leftOf_32 : decode cX6_leftOf 32 = .ok (.getfield 21, 3) := by decide +kernel
theorem dX6_leftOf_35 : decode cX6_leftOf 35 = .ok (.getfield 142, 3) := by decide +kernel
theorem dX6_leftOf_38 : decode cX6_leftOf 38 = .ok (.iload 4, 2) := by decide +kernel
theorem dX6_leftOf_40 : decode cX6_leftOf 40 = .ok (.invokestatic 40, 3) := by decide +kernel
theorem dX6_leftOf_43 : decode cX6_leftOf 43 = .ok (.iconst (-1), 1) := by decide +kernel
theorem dX6_leftOf_44 : decode cX6_leftOf 44 = .ok (.ixor, 1) := by decide +kernel
theorem dX6_leftOf_45 : decode cX6_leftOf 45 = .ok (.iand, 1) := by decide +kernel
theorem dX6_leftOf_46 : decode cX6_leftOf 46 = .ok (.istore_n 3, 1) := by decide +kernel
theorem dX6_leftOf_47 : decode cX6_leftOf 47 = .ok (.iinc 4 1, 3) := by decide +kernel
theorem dX6_leftOf_50 : decode cX6_leftOf 50 = .ok (.goto (-41), 3) := by decide +kernel
theorem dX6_leftOf_53 : decode cX6_leftOf 53 = .ok (.iload_n 3, 1) := by decide +kernel
theorem dX6_leftOf_54 : decode cX6_leftOf 54 = .ok (.ireturn, 1) := by decide +kernel
theorem dX6_isPeaceful_0 : decode cX6_isPeaceful 0 = .ok (.iconst 0, 1) := by decide +kernel
theorem dX6_isPeaceful_1 : decode cX6_isPeaceful 1 = .ok (.istore_n 2, 1) := by decide +kernel
theorem dX6_isPeaceful_2 : decode cX6_isPeaceful 2 = .ok (.iload_n 2, 1) := by decide +kernel
theorem dX6_isPeaceful_3 : decode cX6_isPeaceful 3 = .ok (.aload_n 0, 1) := by decide +kernel
theorem dX6_isPeaceful_4 : decode cX6_isPeaceful 4 = .ok (.getfield 21, 3) := by decide +kernel
theorem dX6_isPeaceful_7 : decode cX6_isPeaceful 7 = .ok (.getfield 67, 3) := by decide +kernel
theorem dX6_isPeaceful_10 : decode cX6_isPeaceful 10 = .ok (.if_icmp .ge 35, 3) := by decide +kernel
theorem dX6_isPeaceful_13 : decode cX6_isPeaceful 13 = .ok (.iload_n 1, 1) := by decide +kernel
theorem dX6_isPeaceful_14 : decode cX6_isPeaceful 14 = .ok (.iload_n 2, 1) := by decide +kernel
theorem dX6_isPeaceful_15 : decode cX6_isPeaceful 15 = .ok (.invokestatic 53, 3) := by decide +kernel
theorem dX6_isPeaceful_18 : decode cX6_isPeaceful 18 = .ok (.ifCond .eq 21, 3) := by decide +kernel
theorem dX6_isPeaceful_21 : decode cX6_isPeaceful 21 = .ok (.aload_n 0, 1) := by decide +kernel
theorem dX6_isPeaceful_22 : decode cX6_isPeaceful 22 = .ok (.getfield 21, 3) := by decide +kernel
theorem dX6_isPeaceful_25 : decode cX6_isPeaceful 25 = .ok (.getfield 145, 3) := by decide +kernel
theorem dX6_isPeaceful_28 : decode cX6_isPeaceful 28 = .ok (.iload_n 2, 1) := by decide +kernel
theorem dX6_isPeaceful_29 : decode cX6_isPeaceful 29 = .ok (.invokestatic 40, 3) := by decide +kernel
theorem dX6_isPeaceful_32 : decode cX6_isPeaceful 32 = .ok (.iload_n 1, 1) := by decide +kernel
theorem dX6_isPeaceful_33 : decode cX6_isPeaceful 33 = .ok (.iand, 1) := by decide +kernel
theorem dX6_isPeaceful_34 : decode cX6_isPeaceful 34 = .ok (.ifCond .eq 5, 3) := by decide +kernel
theorem dX6_isPeaceful_37 : decode cX6_isPeaceful 37 = .ok (.iconst 0, 1) := by decide +kernel
theorem dX6_isPeaceful_38 : decode cX6_isPeaceful 38 = .ok (.ireturn, 1) := by decide +kernel
theorem dX6_isPeaceful_39 : decode cX6_isPeaceful 39 = .ok (.iinc 2 1, 3) := by decide +kernel
theorem dX6_isPeaceful_42 : decode cX6_isPeaceful 42 = .ok (.goto (-40), 3) := by decide +kernel
theorem dX6_isPeaceful_45 : decode cX6_isPeaceful 45 = .ok (.iconst 1, 1) := by decide +kernel
theorem dX6_isPeaceful_46 : decode cX6_isPeaceful 46 = .ok (.ireturn, 1) := by decide +kernel
theorem dX6_undoneBy_0 : decode cX6_undoneBy 0 = .ok (.iconst (-1), 1) := by decide +kernel
theorem dX6_undoneBy_1 : decode cX6_undoneBy 1 = .ok (.istore_n 2, 1) := by decide +kernel
theorem dX6_undoneBy_2 : decode cX6_undoneBy 2 = .ok (.iconst 0, 1) := by decide +kernel
theorem dX6_undoneBy_3 : decode cX6_undoneBy 3 = .ok (.istore_n 3, 1) := by decide +kernel
theorem dX6_undoneBy_4 : decode cX6_undoneBy 4 = .ok (.iload_n 3, 1) := by decide +kernel
theorem dX6_undoneBy_5 : decode cX6_undoneBy 5 = .ok (.aload_n 0, 1) := by decide +kernel
theorem dX6_undoneBy_6 : decode cX6_undoneBy 6 = .ok (.getfield 21, 3) := by decide +kernel
theorem dX6_undoneBy_9 : decode cX6_undoneBy 9 = .ok (.getfield 67, 3) := by decide +kernel
theorem dX6_undoneBy_12 : decode cX6_undoneBy 12 = .ok (.if_icmp .ge 85, 3) := by decide +kernel
theorem dX6_undoneBy_15 : decode cX6_undoneBy 15 = .ok (.iload_n 1, 1) := by decide +kernel
theorem dX6_undoneBy_16 : decode cX6_undoneBy 16 = .ok (.iload_n 3, 1) := by decide +kernel
theorem dX6_undoneBy_17 : decode cX6_undoneBy 17 = .ok (.invokestatic 53, 3) := by decide +kernel
theorem dX6_undoneBy_20 : decode cX6_undoneBy 20 = .ok (.ifCond .eq 71, 3) := by decide +kernel
theorem dX6_undoneBy_23 : decode cX6_undoneBy 23 = .ok (.aload_n 0, 1) := by decide +kernel
theorem dX6_undoneBy_24 : decode cX6_undoneBy 24 = .ok (.getfield 9, 3) := by decide +kernel
theorem dX6_undoneBy_27 : decode cX6_undoneBy 27 = .ok (.iload_n 3, 1) := by decide +kernel
theorem dX6_undoneBy_28 : decode cX6_undoneBy 28 = .ok (.invokevirtual 76, 3) := by decide +kernel
theorem dX6_undoneBy_31 : decode cX6_undoneBy 31 = .ok (.istore 4, 2) := by decide +kernel
theorem dX6_undoneBy_33 : decode cX6_undoneBy 33 = .ok (.iload 4, 2) := by decide +kernel
theorem dX6_undoneBy_35 : decode cX6_undoneBy 35 = .ok (.aload_n 0, 1) := by decide +kernel
theorem dX6_undoneBy_36 : decode cX6_undoneBy 36 = .ok (.getfield 9, 3) := by decide +kernel
theorem dX6_undoneBy_39 : decode cX6_undoneBy 39 = .ok (.iconst 0, 1) := by decide +kernel
theorem dX6_undoneBy_40 : decode cX6_undoneBy 40 = .ok (.invokevirtual 80, 3) := by decide +kernel
theorem dX6_undoneBy_43 : decode cX6_undoneBy 43 = .ok (.iand, 1) := by decide +kernel
theorem dX6_undoneBy_44 : decode cX6_undoneBy 44 = .ok (.invokestatic 83, 3) := by decide +kernel
theorem dX6_undoneBy_47 : decode cX6_undoneBy 47 = .ok (.istore 5, 2) := by decide +kernel
theorem dX6_undoneBy_49 : decode cX6_undoneBy 49 = .ok (.iload 4, 2) := by decide +kernel
theorem dX6_undoneBy_51 : decode cX6_undoneBy 51 = .ok (.aload_n 0, 1) := by decide +kernel
theorem dX6_undoneBy_52 : decode cX6_undoneBy 52 = .ok (.getfield 9, 3) := by decide +kernel
theorem dX6_undoneBy_55 : decode cX6_undoneBy 55 = .ok (.iconst 1, 1) := by decide +kernel
theorem dX6_undoneBy_56 : decode cX6_undoneBy 56 = .ok (.invokevirtual 80, 3) := by decide +kernel
theorem dX6_undoneBy_59 : decode cX6_undoneBy 59 = .ok (.iand, 1) := by decide +kernel
theorem dX6_undoneBy_60 : decode cX6_undoneBy 60 = .ok (.invokestatic 83, 3) := by decide +kernel
theorem dX6_undoneBy_63 : decode cX6_undoneBy 63 = .ok (.istore 6, 2) := by decide +kernel
theorem dX6_undoneBy_65 : decode cX6_undoneBy 65 = .ok (.iload 5, 2) := by decide +kernel
theorem dX6_undoneBy_67 : decode cX6_undoneBy 67 = .ok (.iload 6, 2) := by decide +kernel
theorem dX6_undoneBy_69 : decode cX6_undoneBy 69 = .ok (.invokestatic 114, 3) := by decide +kernel
theorem dX6_undoneBy_72 : decode cX6_undoneBy 72 = .ok (.istore 7, 2) := by decide +kernel
theorem dX6_undoneBy_74 : decode cX6_undoneBy 74 = .ok (.iload_n 2, 1) := by decide +kernel
theorem dX6_undoneBy_75 : decode cX6_undoneBy 75 = .ok (.iconst (-1), 1) := by decide +kernel
theorem dX6_undoneBy_76 : decode cX6_undoneBy 76 = .ok (.if_icmp .ne 8, 3) := by decide +kernel
theorem dX6_undoneBy_79 : decode cX6_undoneBy 79 = .ok (.iload 7, 2) := by decide +kernel
theorem dX6_undoneBy_81 : decode cX6_undoneBy 81 = .ok (.goto 9, 3) := by decide +kernel
theorem dX6_undoneBy_84 : decode cX6_undoneBy 84 = .ok (.iload_n 2, 1) := by decide +kernel
theorem dX6_undoneBy_85 : decode cX6_undoneBy 85 = .ok (.iload 7, 2) := by decide +kernel
theorem dX6_undoneBy_87 : decode cX6_undoneBy 87 = .ok (.invokestatic 114, 3) := by decide +kernel
theorem dX6_undoneBy_90 : decode cX6_undoneBy 90 = .ok (.istore_n 2, 1) := by decide +kernel
theorem dX6_undoneBy_91 : decode cX6_undoneBy 91 = .ok (.iinc 3 1, 3) := by decide +kernel
theorem dX6_undoneBy_94 : decode cX6_undoneBy 94 = .ok (.goto (-90), 3) := by decide +kernel
theorem dX6_undoneBy_97 : decode cX6_undoneBy 97 = .ok (.iload_n 2, 1) := by decide +kernel
theorem dX6_undoneBy_98 : decode cX6_undoneBy 98 = .ok (.ireturn, 1) := by decide +kernel
theorem dX6_mostHits_0 : decode cX6_mostHits 0 = .ok (.iconst 0, 1) := by decide +kernel
theorem dX6_mostHits_1 : decode cX6_mostHits 1 = .ok (.istore_n 1, 1) := by decide +kernel
theorem dX6_mostHits_2 : decode cX6_mostHits 2 = .ok (.iload_n 1, 1) := by decide +kernel
theorem dX6_mostHits_3 : decode cX6_mostHits 3 = .ok (.bipush 10, 2) := by decide +kernel
theorem dX6_mostHits_5 : decode cX6_mostHits 5 = .ok (.if_icmp .ge 16, 3) := by decide +kernel
theorem dX6_mostHits_8 : decode cX6_mostHits 8 = .ok (.aload_n 0, 1) := by decide +kernel
theorem dX6_mostHits_9 : decode cX6_mostHits 9 = .ok (.getfield 27, 3) := by decide +kernel
theorem dX6_mostHits_12 : decode cX6_mostHits 12 = .ok (.iload_n 1, 1) := by decide +kernel
theorem dX6_mostHits_13 : decode cX6_mostHits 13 = .ok (.iconst 0, 1) := by decide +kernel
theorem dX6_mostHits_14 : decode cX6_mostHits 14 = .ok (.iastore, 1) := by decide +kernel
theorem dX6_mostHits_15 : decode cX6_mostHits 15 = .ok (.iinc 1 1, 3) := by decide +kernel
theorem dX6_mostHits_18 : decode cX6_mostHits 18 = .ok (.goto (-16), 3) := by decide +kernel
theorem dX6_mostHits_21 : decode cX6_mostHits 21 = .ok (.aload_n 0, 1) := by decide +kernel
theorem dX6_mostHits_22 : decode cX6_mostHits 22 = .ok (.getfield 26, 3) := by decide +kernel
theorem dX6_mostHits_25 : decode cX6_mostHits 25 = .ok (.invokevirtual 148, 3) := by decide +kernel
theorem dX6_mostHits_28 : decode cX6_mostHits 28 = .ok (.istore_n 1, 1) := by decide +kernel
theorem dX6_mostHits_29 : decode cX6_mostHits 29 = .ok (.iconst 0, 1) := by decide +kernel
theorem dX6_mostHits_30 : decode cX6_mostHits 30 = .ok (.istore_n 2, 1) := by decide +kernel
theorem dX6_mostHits_31 : decode cX6_mostHits 31 = .ok (.iload_n 2, 1) := by decide +kernel
theorem dX6_mostHits_32 : decode cX6_mostHits 32 = .ok (.iload_n 1, 1) := by decide +kernel
theorem dX6_mostHits_33 : decode cX6_mostHits 33 = .ok (.if_icmp .ge 39, 3) := by decide +kernel
theorem dX6_mostHits_36 : decode cX6_mostHits 36 = .ok (.aload_n 0, 1) := by decide +kernel
theorem dX6_mostHits_37 : decode cX6_mostHits 37 = .ok (.getfield 26, 3) := by decide +kernel
theorem dX6_mostHits_40 : decode cX6_mostHits 40 = .ok (.getfield 152, 3) := by decide +kernel
theorem dX6_mostHits_43 : decode cX6_mostHits 43 = .ok (.iload_n 2, 1) := by decide +kernel
theorem dX6_mostHits_44 : decode cX6_mostHits 44 = .ok (.invokestatic 40, 3) := by decide +kernel
theorem dX6_mostHits_47 : decode cX6_mostHits 47 = .ok (.istore_n 3, 1) := by decide +kernel
theorem dX6_mostHits_48 : decode cX6_mostHits 48 = .ok (.aload_n 0, 1) := by decide +kernel
theorem dX6_mostHits_49 : decode cX6_mostHits 49 = .ok (.getfield 27, 3) := by decide +kernel
theorem dX6_mostHits_52 : decode cX6_mostHits 52 = .ok (.iload_n 3, 1) := by decide +kernel
theorem dX6_mostHits_53 : decode cX6_mostHits 53 = .ok (.aload_n 0, 1) := by decide +kernel
theorem dX6_mostHits_54 : decode cX6_mostHits 54 = .ok (.getfield 27, 3) := by decide +kernel
theorem dX6_mostHits_57 : decode cX6_mostHits 57 = .ok (.iload_n 3, 1) := by decide +kernel
theorem dX6_mostHits_58 : decode cX6_mostHits 58 = .ok (.invokestatic 40, 3) := by decide +kernel
theorem dX6_mostHits_61 : decode cX6_mostHits 61 = .ok (.iconst 1, 1) := by decide +kernel
theorem dX6_mostHits_62 : decode cX6_mostHits 62 = .ok (.iadd, 1) := by decide +kernel
theorem dX6_mostHits_63 : decode cX6_mostHits 63 = .ok (.invokestatic 155, 3) := by decide +kernel
theorem dX6_mostHits_66 : decode cX6_mostHits 66 = .ok (.iinc 2 1, 3) := by decide +kernel
theorem dX6_mostHits_69 : decode cX6_mostHits 69 = .ok (.goto (-38), 3) := by decide +kernel
theorem dX6_mostHits_72 : decode cX6_mostHits 72 = .ok (.iconst (-1), 1) := by decide +kernel
theorem dX6_mostHits_73 : decode cX6_mostHits 73 = .ok (.istore_n 2, 1) := by decide +kernel
theorem dX6_mostHits_74 : decode cX6_mostHits 74 = .ok (.iconst 0, 1) := by decide +kernel
theorem dX6_mostHits_75 : decode cX6_mostHits 75 = .ok (.istore_n 3, 1) := by decide +kernel
theorem dX6_mostHits_76 : decode cX6_mostHits 76 = .ok (.iconst 0, 1) := by decide +kernel
theorem dX6_mostHits_77 : decode cX6_mostHits 77 = .ok (.istore 4, 2) := by decide +kernel
theorem dX6_mostHits_79 : decode cX6_mostHits 79 = .ok (.iload 4, 2) := by decide +kernel
theorem dX6_mostHits_81 : decode cX6_mostHits 81 = .ok (.bipush 10, 2) := by decide +kernel
theorem dX6_mostHits_83 : decode cX6_mostHits 83 = .ok (.if_icmp .ge 35, 3) := by decide +kernel
theorem dX6_mostHits_86 : decode cX6_mostHits 86 = .ok (.aload_n 0, 1) := by decide +kernel
theorem dX6_mostHits_87 : decode cX6_mostHits 87 = .ok (.getfield 27, 3) := by decide +kernel
theorem dX6_mostHits_90 : decode cX6_mostHits 90 = .ok (.iload 4, 2) := by decide +kernel
theorem dX6_mostHits_92 : decode cX6_mostHits 92 = .ok (.invokestatic 40, 3) := by decide +kernel
theorem dX6_mostHits_95 : decode cX6_mostHits 95 = .ok (.iload_n 3, 1) := by decide +kernel
theorem dX6_mostHits_96 : decode cX6_mostHits 96 = .ok (.if_icmp .le 16, 3) := by decide +kernel
theorem dX6_mostHits_99 : decode cX6_mostHits 99 = .ok (.iload 4, 2) := by decide +kernel
theorem dX6_mostHits_101 : decode cX6_mostHits 101 = .ok (.istore_n 2, 1) := by decide +kernel
theorem dX6_mostHits_102 : decode cX6_mostHits 102 = .ok (.aload_n 0, 1) := by decide +kernel
theorem dX6_mostHits_103 : decode cX6_mostHits 103 = .ok (.getfield 27, 3) := by decide +kernel
theorem dX6_mostHits_106 : decode cX6_mostHits 106 = .ok (.iload 4, 2) := by decide +kernel
theorem dX6_mostHits_108 : decode cX6_mostHits 108 = .ok (.invokestatic 40, 3) := by decide +kernel
theorem dX6_mostHits_111 : decode cX6_mostHits 111 = .ok (.istore_n 3, 1) := by decide +kernel
theorem dX6_mostHits_112 : decode cX6_mostHits 112 = .ok (.iinc 4 1, 3) := by decide +kernel
theorem dX6_mostHits_115 : decode cX6_mostHits 115 = .ok (.goto (-36), 3) := by decide +kernel
theorem dX6_mostHits_118 : decode cX6_mostHits 118 = .ok (.iload_n 2, 1) := by decide +kernel
theorem dX6_mostHits_119 : decode cX6_mostHits 119 = .ok (.ireturn, 1) := by decide +kernel
theorem dX7_init_0 : decode cX7_init 0 = .ok (.aload_n 0, 1) := by decide +kernel
theorem dX7_init_1 : decode cX7_init 1 = .ok (.invokespecial 3, 3) := by decide +kernel
theorem dX7_init_4 : decode cX7_init 4 = .ok (.aload_n 0, 1) := by decide +kernel
theorem dX7_init_5 : decode cX7_init 5 = .ok (.aload_n 1, 1) := by decide +kernel
theorem dX7_init_6 : decode cX7_init 6 = .ok (.putfield 9, 3) := by decide +kernel
theorem dX7_init_9 : decode cX7_init 9 = .ok (.aload_n 0, 1) := by decide +kernel
theorem dX7_init_10 : decode cX7_init 10 = .ok (.sipush 488, 3) := by decide +kernel
theorem dX7_init_13 : decode cX7_init 13 = .ok (.newarray .int, 2) := by decide +kernel
theorem dX7_init_15 : decode cX7_init 15 = .ok (.putfield 15, 3) := by decide +kernel
theorem dX7_init_18 : decode cX7_init 18 = .ok (.return_, 1) := by decide +kernel
theorem dX7_fillCrowds_0 : decode cX7_fillCrowds 0 = .ok (.aload_n 0, 1) := by decide +kernel
theorem dX7_fillCrowds_1 : decode cX7_fillCrowds 1 = .ok (.aload_n 0, 1) := by decide +kernel
theorem dX7_fillCrowds_2 : decode cX7_fillCrowds 2 = .ok (.getfield 9, 3) := by decide +kernel
theorem dX7_fillCrowds_5 : decode cX7_fillCrowds 5 = .ok (.iload_n 1, 1) := by decide +kernel
theorem dX7_fillCrowds_6 : decode cX7_fillCrowds 6 = .ok (.invokevirtual 19, 3) := by decide +kernel
theorem dX7_fillCrowds_9 : decode cX7_fillCrowds 9 = .ok (.putfield 25, 3) := by decide +kernel
theorem dX7_fillCrowds_12 : decode cX7_fillCrowds 12 = .ok (.iconst 0, 1) := by decide +kernel
theorem dX7_fillCrowds_13 : decode cX7_fillCrowds 13 = .ok (.istore_n 3, 1) := by decide +kernel
theorem dX7_fillCrowds_14 : decode cX7_fillCrowds 14 = .ok (.iload_n 3, 1) := by decide +kernel
theorem dX7_fillCrowds_15 : decode cX7_fillCrowds 15 = .ok (.iload_n 2, 1) := by decide +kernel
theorem dX7_fillCrowds_16 : decode cX7_fillCrowds 16 = .ok (.iconst 1, 1) := by decide +kernel
theorem dX7_fillCrowds_17 : decode cX7_fillCrowds 17 = .ok (.iadd, 1) := by decide +kernel
theorem dX7_fillCrowds_18 : decode cX7_fillCrowds 18 = .ok (.bipush 8, 2) := by decide +kernel
theorem dX7_fillCrowds_20 : decode cX7_fillCrowds 20 = .ok (.imul, 1) := by decide +kernel
theorem dX7_fillCrowds_21 : decode cX7_fillCrowds 21 = .ok (.if_icmp .ge 18, 3) := by decide +kernel
theorem dX7_fillCrowds_24 : decode cX7_fillCrowds 24 = .ok (.aload_n 0, 1) := by decide +kernel
theorem dX7_fillCrowds_25 : decode cX7_fillCrowds 25 = .ok (.getfield 15, 3) := by decide +kernel
theorem dX7_fillCrowds_28 : decode cX7_fillCrowds 28 = .ok (.iload_n 3, 1) := by decide +kernel
theorem dX7_fillCrowds_29 : decode cX7_fillCrowds 29 = .ok (.iconst 0, 1) := by decide +kernel
theorem dX7_fillCrowds_30 : decode cX7_fillCrowds 30 = .ok (.invokestatic 29, 3) := by decide +kernel
theorem dX7_fillCrowds_33 : decode cX7_fillCrowds 33 = .ok (.iinc 3 1, 3) := by decide +kernel
theorem dX7_fillCrowds_36 : decode cX7_fillCrowds 36 = .ok (.goto (-22), 3) := by decide +kernel
theorem dX7_fillCrowds_39 : decode cX7_fillCrowds 39 = .ok (.iconst 0, 1) := by decide +kernel
theorem dX7_fillCrowds_40 : decode cX7_fillCrowds 40 = .ok (.istore_n 3, 1) := by decide +kernel
theorem dX7_fillCrowds_41 : decode cX7_fillCrowds 41 = .ok (.iload_n 3, 1) := by decide +kernel
theorem dX7_fillCrowds_42 : decode cX7_fillCrowds 42 = .ok (.bipush 10, 2) := by decide +kernel
theorem dX7_fillCrowds_44 : decode cX7_fillCrowds 44 = .ok (.if_icmp .ge 26, 3) := by decide +kernel
theorem dX7_fillCrowds_47 : decode cX7_fillCrowds 47 = .ok (.aload_n 0, 1) := by decide +kernel
theorem dX7_fillCrowds_48 : decode cX7_fillCrowds 48 = .ok (.getfield 25, 3) := by decide +kernel
theorem dX7_fillCrowds_51 : decode cX7_fillCrowds 51 = .ok (.iload_n 3, 1) := by decide +kernel
theorem dX7_fillCrowds_52 : decode cX7_fillCrowds 52 = .ok (.invokestatic 33, 3) := by decide +kernel
theorem dX7_fillCrowds_55 : decode cX7_fillCrowds 55 = .ok (.ifCond .eq 9, 3) := by decide +kernel
theorem dX7_fillCrowds_58 : decode cX7_fillCrowds 58 = .ok (.aload_n 0, 1) := by decide +kernel
theorem dX7_fillCrowds_59 : decode cX7_fillCrowds 59 = .ok (.iload_n 3, 1) := by decide +kernel
theorem dX7_fillCrowds_60 : decode cX7_fillCrowds 60 = .ok (.iload_n 2, 1) := by decide +kernel
theorem dX7_fillCrowds_61 : decode cX7_fillCrowds 61 = .ok (.invokevirtual 37, 3) := by decide +kernel
theorem dX7_fillCrowds_64 : decode cX7_fillCrowds 64 = .ok (.iinc 3 1, 3) := by decide +kernel
theorem dX7_fillCrowds_67 : decode cX7_fillCrowds 67 = .ok (.goto (-26), 3) := by decide +kernel
theorem dX7_fillCrowds_70 : decode cX7_fillCrowds 70 = .ok (.return_, 1) := by decide +kernel
theorem dX7_fillWay_0 : decode cX7_fillWay 0 = .ok (.iconst 0, 1) := by decide +kernel
theorem dX7_fillWay_1 : decode cX7_fillWay 1 = .ok (.istore_n 3, 1) := by decide +kernel
theorem dX7_fillWay_2 : decode cX7_fillWay 2 = .ok (.iload_n 3, 1) := by decide +kernel
theorem dX7_fillWay_3 : decode cX7_fillWay 3 = .ok (.iload_n 2, 1) := by decide +kernel
theorem dX7_fillWay_4 : decode cX7_fillWay 4 = .ok (.if_icmp .gt 47, 3) := by decide +kernel
theorem dX7_fillWay_7 : decode cX7_fillWay 7 = .ok (.iload_n 3, 1) := by decide +kernel
theorem dX7_fillWay_8 : decode cX7_fillWay 8 = .ok (.bipush 8, 2) := by decide +kernel
theorem dX7_fillWay_10 : decode cX7_fillWay 10 = .ok (.imul, 1) := by decide +kernel
theorem dX7_fillWay_11 : decode cX7_fillWay 11 = .ok (.aload_n 0, 1) := by decide +kernel
theorem dX7_fillWay_12 : decode cX7_fillWay 12 = .ok (.getfield 9, 3) := by decide +kernel
theorem dX7_fillWay_15 : decode cX7_fillWay 15 = .ok (.iload_n 1, 1) := by decide +kernel
theorem dX7_fillWay_16 : decode cX7_fillWay 16 = .ok (.iload_n 3, 1) := by decide +kernel
theorem dX7_fillWay_17 : decode cX7_fillWay 17 = .ok (.invokevirtual 41, 3) := by decide +kernel
theorem dX7_fillWay_20 : decode cX7_fillWay 20 = .ok (.iadd, 1) := by decide +kernel
theorem dX7_fillWay_21 : decode cX7_fillWay 21 = .ok (.istore 4, 2) := by decide +kernel
theorem dX7_fillWay_23 : decode cX7_fillWay 23 = .ok (.aload_n 0, 1) := by decide +kernel
theorem dX7_fillWay_24 : decode cX7_fillWay 24 = .ok (.getfield 15, 3) := by decide +kernel
theorem dX7_fillWay_27 : decode cX7_fillWay 27 = .ok (.iload 4, 2) := by decide +kernel
theorem dX7_fillWay_29 : decode cX7_fillWay 29 = .ok (.aload_n 0, 1) := by decide +kernel
theorem dX7_fillWay_30 : decode cX7_fillWay 30 = .ok (.getfield 15, 3) := by decide +kernel
theorem dX7_fillWay_33 : decode cX7_fillWay 33 = .ok (.iload 4, 2) := by decide +kernel
theorem dX7_fillWay_35 : decode cX7_fillWay 35 = .ok (.invokestatic 45, 3) := by decide +kernel
theorem dX7_fillWay_38 : decode cX7_fillWay 38 = .ok (.iconst 1, 1) := by decide +kernel
theorem dX7_fillWay_39 : decode cX7_fillWay 39 = .ok (.iload_n 1, 1) := by decide +kernel
theorem dX7_fillWay_40 : decode cX7_fillWay 40 = .ok (.ishl, 1) := by decide +kernel
theorem dX7_fillWay_41 : decode cX7_fillWay 41 = .ok (.ior, 1) := by decide +kernel
theorem dX7_fillWay_42 : decode cX7_fillWay 42 = .ok (.invokestatic 29, 3) := by decide +kernel
theorem dX7_fillWay_45 : decode cX7_fillWay 45 = .ok (.iinc 3 1, 3) := by decide +kernel
theorem dX7_fillWay_48 : decode cX7_fillWay 48 = .ok (.goto (-46), 3) := by decide +kernel
theorem dX7_fillWay_51 : decode cX7_fillWay 51 = .ok (.return_, 1) := by decide +kernel
theorem dX7_heardIn_0 : decode cX7_heardIn 0 = .ok (.iload_n 2, 1) := by decide +kernel
theorem dX7_heardIn_1 : decode cX7_heardIn 1 = .ok (.istore 4, 2) := by decide +kernel
theorem dX7_heardIn_3 : decode cX7_heardIn 3 = .ok (.iconst 0, 1) := by decide +kernel
theorem dX7_heardIn_4 : decode cX7_heardIn 4 = .ok (.istore 5, 2) := by decide +kernel
theorem dX7_heardIn_6 : decode cX7_heardIn 6 = .ok (.iload 5, 2) := by decide +kernel
theorem dX7_heardIn_8 : decode cX7_heardIn 8 = .ok (.bipush 8, 2) := by decide +kernel
theorem dX7_heardIn_10 : decode cX7_heardIn 10 = .ok (.if_icmp .ge 43, 3) := by decide +kernel
theorem dX7_heardIn_13 : decode cX7_heardIn 13 = .ok (.aload_n 0, 1) := by decide +kernel
theorem dX7_heardIn_14 : decode cX7_heardIn 14 = .ok (.getfield 15, 3) := by decide +kernel
theorem dX7_heardIn_17 : decode cX7_heardIn 17 = .ok (.iload_n 1, 1) := by decide +kernel
theorem dX7_heardIn_18 : decode cX7_heardIn 18 = .ok (.bipush 8, 2) := by decide +kernel
theorem dX7_heardIn_20 : decode cX7_heardIn 20 = .ok (.imul, 1) := by decide +kernel
theorem dX7_heardIn_21 : decode cX7_heardIn 21 = .ok (.iload 5, 2) := by decide +kernel
theorem dX7_heardIn_23 : decode cX7_heardIn 23 = .ok (.iadd, 1) := by decide +kernel
theorem dX7_heardIn_24 : decode cX7_heardIn 24 = .ok (.invokestatic 45, 3) := by decide +kernel
theorem dX7_heardIn_27 : decode cX7_heardIn 27 = .ok (.istore 6, 2) := by decide +kernel
theorem dX7_heardIn_29 : decode cX7_heardIn 29 = .ok (.iload 6, 2) := by decide +kernel
theorem dX7_heardIn_31 : decode cX7_heardIn 31 = .ok (.iload_n 2, 1) := by decide +kernel
theorem dX7_heardIn_32 : decode cX7_heardIn 32 = .ok (.iand, 1) := by decide +kernel
theorem dX7_heardIn_33 : decode cX7_heardIn 33 = .ok (.iload_n 3, 1) := by decide +kernel
theorem dX7_heardIn_34 : decode cX7_heardIn 34 = .ok (.iconst (-1), 1) := by decide +kernel
theorem dX7_heardIn_35 : decode cX7_heardIn 35 = .ok (.ixor, 1) := by decide +kernel
theorem dX7_heardIn_36 : decode cX7_heardIn 36 = .ok (.iand, 1) := by decide +kernel
theorem dX7_heardIn_37 : decode cX7_heardIn 37 = .ok (.ifCond .eq 10, 3) := by decide +kernel
theorem dX7_heardIn_40 : decode cX7_heardIn 40 = .ok (.iload 4, 2) := by decide +kernel
theorem dX7_heardIn_42 : decode cX7_heardIn 42 = .ok (.iload 6, 2) := by decide +kernel
theorem dX7_heardIn_44 : decode cX7_heardIn 44 = .ok (.ior, 1) := by decide +kernel
theorem dX7_heardIn_45 : decode cX7_heardIn 45 = .ok (.istore 4, 2) := by decide +kernel
theorem dX7_heardIn_47 : decode cX7_heardIn 47 = .ok (.iinc 5 1, 3) := by decide +kernel
theorem dX7_heardIn_50 : decode cX7_heardIn 50 = .ok (.goto (-44), 3) := by decide +kernel
theorem dX7_heardIn_53 : decode cX7_heardIn 53 = .ok (.iload 4, 2) := by decide +kernel
theorem dX7_heardIn_55 : decode cX7_heardIn 55 = .ok (.ireturn, 1) := by decide +kernel
theorem dX7_heardBehind_0 : decode cX7_heardBehind 0 = .ok (.iload_n 1, 1) := by decide +kernel
theorem dX7_heardBehind_1 : decode cX7_heardBehind 1 = .ok (.istore 4, 2) := by decide +kernel
theorem dX7_heardBehind_3 : decode cX7_heardBehind 3 = .ok (.iconst 0, 1) := by decide +kernel
theorem dX7_heardBehind_4 : decode cX7_heardBehind 4 = .ok (.istore 5, 2) := by decide +kernel
theorem dX7_heardBehind_6 : decode cX7_heardBehind 6 = .ok (.iload 5, 2) := by decide +kernel
theorem dX7_heardBehind_8 : decode cX7_heardBehind 8 = .ok (.iload_n 3, 1) := by decide +kernel
theorem dX7_heardBehind_9 : decode cX7_heardBehind 9 = .ok (.if_icmp .gt 29, 3) := by decide +kernel
theorem dX7_heardBehind_12 : decode cX7_heardBehind 12 = .ok (.iload 4, 2) := by decide +kernel
theorem dX7_heardBehind_14 : decode cX7_heardBehind 14 = .ok (.aload_n 0, 1) := by decide +kernel
theorem dX7_heardBehind_15 : decode cX7_heardBehind 15 = .ok (.getfield 25, 3) := by decide +kernel
theorem dX7_heardBehind_18 : decode cX7_heardBehind 18 = .ok (.if_icmp .eq 20, 3) := by decide +kernel
theorem dX7_heardBehind_21 : decode cX7_heardBehind 21 = .ok (.aload_n 0, 1) := by decide +kernel
theorem dX7_heardBehind_22 : decode cX7_heardBehind 22 = .ok (.iload 5, 2) := by decide +kernel
theorem dX7_heardBehind_24 : decode cX7_heardBehind 24 = .ok (.iload 4, 2) := by decide +kernel
theorem dX7_heardBehind_26 : decode cX7_heardBehind 26 = .ok (.iload_n 2, 1) := by decide +kernel
theorem dX7_heardBehind_27 : decode cX7_heardBehind 27 = .ok (.invokevirtual 49, 3) := by decide +kernel
theorem dX7_heardBehind_30 : decode cX7_heardBehind 30 = .ok (.istore 4, 2) := by decide +kernel
theorem dX7_heardBehind_32 : decode cX7_heardBehind 32 = .ok (.iinc 5 1, 3) := by decide +kernel
theorem dX7_heardBehind_35 : decode cX7_heardBehind 35 = .ok (.goto (-29), 3) := by decide +kernel
theorem dX7_heardBehind_38 : decode cX7_heardBehind 38 = .ok (.iload 4, 2) := by decide +kernel
theorem dX7_heardBehind_40 : decode cX7_heardBehind 40 = .ok (.ireturn, 1) := by decide +kernel
theorem dX7_soonestHour_0 : decode cX7_soonestHour 0 = .ok (.aload_n 0, 1) := by decide +kernel
theorem dX7_soonestHour_1 : decode cX7_soonestHour 1 = .ok (.aload_n 0, 1) := by decide +kernel
theorem dX7_soonestHour_2 : decode cX7_soonestHour 2 = .ok (.getfield 9, 3) := by decide +kernel
theorem dX7_soonestHour_5 : decode cX7_soonestHour 5 = .ok (.getfield 53, 3) := by decide +kernel
theorem dX7_soonestHour_8 : decode cX7_soonestHour 8 = .ok (.getfield 57, 3) := by decide +kernel
theorem dX7_soonestHour_11 : decode cX7_soonestHour 11 = .ok (.iload_n 1, 1) := by decide +kernel
theorem dX7_soonestHour_12 : decode cX7_soonestHour 12 = .ok (.invokestatic 45, 3) := by decide +kernel
theorem dX7_soonestHour_15 : decode cX7_soonestHour 15 = .ok (.bipush 60, 2) := by decide +kernel
theorem dX7_soonestHour_17 : decode cX7_soonestHour 17 = .ok (.invokevirtual 62, 3) := by decide +kernel
theorem dX7_soonestHour_20 : decode cX7_soonestHour 20 = .ok (.iconst 1, 1) := by decide +kernel
theorem dX7_soonestHour_21 : decode cX7_soonestHour 21 = .ok (.iload_n 1, 1) := by decide +kernel
theorem dX7_soonestHour_22 : decode cX7_soonestHour 22 = .ok (.ishl, 1) := by decide +kernel
theorem dX7_soonestHour_23 : decode cX7_soonestHour 23 = .ok (.istore_n 3, 1) := by decide +kernel
theorem dX7_soonestHour_24 : decode cX7_soonestHour 24 = .ok (.iconst 0, 1) := by decide +kernel
theorem dX7_soonestHour_25 : decode cX7_soonestHour 25 = .ok (.istore 4, 2) := by decide +kernel
theorem dX7_soonestHour_27 : decode cX7_soonestHour 27 = .ok (.iload 4, 2) := by decide +kernel
theorem dX7_soonestHour_29 : decode cX7_soonestHour 29 = .ok (.bipush 60, 2) := by decide +kernel
theorem dX7_soonestHour_31 : decode cX7_soonestHour 31 = .ok (.if_icmp .gt 29, 3) := by decide +kernel
theorem dX7_soonestHour_34 : decode cX7_soonestHour 34 = .ok (.aload_n 0, 1) := by decide +kernel
theorem dX7_soonestHour_35 : decode cX7_soonestHour 35 = .ok (.iload 4, 2) := by decide +kernel
theorem dX7_soonestHour_37 : decode cX7_soonestHour 37 = .ok (.iload_n 3, 1) := by decide +kernel
theorem dX7_soonestHour_38 : decode cX7_soonestHour 38 = .ok (.iconst 0, 1) := by decide +kernel
theorem dX7_soonestHour_39 : decode cX7_soonestHour 39 = .ok (.invokevirtual 49, 3) := by decide +kernel
theorem dX7_soonestHour_42 : decode cX7_soonestHour 42 = .ok (.istore_n 3, 1) := by decide +kernel
theorem dX7_soonestHour_43 : decode cX7_soonestHour 43 = .ok (.iload_n 3, 1) := by decide +kernel
theorem dX7_soonestHour_44 : decode cX7_soonestHour 44 = .ok (.iload_n 2, 1) := by decide +kernel
theorem dX7_soonestHour_45 : decode cX7_soonestHour 45 = .ok (.invokestatic 33, 3) := by decide +kernel
theorem dX7_soonestHour_48 : decode cX7_soonestHour 48 = .ok (.ifCond .eq 6, 3) := by decide +kernel
theorem dX7_soonestHour_51 : decode cX7_soonestHour 51 = .ok (.iload 4, 2) := by decide +kernel
theorem dX7_soonestHour_53 : decode cX7_soonestHour 53 = .ok (.ireturn, 1) := by decide +kernel
theorem dX7_soonestHour_54 : decode cX7_soonestHour 54 = .ok (.iinc 4 1, 3) := by decide +kernel
theorem dX7_soonestHour_57 : decode cX7_soonestHour 57 = .ok (.goto (-30), 3) := by decide +kernel
theorem dX7_soonestHour_60 : decode cX7_soonestHour 60 = .ok (.iconst (-1), 1) := by decide +kernel
theorem dX7_soonestHour_61 : decode cX7_soonestHour 61 = .ok (.ireturn, 1) := by decide +kernel
theorem dX7_fewestSilent_0 : decode cX7_fewestSilent 0 = .ok (.aload_n 0, 1) := by decide +kernel
theorem dX7_fewestSilent_1 : decode cX7_fewestSilent 1 = .ok (.getfield 9, 3) := by decide +kernel
theorem dX7_fewestSilent_4 : decode cX7_fewestSilent 4 = .ok (.iload_n 2, 1) := by decide +kernel
theorem dX7_fewestSilent_5 : decode cX7_fewestSilent 5 = .ok (.invokevirtual 19, 3) := by decide +kernel
theorem dX7_fewestSilent_8 : decode cX7_fewestSilent 8 = .ok (.istore_n 3, 1) := by decide +kernel
theorem dX7_fewestSilent_9 : decode cX7_fewestSilent 9 = .ok (.aload_n 0, 1) := by decide +kernel
theorem dX7_fewestSilent_10 : decode cX7_fewestSilent 10 = .ok (.getfield 9, 3) := by decide +kernel
theorem dX7_fewestSilent_13 : decode cX7_fewestSilent 13 = .ok (.iload_n 1, 1) := by decide +kernel
theorem dX7_fewestSilent_14 : decode cX7_fewestSilent 14 = .ok (.invokevirtual 65, 3) := by decide +kernel
theorem dX7_fewestSilent_17 : decode cX7_fewestSilent 17 = .ok (.iload_n 3, 1) := by decide +kernel
theorem dX7_fewestSilent_18 : decode cX7_fewestSilent 18 = .ok (.iand, 1) := by decide +kernel
theorem dX7_fewestSilent_19 : decode cX7_fewestSilent 19 = .ok (.istore 4, 2) := by decide +kernel
theorem dX7_fewestSilent_21 : decode cX7_fewestSilent 21 = .ok (.iload 4, 2) := by decide +kernel
theorem dX7_fewestSilent_23 : decode cX7_fewestSilent 23 = .ok (.iload_n 3, 1) := by decide +kernel
theorem dX7_fewestSilent_24 : decode cX7_fewestSilent 24 = .ok (.if_icmp .ne 6, 3) := by decide +kernel
theorem dX7_fewestSilent_27 : decode cX7_fewestSilent 27 = .ok (.bipush (-2), 2) := by decide +kernel
theorem dX7_fewestSilent_29 : decode cX7_fewestSilent 29 = .ok (.ireturn, 1) := by decide +kernel
theorem dX7_fewestSilent_30 : decode cX7_fewestSilent 30 = .ok (.aload_n 0, 1) := by decide +kernel
theorem dX7_fewestSilent_31 : decode cX7_fewestSilent 31 = .ok (.iload_n 2, 1) := by decide +kernel
theorem dX7_fewestSilent_32 : decode cX7_fewestSilent 32 = .ok (.bipush 12, 2) := by decide +kernel
theorem dX7_fewestSilent_34 : decode cX7_fewestSilent 34 = .ok (.invokevirtual 62, 3) := by decide +kernel
theorem dX7_fewestSilent_37 : decode cX7_fewestSilent 37 = .ok (.iload_n 3, 1) := by decide +kernel
theorem dX7_fewestSilent_38 : decode cX7_fewestSilent 38 = .ok (.istore 5, 2) := by decide +kernel
theorem dX7_fewestSilent_40 : decode cX7_fewestSilent 40 = .ok (.iconst 0, 1) := by decide +kernel
theorem dX7_fewestSilent_41 : decode cX7_fewestSilent 41 = .ok (.istore 6, 2) := by decide +kernel
theorem dX7_fewestSilent_43 : decode cX7_fewestSilent 43 = .ok (.iload 6, 2) := by decide +kernel
theorem dX7_fewestSilent_45 : decode cX7_fewestSilent 45 = .ok (.iload_n 3, 1) := by decide +kernel
theorem dX7_fewestSilent_46 : decode cX7_fewestSilent 46 = .ok (.if_icmp .ge 61, 3) := by decide +kernel
theorem dX7_fewestSilent_49 : decode cX7_fewestSilent 49 = .ok (.iload 6, 2) := by decide +kernel
theorem dX7_fewestSilent_51 : decode cX7_fewestSilent 51 = .ok (.iload_n 3, 1) := by decide +kernel
theorem dX7_fewestSilent_52 : decode cX7_fewestSilent 52 = .ok (.iconst (-1), 1) := by decide +kernel
theorem dX7_fewestSilent_53 : decode cX7_fewestSilent 53 = .ok (.ixor, 1) := by decide +kernel
theorem dX7_fewestSilent_54 : decode cX7_fewestSilent 54 = .ok (.iand, 1) := by decide +kernel
theorem dX7_fewestSilent_55 : decode cX7_fewestSilent 55 = .ok (.ifCond .ne 20, 3) := by decide +kernel
theorem dX7_fewestSilent_58 : decode cX7_fewestSilent 58 = .ok (.iload 6, 2) := by decide +kernel
theorem dX7_fewestSilent_60 : decode cX7_fewestSilent 60 = .ok (.invokestatic 68, 3) := by decide +kernel
theorem dX7_fewestSilent_63 : decode cX7_fewestSilent 63 = .ok (.iload 5, 2) := by decide +kernel
theorem dX7_fewestSilent_65 : decode cX7_fewestSilent 65 = .ok (.invokestatic 68, 3) := by decide +kernel
theorem dX7_fewestSilent_68 : decode cX7_fewestSilent 68 = .ok (.if_icmp .ge 7, 3) := by decide +kernel
theorem dX7_fewestSilent_71 : decode cX7_fewestSilent 71 = .ok (.iconst 1, 1) := by decide +kernel
theorem dX7_fewestSilent_72 : decode cX7_fewestSilent 72 = .ok (.goto 4, 3) := by decide +kernel
theorem dX7_fewestSilent_75 : decode cX7_fewestSilent 75 = .ok (.iconst 0, 1) := by decide +kernel
theorem dX7_fewestSilent_76 : decode cX7_fewestSilent 76 = .ok (.istore 7, 2) := by decide +kernel
theorem dX7_fewestSilent_78 : decode cX7_fewestSilent 78 = .ok (.iload 7, 2) := by decide +kernel
theorem dX7_fewestSilent_80 : decode cX7_fewestSilent 80 = .ok (.ifCond .eq 21, 3) := by decide +kernel
theorem dX7_fewestSilent_83 : decode cX7_fewestSilent 83 = .ok (.aload_n 0, 1) := by decide +kernel
theorem dX7_fewestSilent_84 : decode cX7_fewestSilent 84 = .ok (.iload 4, 2) := by decide +kernel
theorem dX7_fewestSilent_86 : decode cX7_fewestSilent 86 = .ok (.iload 6, 2) := by decide +kernel
theorem dX7_fewestSilent_88 : decode cX7_fewestSilent 88 = .ok (.bipush 12, 2) := by decide +kernel
theorem dX7_fewestSilent_90 : decode cX7_fewestSilent 90 = .ok (.invokevirtual 73, 3) := by decide +kernel
theorem dX7_fewestSilent_93 : decode cX7_fewestSilent 93 = .ok (.iload_n 3, 1) := by decide +kernel
theorem dX7_fewestSilent_94 : decode cX7_fewestSilent 94 = .ok (.if_icmp .eq 7, 3) := by decide +kernel
theorem dX7_fewestSilent_97 : decode cX7_fewestSilent 97 = .ok (.iload 6, 2) := by decide +kernel
theorem dX7_fewestSilent_99 : decode cX7_fewestSilent 99 = .ok (.istore 5, 2) := by decide +kernel
theorem dX7_fewestSilent_101 : decode cX7_fewestSilent 101 = .ok (.iinc 6 1, 3) := by decide +kernel
theorem dX7_fewestSilent_104 : decode cX7_fewestSilent 104 = .ok (.goto (-61), 3) := by decide +kernel
theorem dX7_fewestSilent_107 : decode cX7_fewestSilent 107 = .ok (.iload 5, 2) := by decide +kernel
theorem dX7_fewestSilent_109 : decode cX7_fewestSilent 109 = .ok (.ireturn, 1) := by decide +kernel
theorem dX8_init_0 : decode cX8_init 0 = .ok (.aload_n 0, 1) := by decide +kernel
theorem dX8_init_1 : decode cX8_init 1 = .ok (.invokespecial 3, 3) := by decide +kernel
theorem dX8_init_4 : decode cX8_init 4 = .ok (.aload_n 0, 1) := by decide +kernel
theorem dX8_init_5 : decode cX8_init 5 = .ok (.sipush 400, 3) := by decide +kernel
theorem dX8_init_8 : decode cX8_init 8 = .ok (.newarray .int, 2) := by decide +kernel
theorem dX8_init_10 : decode cX8_init 10 = .ok (.putfield 9, 3) := by decide +kernel
theorem dX8_init_13 : decode cX8_init 13 = .ok (.return_, 1) := by decide +kernel
theorem dX8_addNumber_0 : decode cX8_addNumber 0 = .ok (.bipush 24, 2) := by decide +kernel
theorem dX8_addNumber_2 : decode cX8_addNumber 2 = .ok (.istore_n 2, 1) := by decide +kernel
theorem dX8_addNumber_3 : decode cX8_addNumber 3 = .ok (.iload_n 2, 1) := by decide +kernel
theorem dX8_addNumber_4 : decode cX8_addNumber 4 = .ok (.ifCond .lt 37, 3) := by decide +kernel
theorem dX8_addNumber_7 : decode cX8_addNumber 7 = .ok (.aload_n 0, 1) := by decide +kernel
theorem dX8_addNumber_8 : decode cX8_addNumber 8 = .ok (.getfield 9, 3) := by decide +kernel
theorem dX8_addNumber_11 : decode cX8_addNumber 11 = .ok (.aload_n 0, 1) := by decide +kernel
theorem dX8_addNumber_12 : decode cX8_addNumber 12 = .ok (.getfield 15, 3) := by decide +kernel
theorem dX8_addNumber_15 : decode cX8_addNumber 15 = .ok (.iload_n 1, 1) := by decide +kernel
theorem dX8_addNumber_16 : decode cX8_addNumber 16 = .ok (.iload_n 2, 1) := by decide +kernel
theorem dX8_addNumber_17 : decode cX8_addNumber 17 = .ok (.ishr, 1) := by decide +kernel
theorem dX8_addNumber_18 : decode cX8_addNumber 18 = .ok (.sipush 255, 3) := by decide +kernel
theorem dX8_addNumber_21 : decode cX8_addNumber 21 = .ok (.iand, 1) := by decide +kernel
theorem dX8_addNumber_22 : decode cX8_addNumber 22 = .ok (.invokestatic 19, 3) := by decide +kernel
theorem dX8_addNumber_25 : decode cX8_addNumber 25 = .ok (.aload_n 0, 1) := by decide +kernel
theorem dX8_addNumber_26 : decode cX8_addNumber 26 = .ok (.dup, 1) := by decide +kernel
theorem dX8_addNumber_27 : decode cX8_addNumber 27 = .ok (.getfield 15, 3) := by decide +kernel
theorem dX8_addNumber_30 : decode cX8_addNumber 30 = .ok (.iconst 1, 1) := by decide +kernel
theorem dX8_addNumber_31 : decode cX8_addNumber 31 = .ok (.iadd, 1) := by decide +kernel
theorem dX8_addNumber_32 : decode cX8_addNumber 32 = .ok (.putfield 15, 3) := by decide +kernel
theorem dX8_addNumber_35 : decode cX8_addNumber 35 = .ok (.iinc 2 (-8), 3) := by decide +kernel
theorem dX8_addNumber_38 : decode cX8_addNumber 38 = .ok (.goto (-35), 3) := by decide +kernel
theorem dX8_addNumber_41 : decode cX8_addNumber 41 = .ok (.return_, 1) := by decide +kernel
theorem dX8_open_0 : decode cX8_open 0 = .ok (.aload_n 0, 1) := by decide +kernel
theorem dX8_open_1 : decode cX8_open 1 = .ok (.iconst 0, 1) := by decide +kernel
theorem dX8_open_2 : decode cX8_open 2 = .ok (.putfield 23, 3) := by decide +kernel
theorem dX8_open_5 : decode cX8_open 5 = .ok (.aload_n 0, 1) := by decide +kernel
theorem dX8_open_6 : decode cX8_open 6 = .ok (.invokevirtual 26, 3) := by decide +kernel
theorem dX8_open_9 : decode cX8_open 9 = .ok (.return_, 1) := by decide +kernel
theorem dX8_advance_0 : decode cX8_advance 0 = .ok (.aload_n 0, 1) := by decide +kernel
theorem dX8_advance_1 : decode cX8_advance 1 = .ok (.aload_n 0, 1) := by decide +kernel
theorem dX8_advance_2 : decode cX8_advance 2 = .ok (.getfield 23, 3) := by decide +kernel
theorem dX8_advance_5 : decode cX8_advance 5 = .ok (.putfield 29, 3) := by decide +kernel
theorem dX8_advance_8 : decode cX8_advance 8 = .ok (.aload_n 0, 1) := by decide +kernel
theorem dX8_advance_9 : decode cX8_advance 9 = .ok (.getfield 29, 3) := by decide +kernel
theorem dX8_advance_12 : decode cX8_advance 12 = .ok (.aload_n 0, 1) := by decide +kernel
theorem dX8_advance_13 : decode cX8_advance 13 = .ok (.getfield 15, 3) := by decide +kernel
theorem dX8_advance_16 : decode cX8_advance 16 = .ok (.if_icmp .ge 42, 3) := by decide +kernel
theorem dX8_advance_19 : decode cX8_advance 19 = .ok (.aload_n 0, 1) := by decide +kernel
theorem dX8_advance_20 : decode cX8_advance 20 = .ok (.getfield 29, 3) := by decide +kernel
theorem dX8_advance_23 : decode cX8_advance 23 = .ok (.sipush 400, 3) := by decide +kernel
theorem dX8_advance_26 : decode cX8_advance 26 = .ok (.if_icmp .ge 32, 3) := by decide +kernel
theorem dX8_advance_29 : decode cX8_advance 29 = .ok (.aload_n 0, 1) := by decide +kernel
theorem dX8_advance_30 : decode cX8_advance 30 = .ok (.getfield 9, 3) := by decide +kernel
theorem dX8_advance_33 : decode cX8_advance 33 = .ok (.aload_n 0, 1) := by decide +kernel
theorem dX8_advance_34 : decode cX8_advance 34 = .ok (.getfield 29, 3) := by decide +kernel
theorem dX8_advance_37 : decode cX8_advance 37 = .ok (.invokestatic 32, 3) := by decide +kernel
theorem dX8_advance_40 : decode cX8_advance 40 = .ok (.bipush 32, 2) := by decide +kernel
theorem dX8_advance_42 : decode cX8_advance 42 = .ok (.if_icmp .ne 16, 3) := by decide +kernel
theorem dX8_advance_45 : decode cX8_advance 45 = .ok (.aload_n 0, 1) := by decide +kernel
theorem dX8_advance_46 : decode cX8_advance 46 = .ok (.dup, 1) := by decide +kernel
theorem dX8_advance_47 : decode cX8_advance 47 = .ok (.getfield 29, 3) := by decide +kernel
theorem dX8_advance_50 : decode cX8_advance 50 = .ok (.iconst 1, 1) := by decide +kernel
theorem dX8_advance_51 : decode cX8_advance 51 = .ok (.iadd, 1) := by decide +kernel
theorem dX8_advance_52 : decode cX8_advance 52 = .ok (.putfield 29, 3) := by decide +kernel
theorem dX8_advance_55 : decode cX8_advance 55 = .ok (.goto (-47), 3) := by decide +kernel
theorem dX8_advance_58 : decode cX8_advance 58 = .ok (.aload_n 0, 1) := by decide +kernel
theorem dX8_advance_59 : decode cX8_advance 59 = .ok (.aload_n 0, 1) := by decide +kernel
theorem dX8_advance_60 : decode cX8_advance 60 = .ok (.aload_n 0, 1) := by decide +kernel
theorem dX8_advance_61 : decode cX8_advance 61 = .ok (.getfield 29, 3) := by decide +kernel
theorem dX8_advance_64 : decode cX8_advance 64 = .ok (.invokevirtual 36, 3) := by decide +kernel
theorem dX8_advance_67 : decode cX8_advance 67 = .ok (.putfield 40, 3) := by decide +kernel
theorem dX8_advance_70 : decode cX8_advance 70 = .ok (.aload_n 0, 1) := by decide +kernel
theorem dX8_advance_71 : decode cX8_advance 71 = .ok (.aload_n 0, 1) := by decide +kernel
theorem dX8_advance_72 : decode cX8_advance 72 = .ok (.getfield 40, 3) := by decide +kernel
theorem dX8_advance_75 : decode cX8_advance 75 = .ok (.ifCond .ne 10, 3) := by decide +kernel
theorem dX8_advance_78 : decode cX8_advance 78 = .ok (.aload_n 0, 1) := by decide +kernel
theorem dX8_advance_79 : decode cX8_advance 79 = .ok (.getfield 29, 3) := by decide +kernel
theorem dX8_advance_82 : decode cX8_advance 82 = .ok (.goto 9, 3) := by decide +kernel
theorem dX8_advance_85 : decode cX8_advance 85 = .ok (.aload_n 0, 1) := by decide +kernel
theorem dX8_advance_86 : decode cX8_advance 86 = .ok (.getfield 29, 3) := by decide +kernel
theorem dX8_advance_89 : decode cX8_advance 89 = .ok (.iconst 1, 1) := by decide +kernel
theorem dX8_advance_90 : decode cX8_advance 90 = .ok (.iadd, 1) := by decide +kernel
theorem dX8_advance_91 : decode cX8_advance 91 = .ok (.putfield 23, 3) := by decide +kernel
theorem dX8_advance_94 : decode cX8_advance 94 = .ok (.aload_n 0, 1) := by decide +kernel
theorem dX8_advance_95 : decode cX8_advance 95 = .ok (.getfield 40, 3) := by decide +kernel
theorem dX8_advance_98 : decode cX8_advance 98 = .ok (.iconst 3, 1) := by decide +kernel
theorem dX8_advance_99 : decode cX8_advance 99 = .ok (.if_icmp .eq 42, 3) := by decide +kernel
theorem dX8_advance_102 : decode cX8_advance 102 = .ok (.aload_n 0, 1) := by decide +kernel
theorem dX8_advance_103 : decode cX8_advance 103 = .ok (.getfield 23, 3) := by decide +kernel
theorem dX8_advance_106 : decode cX8_advance 106 = .ok (.aload_n 0, 1) := by decide +kernel
theorem dX8_advance_107 : decode cX8_advance 107 = .ok (.getfield 15, 3) := by decide +kernel
theorem dX8_advance_110 : decode cX8_advance 110 = .ok (.if_icmp .ge 31, 3) := by decide +kernel
theorem dX8_advance_113 : decode cX8_advance 113 = .ok (.aload_n 0, 1) := by decide +kernel
theorem dX8_advance_114 : decode cX8_advance 114 = .ok (.aload_n 0, 1) := by decide +kernel
theorem dX8_advance_115 : decode cX8_advance 115 = .ok (.getfield 23, 3) := by decide +kernel
theorem dX8_advance_118 : decode cX8_advance 118 = .ok (.invokevirtual 36, 3) := by decide +kernel
theorem dX8_advance_121 : decode cX8_advance 121 = .ok (.aload_n 0, 1) := by decide +kernel
theorem dX8_advance_122 : decode cX8_advance 122 = .ok (.getfield 40, 3) := by decide +kernel
theorem dX8_advance_125 : decode cX8_advance 125 = .ok (.if_icmp .ne 16, 3) := by decide +kernel
theorem dX8_advance_128 : decode cX8_advance 128 = .ok (.aload_n 0, 1) := by decide +kernel
theorem dX8_advance_129 : decode cX8_advance 129 = .ok (.dup, 1) := by decide +kernel
theorem dX8_advance_130 : decode cX8_advance 130 = .ok (.getfield 23, 3) := by decide +kernel
theorem dX8_advance_133 : decode cX8_advance 133 = .ok (.iconst 1, 1) := by decide +kernel
theorem dX8_advance_134 : decode cX8_advance 134 = .ok (.iadd, 1) := by decide +kernel
theorem dX8_advance_135 : decode cX8_advance 135 = .ok (.putfield 23, 3) := by decide +kernel
theorem dX8_advance_138 : decode cX8_advance 138 = .ok (.goto (-44), 3) := by decide +kernel
theorem dX8_advance_141 : decode cX8_advance 141 = .ok (.aload_n 0, 1) := by decide +kernel
theorem dX8_advance_142 : decode cX8_advance 142 = .ok (.aload_n 0, 1) := by decide +kernel
theorem dX8_advance_143 : decode cX8_advance 143 = .ok (.getfield 40, 3) := by decide +kernel
theorem dX8_advance_146 : decode cX8_advance 146 = .ok (.iconst 2, 1) := by decide +kernel
theorem dX8_advance_147 : decode cX8_advance 147 = .ok (.if_icmp .ne 10, 3) := by decide +kernel
theorem dX8_advance_150 : decode cX8_advance 150 = .ok (.aload_n 0, 1) := by decide +kernel
theorem dX8_advance_151 : decode cX8_advance 151 = .ok (.invokevirtual 43, 3) := by decide +kernel
theorem dX8_advance_154 : decode cX8_advance 154 = .ok (.goto 14, 3) := by decide +kernel
theorem dX8_advance_157 : decode cX8_advance 157 = .ok (.aload_n 0, 1) := by decide +kernel
theorem dX8_advance_158 : decode cX8_advance 158 = .ok (.getfield 9, 3) := by decide +kernel
theorem dX8_advance_161 : decode cX8_advance 161 = .ok (.aload_n 0, 1) := by decide +kernel
theorem dX8_advance_162 : decode cX8_advance 162 = .ok (.getfield 29, 3) := by decide +kernel
theorem dX8_advance_165 : decode cX8_advance 165 = .ok (.invokestatic 32, 3) := by decide +kernel
theorem dX8_advance_168 : decode cX8_advance 168 = .ok (.putfield 47, 3) := by decide +kernel
theorem dX8_advance_171 : decode cX8_advance 171 = .ok (.return_, 1) := by decide +kernel
theorem dX8_numberRead_0 : decode cX8_numberRead 0 = .ok (.iconst 0, 1) := by decide +kernel
theorem dX8_numberRead_1 : decode cX8_numberRead 1 = .ok (.istore_n 1, 1) := by decide +kernel
theorem dX8_numberRead_2 : decode cX8_numberRead 2 = .ok (.aload_n 0, 1) := by decide +kernel
theorem dX8_numberRead_3 : decode cX8_numberRead 3 = .ok (.getfield 29, 3) := by decide +kernel
theorem dX8_numberRead_6 : decode cX8_numberRead 6 = .ok (.istore_n 2, 1) := by decide +kernel
theorem dX8_numberRead_7 : decode cX8_numberRead 7 = .ok (.iload_n 2, 1) := by decide +kernel
theorem dX8_numberRead_8 : decode cX8_numberRead 8 = .ok (.aload_n 0, 1) := by decide +kernel
theorem dX8_numberRead_9 : decode cX8_numberRead 9 = .ok (.getfield 23, 3) := by decide +kernel
theorem dX8_numberRead_12 : decode cX8_numberRead 12 = .ok (.if_icmp .ge 45, 3) := by decide +kernel
theorem dX8_numberRead_15 : decode cX8_numberRead 15 = .ok (.iload_n 2, 1) := by decide +kernel
theorem dX8_numberRead_16 : decode cX8_numberRead 16 = .ok (.sipush 400, 3) := by decide +kernel
theorem dX8_numberRead_19 : decode cX8_numberRead 19 = .ok (.if_icmp .ge 38, 3) := by decide +kernel
theorem dX8_numberRead_22 : decode cX8_numberRead 22 = .ok (.iload_n 2, 1) := by decide +kernel
theorem dX8_numberRead_23 : decode cX8_numberRead 23 = .ok (.aload_n 0, 1) := by decide +kernel
theorem dX8_numberRead_24 : decode cX8_numberRead 24 = .ok (.getfield 29, 3) := by decide +kernel
theorem dX8_numberRead_27 : decode cX8_numberRead 27 = .ok (.isub, 1) := by decide +kernel
theorem dX8_numberRead_28 : decode cX8_numberRead 28 = .ok (.iconst 3, 1) := by decide +kernel
theorem dX8_numberRead_29 : decode cX8_numberRead 29 = .ok (.if_icmp .ge 20, 3) := by decide +kernel
theorem dX8_numberRead_32 : decode cX8_numberRead 32 = .ok (.iload_n 1, 1) := by decide +kernel
theorem dX8_numberRead_33 : decode cX8_numberRead 33 = .ok (.bipush 10, 2) := by decide +kernel
theorem dX8_numberRead_35 : decode cX8_numberRead 35 = .ok (.imul, 1) := by decide +kernel
theorem dX8_numberRead_36 : decode cX8_numberRead 36 = .ok (.aload_n 0, 1) := by decide +kernel
theorem dX8_numberRead_37 : decode cX8_numberRead 37 = .ok (.getfield 9, 3) := by decide +kernel
theorem dX8_numberRead_40 : decode cX8_numberRead 40 = .ok (.iload_n 2, 1) := by decide +kernel
theorem dX8_numberRead_41 : decode cX8_numberRead 41 = .ok (.iaload, 1) := by decide +kernel
theorem dX8_numberRead_42 : decode cX8_numberRead 42 = .ok (.iadd, 1) := by decide +kernel
theorem dX8_numberRead_43 : decode cX8_numberRead 43 = .ok (.bipush 48, 2) := by decide +kernel
theorem dX8_numberRead_45 : decode cX8_numberRead 45 = .ok (.isub, 1) := by decide +kernel
theorem dX8_numberRead_46 : decode cX8_numberRead 46 = .ok (.goto 4, 3) := by decide +kernel
theorem dX8_numberRead_49 : decode cX8_numberRead 49 = .ok (.iconst (-1), 1) := by decide +kernel
theorem dX8_numberRead_50 : decode cX8_numberRead 50 = .ok (.istore_n 1, 1) := by decide +kernel
theorem dX8_numberRead_51 : decode cX8_numberRead 51 = .ok (.iinc 2 1, 3) := by decide +kernel
theorem dX8_numberRead_54 : decode cX8_numberRead 54 = .ok (.goto (-47), 3) := by decide +kernel
theorem dX8_numberRead_57 : decode cX8_numberRead 57 = .ok (.iload_n 1, 1) := by decide +kernel
theorem dX8_numberRead_58 : decode cX8_numberRead 58 = .ok (.ireturn, 1) := by decide +kernel
theorem dX8_kindAt_0 : decode cX8_kindAt 0 = .ok (.iload_n 1, 1) := by decide +kernel
theorem dX8_kindAt_1 : decode cX8_kindAt 1 = .ok (.ifCond .lt 27, 3) := by decide +kernel
theorem dX8_kindAt_4 : decode cX8_kindAt 4 = .ok (.iload_n 1, 1) := by decide +kernel
theorem dX8_kindAt_5 : decode cX8_kindAt 5 = .ok (.aload_n 0, 1) := by decide +kernel
theorem dX8_kindAt_6 : decode cX8_kindAt 6 = .ok (.getfield 15, 3) := by decide +kernel
theorem dX8_kindAt_9 : decode cX8_kindAt 9 = .ok (.if_icmp .ge 19, 3) := by decide +kernel
theorem dX8_kindAt_12 : decode cX8_kindAt 12 = .ok (.iload_n 1, 1) := by decide +kernel
theorem dX8_kindAt_13 : decode cX8_kindAt 13 = .ok (.sipush 400, 3) := by decide +kernel
theorem dX8_kindAt_16 : decode cX8_kindAt 16 = .ok (.if_icmp .ge 12, 3) := by decide +kernel
theorem dX8_kindAt_19 : decode cX8_kindAt 19 = .ok (.aload_n 0, 1) := by decide +kernel
theorem dX8_kindAt_20 : decode cX8_kindAt 20 = .ok (.getfield 9, 3) := by decide +kernel
theorem dX8_kindAt_23 : decode cX8_kindAt 23 = .ok (.iload_n 1, 1) := by decide +kernel
theorem dX8_kindAt_24 : decode cX8_kindAt 24 = .ok (.iaload, 1) := by decide +kernel
theorem dX8_kindAt_25 : decode cX8_kindAt 25 = .ok (.goto 4, 3) := by decide +kernel
theorem dX8_kindAt_28 : decode cX8_kindAt 28 = .ok (.iconst (-1), 1) := by decide +kernel
theorem dX8_kindAt_29 : decode cX8_kindAt 29 = .ok (.istore_n 2, 1) := by decide +kernel
theorem dX8_kindAt_30 : decode cX8_kindAt 30 = .ok (.iload_n 2, 1) := by decide +kernel
theorem dX8_kindAt_31 : decode cX8_kindAt 31 = .ok (.bipush 97, 2) := by decide +kernel
theorem dX8_kindAt_33 : decode cX8_kindAt 33 = .ok (.if_icmp .lt 11, 3) := by decide +kernel
theorem dX8_kindAt_36 : decode cX8_kindAt 36 = .ok (.iload_n 2, 1) := by decide +kernel
theorem dX8_kindAt_37 : decode cX8_kindAt 37 = .ok (.bipush 122, 2) := by decide +kernel
theorem dX8_kindAt_39 : decode cX8_kindAt 39 = .ok (.if_icmp .gt 5, 3) := by decide +kernel
theorem dX8_kindAt_42 : decode cX8_kindAt 42 = .ok (.iconst 1, 1) := by decide +kernel
theorem dX8_kindAt_43 : decode cX8_kindAt 43 = .ok (.ireturn, 1) := by decide +kernel
theorem dX8_kindAt_44 : decode cX8_kindAt 44 = .ok (.iload_n 2, 1) := by decide +kernel
theorem dX8_kindAt_45 : decode cX8_kindAt 45 = .ok (.bipush 48, 2) := by decide +kernel
theorem dX8_kindAt_47 : decode cX8_kindAt 47 = .ok (.if_icmp .lt 11, 3) := by decide +kernel
theorem dX8_kindAt_50 : decode cX8_kindAt 50 = .ok (.iload_n 2, 1) := by decide +kernel
theorem dX8_kindAt_51 : decode cX8_kindAt 51 = .ok (.bipush 57, 2) := by decide +kernel
theorem dX8_kindAt_53 : decode cX8_kindAt 53 = .ok (.if_icmp .gt 5, 3) := by decide +kernel
theorem dX8_kindAt_56 : decode cX8_kindAt 56 = .ok (.iconst 2, 1) := by decide +kernel
theorem dX8_kindAt_57 : decode cX8_kindAt 57 = .ok (.ireturn, 1) := by decide +kernel
theorem dX8_kindAt_58 : decode cX8_kindAt 58 = .ok (.iload_n 2, 1) := by decide +kernel
theorem dX8_kindAt_59 : decode cX8_kindAt 59 = .ok (.iconst (-1), 1) := by decide +kernel
theorem dX8_kindAt_60 : decode cX8_kindAt 60 = .ok (.if_icmp .ne 7, 3) := by decide +kernel
theorem dX8_kindAt_63 : decode cX8_kindAt 63 = .ok (.iconst 0, 1) := by decide +kernel
theorem dX8_kindAt_64 : decode cX8_kindAt 64 = .ok (.goto 4, 3) := by decide +kernel
theorem dX8_kindAt_67 : decode cX8_kindAt 67 = .ok (.iconst 3, 1) := by decide +kernel
theorem dX8_kindAt_68 : decode cX8_kindAt 68 = .ok (.ireturn, 1) := by decide +kernel
theorem dX8_says_0 : decode cX8_says 0 = .ok (.aload_n 0, 1) := by decide +kernel
theorem dX8_says_1 : decode cX8_says 1 = .ok (.getfield 40, 3) := by decide +kernel
theorem dX8_says_4 : decode cX8_says 4 = .ok (.iconst 1, 1) := by decide +kernel
theorem dX8_says_5 : decode cX8_says 5 = .ok (.if_icmp .ne 19, 3) := by decide +kernel
theorem dX8_says_8 : decode cX8_says 8 = .ok (.aload_n 0, 1) := by decide +kernel
theorem dX8_says_9 : decode cX8_says 9 = .ok (.getfield 23, 3) := by decide +kernel
theorem dX8_says_12 : decode cX8_says 12 = .ok (.aload_n 0, 1) := by decide +kernel
theorem dX8_says_13 : decode cX8_says 13 = .ok (.getfield 29, 3) := by decide +kernel
theorem dX8_says_16 : decode cX8_says 16 = .ok (.isub, 1) := by decide +kernel
theorem dX8_says_17 : decode cX8_says 17 = .ok (.aload_n 1, 1) := by decide +kernel
theorem dX8_says_18 : decode cX8_says 18 = .ok (.invokevirtual 50, 3) := by decide +kernel
theorem dX8_says_21 : decode cX8_says 21 = .ok (.if_icmp .eq 5, 3) := by decide +kernel
theorem dX8_says_24 : decode cX8_says 24 = .ok (.iconst 0, 1) := by decide +kernel
theorem dX8_says_25 : decode cX8_says 25 = .ok (.ireturn, 1) := by decide +kernel
theorem dX8_says_26 : decode cX8_says 26 = .ok (.iconst 0, 1) := by decide +kernel
theorem dX8_says_27 : decode cX8_says 27 = .ok (.istore_n 2, 1) := by decide +kernel
theorem dX8_says_28 : decode cX8_says 28 = .ok (.iload_n 2, 1) := by decide +kernel
theorem dX8_says_29 : decode cX8_says 29 = .ok (.aload_n 1, 1) := by decide +kernel
theorem dX8_says_30 : decode cX8_says 30 = .ok (.invokevirtual 50, 3) := by decide +kernel
theorem dX8_says_33 : decode cX8_says 33 = .ok (.if_icmp .ge 44, 3) := by decide +kernel
theorem dX8_says_36 : decode cX8_says 36 = .ok (.aload_n 0, 1) := by decide +kernel
theorem dX8_says_37 : decode cX8_says 37 = .ok (.getfield 29, 3) := by decide +kernel
theorem dX8_says_40 : decode cX8_says 40 = .ok (.iload_n 2, 1) := by decide +kernel
theorem dX8_says_41 : decode cX8_says 41 = .ok (.iadd, 1) := by decide +kernel
theorem dX8_says_42 : decode cX8_says 42 = .ok (.sipush 400, 3) := by decide +kernel
theorem dX8_says_45 : decode cX8_says 45 = .ok (.if_icmp .ge 32, 3) := by decide +kernel
theorem dX8_says_48 : decode cX8_says 48 = .ok (.aload_n 0, 1) := by decide +kernel
theorem dX8_says_49 : decode cX8_says 49 = .ok (.getfield 9, 3) := by decide +kernel
theorem dX8_says_52 : decode cX8_says 52 = .ok (.aload_n 0, 1) := by decide +kernel
theorem dX8_says_53 : decode cX8_says 53 = .ok (.getfield 29, 3) := by decide +kernel
theorem dX8_says_56 : decode cX8_says 56 = .ok (.iload_n 2, 1) := by decide +kernel
theorem dX8_says_57 : decode cX8_says 57 = .ok (.iadd, 1) := by decide +kernel
theorem dX8_says_58 : decode cX8_says 58 = .ok (.invokestatic 32, 3) := by decide +kernel
theorem dX8_says_61 : decode cX8_says 61 = .ok (.aload_n 1, 1) := by decide +kernel
theorem dX8_says_62 : decode cX8_says 62 = .ok (.iload_n 2, 1) := by decide +kernel
theorem dX8_says_63 : decode cX8_says 63 = .ok (.invokevirtual 55, 3) := by decide +kernel
theorem dX8_says_66 : decode cX8_says 66 = .ok (.if_icmp .eq 5, 3) := by decide +kernel
theorem dX8_says_69 : decode cX8_says 69 = .ok (.iconst 0, 1) := by decide +kernel
theorem dX8_says_70 : decode cX8_says 70 = .ok (.ireturn, 1) := by decide +kernel
theorem dX8_says_71 : decode cX8_says 71 = .ok (.iinc 2 1, 3) := by decide +kernel
theorem dX8_says_74 : decode cX8_says 74 = .ok (.goto (-46), 3) := by decide +kernel
theorem dX8_says_77 : decode cX8_says 77 = .ok (.iconst 1, 1) := by decide +kernel
theorem dX8_says_78 : decode cX8_says 78 = .ok (.ireturn, 1) := by decide +kernel
theorem dX8_isSign_0 : decode cX8_isSign 0 = .ok (.aload_n 0, 1) := by decide +kernel
theorem dX8_isSign_1 : decode cX8_isSign 1 = .ok (.getfield 40, 3) := by decide +kernel
theorem dX8_isSign_4 : decode cX8_isSign 4 = .ok (.iconst 3, 1) := by decide +kernel
theorem dX8_isSign_5 : decode cX8_isSign 5 = .ok (.if_icmp .ne 15, 3) := by decide +kernel
theorem dX8_isSign_8 : decode cX8_isSign 8 = .ok (.aload_n 0, 1) := by decide +kernel
theorem dX8_isSign_9 : decode cX8_isSign 9 = .ok (.getfield 47, 3) := by decide +kernel
theorem dX8_isSign_12 : decode cX8_isSign 12 = .ok (.iload_n 1, 1) := by decide +kernel
theorem dX8_isSign_13 : decode cX8_isSign 13 = .ok (.if_icmp .ne 7, 3) := by decide +kernel
theorem dX8_isSign_16 : decode cX8_isSign 16 = .ok (.iconst 1, 1) := by decide +kernel
theorem dX8_isSign_17 : decode cX8_isSign 17 = .ok (.goto 4, 3) := by decide +kernel
theorem dX8_isSign_20 : decode cX8_isSign 20 = .ok (.iconst 0, 1) := by decide +kernel
theorem dX8_isSign_21 : decode cX8_isSign 21 = .ok (.ireturn, 1) := by decide +kernel
theorem dX8_takeSign_0 : decode cX8_takeSign 0 = .ok (.aload_n 0, 1) := by decide +kernel
theorem dX8_takeSign_1 : decode cX8_takeSign 1 = .ok (.iload_n 1, 1) := by decide +kernel
theorem dX8_takeSign_2 : decode cX8_takeSign 2 = .ok (.invokevirtual 59, 3) := by decide +kernel
theorem dX8_takeSign_5 : decode cX8_takeSign 5 = .ok (.ifCond .ne 5, 3) := by decide +kernel
theorem dX8_takeSign_8 : decode cX8_takeSign 8 = .ok (.iconst 0, 1) := by decide +kernel
theorem dX8_takeSign_9 : decode cX8_takeSign 9 = .ok (.ireturn, 1) := by decide +kernel
theorem dX8_takeSign_10 : decode cX8_takeSign 10 = .ok (.aload_n 0, 1) := by decide +kernel
theorem dX8_takeSign_11 : decode cX8_takeSign 11 = .ok (.invokevirtual 26, 3) := by decide +kernel
theorem dX8_takeSign_14 : decode cX8_takeSign 14 = .ok (.iconst 1, 1) := by decide +kernel
theorem dX8_takeSign_15 : decode cX8_takeSign 15 = .ok (.ireturn, 1) := by decide +kernel
theorem dX8_isNumber_0 : decode cX8_isNumber 0 = .ok (.aload_n 0, 1) := by decide +kernel
theorem dX8_isNumber_1 : decode cX8_isNumber 1 = .ok (.getfield 40, 3) := by decide +kernel
theorem dX8_isNumber_4 : decode cX8_isNumber 4 = .ok (.iconst 2, 1) := by decide +kernel
theorem dX8_isNumber_5 : decode cX8_isNumber 5 = .ok (.if_icmp .ne 23, 3) := by decide +kernel
theorem dX8_isNumber_8 : decode cX8_isNumber 8 = .ok (.aload_n 0, 1) := by decide +kernel
theorem dX8_isNumber_9 : decode cX8_isNumber 9 = .ok (.getfield 47, 3) := by decide +kernel
theorem dX8_isNumber_12 : decode cX8_isNumber 12 = .ok (.iload_n 1, 1) := by decide +kernel
theorem dX8_isNumber_13 : decode cX8_isNumber 13 = .ok (.if_icmp .lt 15, 3) := by decide +kernel
theorem dX8_isNumber_16 : decode cX8_isNumber 16 = .ok (.aload_n 0, 1) := by decide +kernel
theorem dX8_isNumber_17 : decode cX8_isNumber 17 = .ok (.getfield 47, 3) := by decide +kernel
theorem dX8_isNumber_20 : decode cX8_isNumber 20 = .ok (.iload_n 2, 1) := by decide +kernel
theorem dX8_isNumber_21 : decode cX8_isNumber 21 = .ok (.if_icmp .gt 7, 3) := by decide +kernel
theorem dX8_isNumber_24 : decode cX8_isNumber 24 = .ok (.iconst 1, 1) := by decide +kernel
theorem dX8_isNumber_25 : decode cX8_isNumber 25 = .ok (.goto 4, 3) := by decide +kernel
theorem dX8_isNumber_28 : decode cX8_isNumber 28 = .ok (.iconst 0, 1) := by decide +kernel
theorem dX8_isNumber_29 : decode cX8_isNumber 29 = .ok (.ireturn, 1) := by decide +kernel
theorem dX9_init_0 : decode cX9_init 0 = .ok (.aload_n 0, 1) := by decide +kernel
theorem dX9_init_1 : decode cX9_init 1 = .ok (.invokespecial 3, 3) := by decide +kernel
theorem dX9_init_4 : decode cX9_init 4 = .ok (.aload_n 0, 1) := by decide +kernel
theorem dX9_init_5 : decode cX9_init 5 = .ok (.aload_n 1, 1) := by decide +kernel
theorem dX9_init_6 : decode cX9_init 6 = .ok (.putfield 9, 3) := by decide +kernel
theorem dX9_init_9 : decode cX9_init 9 = .ok (.aload_n 0, 1) := by decide +kernel
theorem dX9_init_10 : decode cX9_init 10 = .ok (.aload_n 2, 1) := by decide +kernel
theorem dX9_init_11 : decode cX9_init 11 = .ok (.putfield 15, 3) := by decide +kernel
theorem dX9_init_14 : decode cX9_init 14 = .ok (.aload_n 0, 1) := by decide +kernel
theorem dX9_init_15 : decode cX9_init 15 = .ok (.aload_n 2, 1) := by decide +kernel
theorem dX9_init_16 : decode cX9_init 16 = .ok (.getfield 19, 3) := by decide +kernel
theorem dX9_init_19 : decode cX9_init 19 = .ok (.putfield 25, 3) := by decide +kernel
theorem dX9_init_22 : decode cX9_init 22 = .ok (.return_, 1) := by decide +kernel
theorem dX9_readAll_0 : decode cX9_readAll 0 = .ok (.aload_n 0, 1) := by decide +kernel
theorem dX9_readAll_1 : decode cX9_readAll 1 = .ok (.getfield 9, 3) := by decide +kernel
theorem dX9_readAll_4 : decode cX9_readAll 4 = .ok (.invokevirtual 26, 3) := by decide +kernel
theorem dX9_readAll_7 : decode cX9_readAll 7 = .ok (.aload_n 0, 1) := by decide +kernel
theorem dX9_readAll_8 : decode cX9_readAll 8 = .ok (.getfield 9, 3) := by decide +kernel
theorem dX9_readAll_11 : decode cX9_readAll 11 = .ok (.getfield 31, 3) := by decide +kernel
theorem dX9_readAll_14 : decode cX9_readAll 14 = .ok (.ifCond .ne 5, 3) := by decide +kernel
theorem dX9_readAll_17 : decode cX9_readAll 17 = .ok (.iconst 1, 1) := by decide +kernel
theorem dX9_readAll_18 : decode cX9_readAll 18 = .ok (.ireturn, 1) := by decide +kernel
theorem dX9_readAll_19 : decode cX9_readAll 19 = .ok (.iconst 0, 1) := by decide +kernel
theorem dX9_readAll_20 : decode cX9_readAll 20 = .ok (.istore_n 1, 1) := by decide +kernel
theorem dX9_readAll_21 : decode cX9_readAll 21 = .ok (.iload_n 1, 1) := by decide +kernel
theorem dX9_readAll_22 : decode cX9_readAll 22 = .ok (.bipush 14, 2) := by decide +kernel
theorem dX9_readAll_24 : decode cX9_readAll 24 = .ok (.if_icmp .ge 44, 3) := by decide +kernel
theorem dX9_readAll_27 : decode cX9_readAll 27 = .ok (.aload_n 0, 1) := by decide +kernel
theorem dX9_readAll_28 : decode cX9_readAll 28 = .ok (.invokevirtual 35, 3) := by decide +kernel
theorem dX9_readAll_31 : decode cX9_readAll 31 = .ok (.ifCond .ne 5, 3) := by decide +kernel
theorem dX9_readAll_34 : decode cX9_readAll 34 = .ok (.iconst 0, 1) := by decide +kernel
theorem dX9_readAll_35 : decode cX9_readAll 35 = .ok (.ireturn, 1) := by decide +kernel
theorem dX9_readAll_36 : decode cX9_readAll 36 = .ok (.aload_n 0, 1) := by decide +kernel
theorem dX9_readAll_37 : decode cX9_readAll 37 = .ok (.getfield 9, 3) := by decide +kernel
theorem dX9_readAll_40 : decode cX9_readAll 40 = .ok (.getfield 31, 3) := by decide +kernel
theorem dX9_readAll_43 : decode cX9_readAll 43 = .ok (.ifCond .ne 5, 3) := by decide +kernel
theorem dX9_readAll_46 : decode cX9_readAll 46 = .ok (.iconst 1, 1) := by decide +kernel
theorem dX9_readAll_47 : decode cX9_readAll 47 = .ok (.ireturn, 1) := by decide +kernel
theorem dX9_readAll_48 : decode cX9_readAll 48 = .ok (.aload_n 0, 1) := by decide +kernel
theorem dX9_readAll_49 : decode cX9_readAll 49 = .ok (.getfield 9, 3) := by decide +kernel
theorem dX9_readAll_52 : decode cX9_readAll 52 = .ok (.bipush 59, 2) := by decide +kernel
theorem dX9_readAll_54 : decode cX9_readAll 54 = .ok (.invokevirtual 39, 3) := by decide +kernel
theorem dX9_readAll_57 : decode cX9_readAll 57 = .ok (.ifCond .ne 5, 3) := by decide +kernel
theorem dX9_readAll_60 : decode cX9_readAll 60 = .ok (.iconst 0, 1) := by decide +kernel
theorem dX9_readAll_61 : decode cX9_readAll 61 = .ok (.ireturn, 1) := by decide +kernel
theorem dX9_readAll_62 : decode cX9_readAll 62 = .ok (.iinc 1 1, 3) := by decide +kernel
theorem dX9_readAll_65 : decode cX9_readAll 65 = .ok (.goto (-44), 3) := by decide +kernel
theorem dX9_readAll_68 : decode cX9_readAll 68 = .ok (.iconst 0, 1) := by decide +kernel
theorem dX9_readAll_69 : decode cX9_readAll 69 = .ok (.ireturn, 1) := by decide +kernel
theorem dX9_readLine_0 : decode cX9_readLine 0 = .ok (.aload_n 0, 1) := by decide +kernel
theorem dX9_readLine_1 : decode cX9_readLine 1 = .ok (.getfield 9, 3) := by decide +kernel
theorem dX9_readLine_4 : decode cX9_readLine 4 = .ok (.ldc 43, 2) := by decide +kernel
theorem dX9_readLine_6 : decode cX9_readLine 6 = .ok (.invokevirtual 45, 3) := by decide +kernel
theorem dX9_readLine_9 : decode cX9_readLine 9 = .ok (.ifCond .eq 8, 3) := by decide +kernel
theorem dX9_readLine_12 : decode cX9_readLine 12 = .ok (.aload_n 0, 1) := by decide +kernel
theorem dX9_readLine_13 : decode cX9_readLine 13 = .ok (.invokevirtual 49, 3) := by decide +kernel
theorem dX9_readLine_16 : decode cX9_readLine 16 = .ok (.ireturn, 1) := by decide +kernel
theorem dX9_readLine_17 : decode cX9_readLine 17 = .ok (.aload_n 0, 1) := by decide +kernel
theorem dX9_readLine_18 : decode cX9_readLine 18 = .ok (.getfield 9, 3) := by decide +kernel
theorem dX9_readLine_21 : decode cX9_readLine 21 = .ok (.ldc 52, 2) := by decide +kernel
theorem dX9_readLine_23 : decode cX9_readLine 23 = .ok (.invokevirtual 45, 3) := by decide +kernel
theorem dX9_readLine_26 : decode cX9_readLine 26 = .ok (.ifCond .eq 8, 3) := by decide +kernel
theorem dX9_readLine_29 : decode cX9_readLine 29 = .ok (.aload_n 0, 1) := by decide +kernel
theorem dX9_readLine_30 : decode cX9_readLine 30 = .ok (.invokevirtual 54, 3) := by decide +kernel
theorem dX9_readLine_33 : decode cX9_readLine 33 = .ok (.ireturn, 1) := by decide +kernel
theorem dX9_readLine_34 : decode cX9_readLine 34 = .ok (.aload_n 0, 1) := by decide +kernel
theorem dX9_readLine_35 : decode cX9_readLine 35 = .ok (.getfield 9, 3) := by decide +kernel
theorem dX9_readLine_38 : decode cX9_readLine 38 = .ok (.ldc 57, 2) := by decide +kernel
theorem dX9_readLine_40 : decode cX9_readLine 40 = .ok (.invokevirtual 45, 3) := by decide +kernel
theorem dX9_readLine_43 : decode cX9_readLine 43 = .ok (.ifCond .eq 8, 3) := by decide +kernel
theorem dX9_readLine_46 : decode cX9_readLine 46 = .ok (.aload_n 0, 1) := by decide +kernel
theorem dX9_readLine_47 : decode cX9_readLine 47 = .ok (.invokevirtual 59, 3) := by decide +kernel
theorem dX9_readLine_50 : decode cX9_readLine 50 = .ok (.ireturn, 1) := by decide +kernel
theorem dX9_readLine_51 : decode cX9_readLine 51 = .ok (.aload_n 0, 1) := by decide +kernel
theorem dX9_readLine_52 : decode cX9_readLine 52 = .ok (.getfield 9, 3) := by decide +kernel
theorem dX9_readLine_55 : decode cX9_readLine 55 = .ok (.ldc 62, 2) := by decide +kernel
theorem dX9_readLine_57 : decode cX9_readLine 57 = .ok (.invokevirtual 45, 3) := by decide +kernel
theorem dX9_readLine_60 : decode cX9_readLine 60 = .ok (.ifCond .eq 8, 3) := by decide +kernel
theorem dX9_readLine_63 : decode cX9_readLine 63 = .ok (.aload_n 0, 1) := by decide +kernel
theorem dX9_readLine_64 : decode cX9_readLine 64 = .ok (.invokevirtual 64, 3) := by decide +kernel
theorem dX9_readLine_67 : decode cX9_readLine 67 = .ok (.ireturn, 1) := by decide +kernel
theorem dX9_readLine_68 : decode cX9_readLine 68 = .ok (.aload_n 0, 1) := by decide +kernel
theorem dX9_readLine_69 : decode cX9_readLine 69 = .ok (.getfield 9, 3) := by decide +kernel
theorem dX9_readLine_72 : decode cX9_readLine 72 = .ok (.ldc 67, 2) := by decide +kernel
theorem dX9_readLine_74 : decode cX9_readLine 74 = .ok (.invokevirtual 45, 3) := by decide +kernel
theorem dX9_readLine_77 : decode cX9_readLine 77 = .ok (.ifCond .eq 8, 3) := by decide +kernel
theorem dX9_readLine_80 : decode cX9_readLine 80 = .ok (.aload_n 0, 1) := by decide +kernel
theorem dX9_readLine_81 : decode cX9_readLine 81 = .ok (.invokevirtual 69, 3) := by decide +kernel
theorem dX9_readLine_84 : decode cX9_readLine 84 = .ok (.ireturn, 1) := by decide +kernel
theorem dX9_readLine_85 : decode cX9_readLine 85 = .ok (.aload_n 0, 1) := by decide +kernel
theorem dX9_readLine_86 : decode cX9_readLine 86 = .ok (.getfield 9, 3) := by decide +kernel
theorem dX9_readLine_89 : decode cX9_readLine 89 = .ok (.ldc 72, 2) := by decide +kernel
theorem dX9_readLine_91 : decode cX9_readLine 91 = .ok (.invokevirtual 45, 3) := by decide +kernel
theorem dX9_readLine_94 : decode cX9_readLine 94 = .ok (.ifCond .eq 8, 3) := by decide +kernel
theorem dX9_readLine_97 : decode cX9_readLine 97 = .ok (.aload_n 0, 1) := by decide +kernel
theorem dX9_readLine_98 : decode cX9_readLine 98 = .ok (.invokevirtual 74, 3) := by decide +kernel
theorem dX9_readLine_101 : decode cX9_readLine 101 = .ok (.ireturn, 1) := by decide +kernel
theorem dX9_readLine_102 : decode cX9_readLine 102 = .ok (.aload_n 0, 1) := by decide +kernel
theorem dX9_readLine_103 : decode cX9_readLine 103 = .ok (.getfield 9, 3) := by decide +kernel
theorem dX9_readLine_106 : decode cX9_readLine 106 = .ok (.ldc 77, 2) := by decide +kernel
theorem dX9_readLine_108 : decode cX9_readLine 108 = .ok (.invokevirtual 45, 3) := by decide +kernel
theorem dX9_readLine_111 : decode cX9_readLine 111 = .ok (.ifCond .eq 14, 3) := by decide +kernel
theorem dX9_readLine_114 : decode cX9_readLine 114 = .ok (.aload_n 0, 1) := by decide +kernel
theorem dX9_readLine_115 : decode cX9_readLine 115 = .ok (.invokevirtual 79, 3) := by decide +kernel
theorem dX9_readLine_118 : decode cX9_readLine 118 = .ok (.ifCond .eq 7, 3) := by decide +kernel
theorem dX9_readLine_121 : decode cX9_readLine 121 = .ok (.iconst 1, 1) := by decide +kernel
theorem dX9_readLine_122 : decode cX9_readLine 122 = .ok (.goto 4, 3) := by decide +kernel
theorem dX9_readLine_125 : decode cX9_readLine 125 = .ok (.iconst 0, 1) := by decide +kernel
theorem dX9_readLine_126 : decode cX9_readLine 126 = .ok (.ireturn, 1) := by decide +kernel
theorem dX9_memoryLine_0 : decode cX9_memoryLine 0 = .ok (.aload_n 0, 1) := by decide +kernel
theorem dX9_memoryLine_1 : decode cX9_memoryLine 1 = .ok (.getfield 25, 3) := by decide +kernel
theorem dX9_memoryLine_4 : decode cX9_memoryLine 4 = .ok (.getfield 82, 3) := by decide +kernel
theorem dX9_memoryLine_7 : decode cX9_memoryLine 7 = .ok (.bipush 16, 2) := by decide +kernel
theorem dX9_memoryLine_9 : decode cX9_memoryLine 9 = .ok (.if_icmp .lt 5, 3) := by decide +kernel
theorem dX9_memoryLine_12 : decode cX9_memoryLine 12 = .ok (.iconst 0, 1) := by decide +kernel
theorem dX9_memoryLine_13 : decode cX9_memoryLine 13 = .ok (.ireturn, 1) := by decide +kernel
theorem dX9_memoryLine_14 : decode cX9_memoryLine 14 = .ok (.aload_n 0, 1) := by decide +kernel
theorem dX9_memoryLine_15 : decode cX9_memoryLine 15 = .ok (.getfield 9, 3) := by decide +kernel
theorem dX9_memoryLine_18 : decode cX9_memoryLine 18 = .ok (.invokevirtual 87, 3) := by decide +kernel
theorem dX9_memoryLine_21 : decode cX9_memoryLine 21 = .ok (.aload_n 0, 1) := by decide +kernel
theorem dX9_memoryLine_22 : decode cX9_memoryLine 22 = .ok (.getfield 9, 3) := by decide +kernel
theorem dX9_memoryLine_25 : decode cX9_memoryLine 25 = .ok (.iconst 1, 1) := by decide +kernel
theorem dX9_memoryLine_26 : decode cX9_memoryLine 26 = .ok (.bipush 99, 2) := by decide +kernel
theorem dX9_memoryLine_28 : decode cX9_memoryLine 28 = .ok (.invokevirtual 90, 3) := by decide +kernel
theorem dX9_memoryLine_31 : decode cX9_memoryLine 31 = .ok (.ifCond .ne 5, 3) := by decide +kernel
theorem dX9_memoryLine_34 : decode cX9_memoryLine 34 = .ok (.iconst 0, 1) := by decide +kernel
theorem dX9_memoryLine_35 : decode cX9_memoryLine 35 = .ok (.ireturn, 1) := by decide +kernel
theorem dX9_memoryLine_36 : decode cX9_memoryLine 36 = .ok (.aload_n 0, 1) := by decide +kernel
theorem dX9_memoryLine_37 : decode cX9_memoryLine 37 = .ok (.getfield 9, 3) := by decide +kernel
theorem dX9_memoryLine_40 : decode cX9_memoryLine 40 = .ok (.getfield 94, 3) := by decide +kernel
theorem dX9_memoryLine_43 : decode cX9_memoryLine 43 = .ok (.istore_n 1, 1) := by decide +kernel
theorem dX9_memoryLine_44 : decode cX9_memoryLine 44 = .ok (.iconst 0, 1) := by decide +kernel
theorem dX9_memoryLine_45 : decode cX9_memoryLine 45 = .ok (.istore_n 2, 1) := by decide +kernel
theorem dX9_memoryLine_46 : decode cX9_memoryLine 46 = .ok (.aload_n 0, 1) := by decide +kernel
theorem dX9_memoryLine_47 : decode cX9_memoryLine 47 = .ok (.getfield 9, 3) := by decide +kernel
theorem dX9_memoryLine_50 : decode cX9_memoryLine 50 = .ok (.invokevirtual 87, 3) := by decide +kernel
theorem dX9_memoryLine_53 : decode cX9_memoryLine 53 = .ok (.aload_n 0, 1) := by decide +kernel
theorem dX9_memoryLine_54 : decode cX9_memoryLine 54 = .ok (.getfield 9, 3) := by decide +kernel
theorem dX9_memoryLine_57 : decode cX9_memoryLine 57 = .ok (.ldc 97, 2) := by decide +kernel
theorem dX9_memoryLine_59 : decode cX9_memoryLine 59 = .ok (.invokevirtual 45, 3) := by decide +kernel
theorem dX9_memoryLine_62 : decode cX9_memoryLine 62 = .ok (.ifCond .eq 24, 3) := by decide +kernel
theorem dX9_memoryLine_65 : decode cX9_memoryLine 65 = .ok (.aload_n 0, 1) := by decide +kernel
theorem dX9_memoryLine_66 : decode cX9_memoryLine 66 = .ok (.getfield 9, 3) := by decide +kernel
theorem dX9_memoryLine_69 : decode cX9_memoryLine 69 = .ok (.invokevirtual 87, 3) := by decide +kernel
theorem dX9_memoryLine_72 : decode cX9_memoryLine 72 = .ok (.aload_n 0, 1) := by decide +kernel
theorem dX9_memoryLine_73 : decode cX9_memoryLine 73 = .ok (.invokevirtual 99, 3) := by decide +kernel
theorem dX9_memoryLine_76 : decode cX9_memoryLine 76 = .ok (.ifCond .ne 5, 3) := by decide +kernel
theorem dX9_memoryLine_79 : decode cX9_memoryLine 79 = .ok (.iconst 0, 1) := by decide +kernel
theorem dX9_memoryLine_80 : decode cX9_memoryLine 80 = .ok (.ireturn, 1) := by decide +kernel
theorem dX9_memoryLine_81 : decode cX9_memoryLine 81 = .ok (.aload_n 0, 1) := by decide +kernel
theorem dX9_memoryLine_82 : decode cX9_memoryLine 82 = .ok (.getfield 102, 3) := by decide +kernel
theorem dX9_memoryLine_85 : decode cX9_memoryLine 85 = .ok (.istore_n 2, 1) := by decide +kernel
theorem dX9_memoryLine_86 : decode cX9_memoryLine 86 = .ok (.aload_n 0, 1) := by decide +kernel
theorem dX9_memoryLine_87 : decode cX9_memoryLine 87 = .ok (.getfield 25, 3) := by decide +kernel
theorem dX9_memoryLine_90 : decode cX9_memoryLine 90 = .ok (.iload_n 1, 1) := by decide +kernel
theorem dX9_memoryLine_91 : decode cX9_memoryLine 91 = .ok (.iload_n 2, 1) := by decide +kernel
theorem dX9_memoryLine_92 : decode cX9_memoryLine 92 = .ok (.invokevirtual 105, 3) := by decide +kernel
theorem dX9_memoryLine_95 : decode cX9_memoryLine 95 = .ok (.iconst 1, 1) := by decide +kernel
theorem dX9_memoryLine_96 : decode cX9_memoryLine 96 = .ok (.ireturn, 1) := by decide +kernel
theorem dX9_soldierLine_0 : decode cX9_soldierLine 0 = .ok (.aload_n 0, 1) := by decide +kernel
theorem dX9_soldierLine_1 : decode cX9_soldierLine 1 = .ok (.getfield 25, 3) := by decide +kernel
theorem dX9_soldierLine_4 : decode cX9_soldierLine 4 = .ok (.getfield 109, 3) := by decide +kernel
theorem dX9_soldierLine_7 : decode cX9_soldierLine 7 = .ok (.istore_n 1, 1) := by decide +kernel
theorem dX9_soldierLine_8 : decode cX9_soldierLine 8 = .ok (.iload_n 1, 1) := by decide +kernel
theorem dX9_soldierLine_9 : decode cX9_soldierLine 9 = .ok (.bipush 10, 2) := by decide +kernel
theorem dX9_soldierLine_11 : decode cX9_soldierLine 11 = .ok (.if_icmp .lt 5, 3) := by decide +kernel
theorem dX9_soldierLine_14 : decode cX9_soldierLine 14 = .ok (.iconst 0, 1) := by decide +kernel
theorem dX9_soldierLine_15 : decode cX9_soldierLine 15 = .ok (.ireturn, 1) := by decide +kernel
theorem dX9_soldierLine_16 : decode cX9_soldierLine 16 = .ok (.aload_n 0, 1) := by decide +kernel
theorem dX9_soldierLine_17 : decode cX9_soldierLine 17 = .ok (.getfield 9, 3) := by decide +kernel
theorem dX9_soldierLine_20 : decode cX9_soldierLine 20 = .ok (.invokevirtual 87, 3) := by decide +kernel
theorem dX9_soldierLine_23 : decode cX9_soldierLine 23 = .ok (.aload_n 0, 1) := by decide +kernel
theorem dX9_soldierLine_24 : decode cX9_soldierLine 24 = .ok (.getfield 9, 3) := by decide +kernel
theorem dX9_soldierLine_27 : decode cX9_soldierLine 27 = .ok (.iconst 0, 1) := by decide +kernel
theorem dX9_soldierLine_28 : decode cX9_soldierLine 28 = .ok (.iconst 1, 1) := by decide +kernel
theorem dX9_soldierLine_29 : decode cX9_soldierLine 29 = .ok (.invokevirtual 90, 3) := by decide +kernel
theorem dX9_soldierLine_32 : decode cX9_soldierLine 32 = .ok (.ifCond .ne 5, 3) := by decide +kernel
theorem dX9_soldierLine_35 : decode cX9_soldierLine 35 = .ok (.iconst 0, 1) := by decide +kernel
theorem dX9_soldierLine_36 : decode cX9_soldierLine 36 = .ok (.ireturn, 1) := by decide +kernel
theorem dX9_soldierLine_37 : decode cX9_soldierLine 37 = .ok (.aload_n 0, 1) := by decide +kernel
theorem dX9_soldierLine_38 : decode cX9_soldierLine 38 = .ok (.getfield 25, 3) := by decide +kernel
theorem dX9_soldierLine_41 : decode cX9_soldierLine 41 = .ok (.getfield 112, 3) := by decide +kernel
theorem dX9_soldierLine_44 : decode cX9_soldierLine 44 = .ok (.iload_n 1, 1) := by decide +kernel
theorem dX9_soldierLine_45 : decode cX9_soldierLine 45 = .ok (.aload_n 0, 1) := by decide +kernel
theorem dX9_soldierLine_46 : decode cX9_soldierLine 46 = .ok (.getfield 9, 3) := by decide +kernel
theorem dX9_soldierLine_49 : decode cX9_soldierLine 49 = .ok (.getfield 94, 3) := by decide +kernel
theorem dX9_soldierLine_52 : decode cX9_soldierLine 52 = .ok (.invokestatic 116, 3) := by decide +kernel
theorem dX9_soldierLine_55 : decode cX9_soldierLine 55 = .ok (.aload_n 0, 1) := by decide +kernel
theorem dX9_soldierLine_56 : decode cX9_soldierLine 56 = .ok (.getfield 9, 3) := by decide +kernel
theorem dX9_soldierLine_59 : decode cX9_soldierLine 59 = .ok (.invokevirtual 87, 3) := by decide +kernel
theorem dX9_soldierLine_62 : decode cX9_soldierLine 62 = .ok (.iconst 0, 1) := by decide +kernel
theorem dX9_soldierLine_63 : decode cX9_soldierLine 63 = .ok (.istore_n 2, 1) := by decide +kernel
theorem dX9_soldierLine_64 : decode cX9_soldierLine 64 = .ok (.iload_n 2, 1) := by decide +kernel
theorem dX9_soldierLine_65 : decode cX9_soldierLine 65 = .ok (.bipush 6, 2) := by decide +kernel
theorem dX9_soldierLine_67 : decode cX9_soldierLine 67 = .ok (.if_icmp .gt 71, 3) := by decide +kernel
theorem dX9_soldierLine_70 : decode cX9_soldierLine 70 = .ok (.aload_n 0, 1) := by decide +kernel
theorem dX9_soldierLine_71 : decode cX9_soldierLine 71 = .ok (.getfield 9, 3) := by decide +kernel
theorem dX9_soldierLine_74 : decode cX9_soldierLine 74 = .ok (.getfield 31, 3) := by decide +kernel
theorem dX9_soldierLine_77 : decode cX9_soldierLine 77 = .ok (.iconst 2, 1) := by decide +kernel
theorem dX9_soldierLine_78 : decode cX9_soldierLine 78 = .ok (.if_icmp .ne 60, 3) := by decide +kernel
theorem dX9_soldierLine_81 : decode cX9_soldierLine 81 = .ok (.iload_n 2, 1) := by decide +kernel
theorem dX9_soldierLine_82 : decode cX9_soldierLine 82 = .ok (.bipush 6, 2) := by decide +kernel
theorem dX9_soldierLine_84 : decode cX9_soldierLine 84 = .ok (.if_icmp .eq 16, 3) := by decide +kernel
theorem dX9_soldierLine_87 : decode cX9_soldierLine 87 = .ok (.aload_n 0, 1) := by decide +kernel
theorem dX9_soldierLine_88 : decode cX9_soldierLine 88 = .ok (.getfield 9, 3) := by decide +kernel
theorem dX9_soldierLine_91 : decode cX9_soldierLine 91 = .ok (.iconst 0, 1) := by decide +kernel
theorem dX9_soldierLine_92 : decode cX9_soldierLine 92 = .ok (.bipush 7, 2) := by decide +kernel
theorem dX9_soldierLine_94 : decode cX9_soldierLine 94 = .ok (.invokevirtual 90, 3) := by decide +kernel
theorem dX9_soldierLine_97 : decode cX9_soldierLine 97 = .ok (.ifCond .ne 5, 3) := by decide +kernel
theorem dX9_soldierLine_100 : decode cX9_soldierLine 100 = .ok (.iconst 0, 1) := by decide +kernel
theorem dX9_soldierLine_101 : decode cX9_soldierLine 101 = .ok (.ireturn, 1) := by decide +kernel
theorem dX9_soldierLine_102 : decode cX9_soldierLine 102 = .ok (.aload_n 0, 1) := by decide +kernel
theorem dX9_soldierLine_103 : decode cX9_soldierLine 103 = .ok (.getfield 25, 3) := by decide +kernel
theorem dX9_soldierLine_106 : decode cX9_soldierLine 106 = .ok (.getfield 120, 3) := by decide +kernel
theorem dX9_soldierLine_109 : decode cX9_soldierLine 109 = .ok (.iload_n 1, 1) := by decide +kernel
theorem dX9_soldierLine_110 : decode cX9_soldierLine 110 = .ok (.bipush 6, 2) := by decide +kernel
theorem dX9_soldierLine_112 : decode cX9_soldierLine 112 = .ok (.imul, 1) := by decide +kernel
theorem dX9_soldierLine_113 : decode cX9_soldierLine 113 = .ok (.iload_n 2, 1) := by decide +kernel
theorem dX9_soldierLine_114 : decode cX9_soldierLine 114 = .ok (.iadd, 1) := by decide +kernel
theorem dX9_soldierLine_115 : decode cX9_soldierLine 115 = .ok (.aload_n 0, 1) := by decide +kernel
theorem dX9_soldierLine_116 : decode cX9_soldierLine 116 = .ok (.getfield 9, 3) := by decide +kernel
theorem dX9_soldierLine_119 : decode cX9_soldierLine 119 = .ok (.getfield 94, 3) := by decide +kernel
theorem dX9_soldierLine_122 : decode cX9_soldierLine 122 = .ok (.invokestatic 116, 3) := by decide +kernel
theorem dX9_soldierLine_125 : decode cX9_soldierLine 125 = .ok (.iinc 2 1, 3) := by decide +kernel
theorem dX9_soldierLine_128 : decode cX9_soldierLine 128 = .ok (.aload_n 0, 1) := by decide +kernel
theorem dX9_soldierLine_129 : decode cX9_soldierLine 129 = .ok (.getfield 9, 3) := by decide +kernel
theorem dX9_soldierLine_132 : decode cX9_soldierLine 132 = .ok (.invokevirtual 87, 3) := by decide +kernel
theorem dX9_soldierLine_135 : decode cX9_soldierLine 135 = .ok (.goto (-71), 3) := by decide +kernel
theorem dX9_soldierLine_138 : decode cX9_soldierLine 138 = .ok (.iload_n 2, 1) := by decide +kernel
theorem dX9_soldierLine_139 : decode cX9_soldierLine 139 = .ok (.ifCond .ne 5, 3) := by decide +kernel
theorem dX9_soldierLine_142 : decode cX9_soldierLine 142 = .ok (.iconst 0, 1) := by decide +kernel
theorem dX9_soldierLine_143 : decode cX9_soldierLine 143 = .ok (.ireturn, 1) := by decide +kernel
theorem dX9_soldierLine_144 : decode cX9_soldierLine 144 = .ok (.aload_n 0, 1) := by decide +kernel
theorem dX9_soldierLine_145 : decode cX9_soldierLine 145 = .ok (.getfield 25, 3) := by decide +kernel
theorem dX9_soldierLine_148 : decode cX9_soldierLine 148 = .ok (.getfield 123, 3) := by decide +kernel
theorem dX9_soldierLine_151 : decode cX9_soldierLine 151 = .ok (.iload_n 1, 1) := by decide +kernel
theorem dX9_soldierLine_152 : decode cX9_soldierLine 152 = .ok (.iload_n 2, 1) := by decide +kernel
theorem dX9_soldierLine_153 : decode cX9_soldierLine 153 = .ok (.invokestatic 116, 3) := by decide +kernel
theorem dX9_soldierLine_156 : decode cX9_soldierLine 156 = .ok (.aload_n 0, 1) := by decide +kernel
theorem dX9_soldierLine_157 : decode cX9_soldierLine 157 = .ok (.getfield 25, 3) := by decide +kernel
theorem dX9_soldierLine_160 : decode cX9_soldierLine 160 = .ok (.getfield 126, 3) := by decide +kernel
theorem dX9_soldierLine_163 : decode cX9_soldierLine 163 = .ok (.iload_n 1, 1) := by decide +kernel
theorem dX9_soldierLine_164 : decode cX9_soldierLine 164 = .ok (.iconst 0, 1) := by decide +kernel
theorem dX9_soldierLine_165 : decode cX9_soldierLine 165 = .ok (.invokestatic 116, 3) := by decide +kernel
theorem dX9_soldierLine_168 : decode cX9_soldierLine 168 = .ok (.aload_n 0, 1) := by decide +kernel
theorem dX9_soldierLine_169 : decode cX9_soldierLine 169 = .ok (.getfield 25, 3) := by decide +kernel
theorem dX9_soldierLine_172 : decode cX9_soldierLine 172 = .ok (.dup, 1) := by decide +kernel
theorem dX9_soldierLine_173 : decode cX9_soldierLine 173 = .ok (.getfield 109, 3) := by decide +kernel
theorem dX9_soldierLine_176 : decode cX9_soldierLine 176 = .ok (.iconst 1, 1) := by decide +kernel
theorem dX9_soldierLine_177 : decode cX9_soldierLine 177 = .ok (.iadd, 1) := by decide +kernel
theorem dX9_soldierLine_178 : decode cX9_soldierLine 178 = .ok (.putfield 109, 3) := by decide +kernel
theorem dX9_soldierLine_181 : decode cX9_soldierLine 181 = .ok (.aload_n 0, 1) := by decide +kernel
theorem dX9_soldierLine_182 : decode cX9_soldierLine 182 = .ok (.getfield 15, 3) := by decide +kernel
theorem dX9_soldierLine_185 : decode cX9_soldierLine 185 = .ok (.iload_n 1, 1) := by decide +kernel
theorem dX9_soldierLine_186 : decode cX9_soldierLine 186 = .ok (.invokevirtual 128, 3) := by decide +kernel
theorem dX9_soldierLine_189 : decode cX9_soldierLine 189 = .ok (.iconst 1, 1) := by decide +kernel
theorem dX9_soldierLine_190 : decode cX9_soldierLine 190 = .ok (.ireturn, 1) := by decide +kernel
theorem dX9_knowsLine_0 : decode cX9_knowsLine 0 = .ok (.aload_n 0, 1) := by decide +kernel
theorem dX9_knowsLine_1 : decode cX9_knowsLine 1 = .ok (.getfield 9, 3) := by decide +kernel
theorem dX9_knowsLine_4 : decode cX9_knowsLine 4 = .ok (.invokevirtual 87, 3) := by decide +kernel
theorem dX9_knowsLine_7 : decode cX9_knowsLine 7 = .ok (.aload_n 0, 1) := by decide +kernel
theorem dX9_knowsLine_8 : decode cX9_knowsLine 8 = .ok (.invokevirtual 132, 3) := by decide +kernel
theorem dX9_knowsLine_11 : decode cX9_knowsLine 11 = .ok (.ifCond .ne 5, 3) := by decide +kernel
theorem dX9_knowsLine_14 : decode cX9_knowsLine 14 = .ok (.iconst 0, 1) := by decide +kernel
theorem dX9_knowsLine_15 : decode cX9_knowsLine 15 = .ok (.ireturn, 1) := by decide +kernel
theorem dX9_knowsLine_16 : decode cX9_knowsLine 16 = .ok (.aload_n 0, 1) := by decide +kernel
theorem dX9_knowsLine_17 : decode cX9_knowsLine 17 = .ok (.getfield 9, 3) := by decide +kernel
theorem dX9_knowsLine_20 : decode cX9_knowsLine 20 = .ok (.getfield 94, 3) := by decide +kernel
theorem dX9_knowsLine_23 : decode cX9_knowsLine 23 = .ok (.istore_n 1, 1) := by decide +kernel
theorem dX9_knowsLine_24 : decode cX9_knowsLine 24 = .ok (.aload_n 0, 1) := by decide +kernel
theorem dX9_knowsLine_25 : decode cX9_knowsLine 25 = .ok (.getfield 9, 3) := by decide +kernel
theorem dX9_knowsLine_28 : decode cX9_knowsLine 28 = .ok (.invokevirtual 87, 3) := by decide +kernel
theorem dX9_knowsLine_31 : decode cX9_knowsLine 31 = .ok (.iconst 0, 1) := by decide +kernel
theorem dX9_knowsLine_32 : decode cX9_knowsLine 32 = .ok (.istore_n 2, 1) := by decide +kernel
theorem dX9_knowsLine_33 : decode cX9_knowsLine 33 = .ok (.iload_n 2, 1) := by decide +kernel
theorem dX9_knowsLine_34 : decode cX9_knowsLine 34 = .ok (.bipush 12, 2) := by decide +kernel
theorem dX9_knowsLine_36 : decode cX9_knowsLine 36 = .ok (.if_icmp .gt 69, 3) := by decide +kernel
theorem dX9_knowsLine_39 : decode cX9_knowsLine 39 = .ok (.aload_n 0, 1) := by decide +kernel
theorem dX9_knowsLine_40 : decode cX9_knowsLine 40 = .ok (.getfield 9, 3) := by decide +kernel
theorem dX9_knowsLine_43 : decode cX9_knowsLine 43 = .ok (.getfield 31, 3) := by decide +kernel
theorem dX9_knowsLine_46 : decode cX9_knowsLine 46 = .ok (.iconst 2, 1) := by decide +kernel
theorem dX9_knowsLine_47 : decode cX9_knowsLine 47 = .ok (.if_icmp .ne 58, 3) := by decide +kernel
theorem dX9_knowsLine_50 : decode cX9_knowsLine 50 = .ok (.aload_n 0, 1) := by decide +kernel
theorem dX9_knowsLine_51 : decode cX9_knowsLine 51 = .ok (.invokevirtual 135, 3) := by decide +kernel
theorem dX9_knowsLine_54 : decode cX9_knowsLine 54 = .ok (.ifCond .eq 21, 3) := by decide +kernel
theorem dX9_knowsLine_57 : decode cX9_knowsLine 57 = .ok (.aload_n 0, 1) := by decide +kernel
theorem dX9_knowsLine_58 : decode cX9_knowsLine 58 = .ok (.getfield 15, 3) := by decide +kernel
theorem dX9_knowsLine_61 : decode cX9_knowsLine 61 = .ok (.iload_n 1, 1) := by decide +kernel
theorem dX9_knowsLine_62 : decode cX9_knowsLine 62 = .ok (.aload_n 0, 1) := by decide +kernel
theorem dX9_knowsLine_63 : decode cX9_knowsLine 63 = .ok (.getfield 9, 3) := by decide +kernel
theorem dX9_knowsLine_66 : decode cX9_knowsLine 66 = .ok (.getfield 94, 3) := by decide +kernel
theorem dX9_knowsLine_69 : decode cX9_knowsLine 69 = .ok (.invokevirtual 138, 3) := by decide +kernel
theorem dX9_knowsLine_72 : decode cX9_knowsLine 72 = .ok (.ifCond .ne 5, 3) := by decide +kernel
theorem dX9_knowsLine_75 : decode cX9_knowsLine 75 = .ok (.iconst 0, 1) := by decide +kernel
theorem dX9_knowsLine_76 : decode cX9_knowsLine 76 = .ok (.ireturn, 1) := by decide +kernel
theorem dX9_knowsLine_77 : decode cX9_knowsLine 77 = .ok (.aload_n 0, 1) := by decide +kernel
theorem dX9_knowsLine_78 : decode cX9_knowsLine 78 = .ok (.getfield 15, 3) := by decide +kernel
theorem dX9_knowsLine_81 : decode cX9_knowsLine 81 = .ok (.iload_n 1, 1) := by decide +kernel
theorem dX9_knowsLine_82 : decode cX9_knowsLine 82 = .ok (.aload_n 0, 1) := by decide +kernel
theorem dX9_knowsLine_83 : decode cX9_knowsLine 83 = .ok (.getfield 9, 3) := by decide +kernel
theorem dX9_knowsLine_86 : decode cX9_knowsLine 86 = .ok (.getfield 94, 3) := by decide +kernel
theorem dX9_knowsLine_89 : decode cX9_knowsLine 89 = .ok (.invokevirtual 141, 3) := by decide +kernel
theorem dX9_knowsLine_92 : decode cX9_knowsLine 92 = .ok (.aload_n 0, 1) := by decide +kernel
theorem dX9_knowsLine_93 : decode cX9_knowsLine 93 = .ok (.getfield 9, 3) := by decide +kernel
theorem dX9_knowsLine_96 : decode cX9_knowsLine 96 = .ok (.invokevirtual 87, 3) := by decide +kernel
theorem dX9_knowsLine_99 : decode cX9_knowsLine 99 = .ok (.iinc 2 1, 3) := by decide +kernel
theorem dX9_knowsLine_102 : decode cX9_knowsLine 102 = .ok (.goto (-69), 3) := by decide +kernel
theorem dX9_knowsLine_105 : decode cX9_knowsLine 105 = .ok (.iload_n 2, 1) := by decide +kernel
theorem dX9_knowsLine_106 : decode cX9_knowsLine 106 = .ok (.ifCond .le 7, 3) := by decide +kernel
theorem dX9_knowsLine_109 : decode cX9_knowsLine 109 = .ok (.iconst 1, 1) := by decide +kernel
theorem dX9_knowsLine_110 : decode cX9_knowsLine 110 = .ok (.goto 4, 3) := by decide +kernel
theorem dX9_knowsLine_113 : decode cX9_knowsLine 113 = .ok (.iconst 0, 1) := by decide +kernel
theorem dX9_knowsLine_114 : decode cX9_knowsLine 114 = .ok (.ireturn, 1) := by decide +kernel
theorem dX9_bookLine_0 : decode cX9_bookLine 0 = .ok (.aload_n 0, 1) := by decide +kernel
theorem dX9_bookLine_1 : decode cX9_bookLine 1 = .ok (.getfield 9, 3) := by decide +kernel
theorem dX9_bookLine_4 : decode cX9_bookLine 4 = .ok (.invokevirtual 87, 3) := by decide +kernel
theorem dX9_bookLine_7 : decode cX9_bookLine 7 = .ok (.aload_n 0, 1) := by decide +kernel
theorem dX9_bookLine_8 : decode cX9_bookLine 8 = .ok (.invokevirtual 132, 3) := by decide +kernel
theorem dX9_bookLine_11 : decode cX9_bookLine 11 = .ok (.ifCond .ne 5, 3) := by decide +kernel
theorem dX9_bookLine_14 : decode cX9_bookLine 14 = .ok (.iconst 0, 1) := by decide +kernel
theorem dX9_bookLine_15 : decode cX9_bookLine 15 = .ok (.ireturn, 1) := by decide +kernel
theorem dX9_bookLine_16 : decode cX9_bookLine 16 = .ok (.aload_n 0, 1) := by decide +kernel
theorem dX9_bookLine_17 : decode cX9_bookLine 17 = .ok (.getfield 9, 3) := by decide +kernel
theorem dX9_bookLine_20 : decode cX9_bookLine 20 = .ok (.getfield 94, 3) := by decide +kernel
theorem dX9_bookLine_23 : decode cX9_bookLine 23 = .ok (.istore_n 1, 1) := by decide +kernel
theorem dX9_bookLine_24 : decode cX9_bookLine 24 = .ok (.aload_n 0, 1) := by decide +kernel
theorem dX9_bookLine_25 : decode cX9_bookLine 25 = .ok (.getfield 9, 3) := by decide +kernel
theorem dX9_bookLine_28 : decode cX9_bookLine 28 = .ok (.invokevirtual 87, 3) := by decide +kernel
theorem dX9_bookLine_31 : decode cX9_bookLine 31 = .ok (.aload_n 0, 1) := by decide +kernel
theorem dX9_bookLine_32 : decode cX9_bookLine 32 = .ok (.invokevirtual 99, 3) := by decide +kernel
theorem dX9_bookLine_35 : decode cX9_bookLine 35 = .ok (.ifCond .ne 5, 3) := by decide +kernel
theorem dX9_bookLine_38 : decode cX9_bookLine 38 = .ok (.iconst 0, 1) := by decide +kernel
theorem dX9_bookLine_39 : decode cX9_bookLine 39 = .ok (.ireturn, 1) := by decide +kernel
theorem dX9_bookLine_40 : decode cX9_bookLine 40 = .ok (.aload_n 0, 1) := by decide +kernel
theorem dX9_bookLine_41 : decode cX9_bookLine 41 = .ok (.getfield 25, 3) := by decide +kernel
theorem dX9_bookLine_44 : decode cX9_bookLine 44 = .ok (.getfield 126, 3) := by decide +kernel
theorem dX9_bookLine_47 : decode cX9_bookLine 47 = .ok (.iload_n 1, 1) := by decide +kernel
theorem dX9_bookLine_48 : decode cX9_bookLine 48 = .ok (.aload_n 0, 1) := by decide +kernel
theorem dX9_bookLine_49 : decode cX9_bookLine 49 = .ok (.getfield 25, 3) := by decide +kernel
theorem dX9_bookLine_52 : decode cX9_bookLine 52 = .ok (.getfield 126, 3) := by decide +kernel
theorem dX9_bookLine_55 : decode cX9_bookLine 55 = .ok (.iload_n 1, 1) := by decide +kernel
theorem dX9_bookLine_56 : decode cX9_bookLine 56 = .ok (.invokestatic 144, 3) := by decide +kernel
theorem dX9_bookLine_59 : decode cX9_bookLine 59 = .ok (.aload_n 0, 1) := by decide +kernel
theorem dX9_bookLine_60 : decode cX9_bookLine 60 = .ok (.getfield 102, 3) := by decide +kernel
theorem dX9_bookLine_63 : decode cX9_bookLine 63 = .ok (.ior, 1) := by decide +kernel
theorem dX9_bookLine_64 : decode cX9_bookLine 64 = .ok (.invokestatic 116, 3) := by decide +kernel
theorem dX9_bookLine_67 : decode cX9_bookLine 67 = .ok (.iconst 1, 1) := by decide +kernel
theorem dX9_bookLine_68 : decode cX9_bookLine 68 = .ok (.ireturn, 1) := by decide +kernel
theorem dX9_orderLine_0 : decode cX9_orderLine 0 = .ok (.aload_n 0, 1) := by decide +kernel
theorem dX9_orderLine_1 : decode cX9_orderLine 1 = .ok (.getfield 25, 3) := by decide +kernel
theorem dX9_orderLine_4 : decode cX9_orderLine 4 = .ok (.getfield 148, 3) := by decide +kernel
theorem dX9_orderLine_7 : decode cX9_orderLine 7 = .ok (.bipush 10, 2) := by decide +kernel
theorem dX9_orderLine_9 : decode cX9_orderLine 9 = .ok (.if_icmp .lt 5, 3) := by decide +kernel
theorem dX9_orderLine_12 : decode cX9_orderLine 12 = .ok (.iconst 0, 1) := by decide +kernel
theorem dX9_orderLine_13 : decode cX9_orderLine 13 = .ok (.ireturn, 1) := by decide +kernel
theorem dX9_orderLine_14 : decode cX9_orderLine 14 = .ok (.aload_n 0, 1) := by decide +kernel
theorem dX9_orderLine_15 : decode cX9_orderLine 15 = .ok (.getfield 9, 3) := by decide +kernel
theorem dX9_orderLine_18 : decode cX9_orderLine 18 = .ok (.invokevirtual 87, 3) := by decide +kernel
theorem dX9_orderLine_21 : decode cX9_orderLine 21 = .ok (.aload_n 0, 1) := by decide +kernel
theorem dX9_orderLine_22 : decode cX9_orderLine 22 = .ok (.invokevirtual 132, 3) := by decide +kernel
theorem dX9_orderLine_25 : decode cX9_orderLine 25 = .ok (.ifCond .ne 5, 3) := by decide +kernel
theorem dX9_orderLine_28 : decode cX9_orderLine 28 = .ok (.iconst 0, 1) := by decide +kernel
theorem dX9_orderLine_29 : decode cX9_orderLine 29 = .ok (.ireturn, 1) := by decide +kernel
theorem dX9_orderLine_30 : decode cX9_orderLine 30 = .ok (.aload_n 0, 1) := by decide +kernel
theorem dX9_orderLine_31 : decode cX9_orderLine 31 = .ok (.getfield 9, 3) := by decide +kernel
theorem dX9_orderLine_34 : decode cX9_orderLine 34 = .ok (.getfield 94, 3) := by decide +kernel
theorem dX9_orderLine_37 : decode cX9_orderLine 37 = .ok (.istore_n 1, 1) := by decide +kernel
theorem dX9_orderLine_38 : decode cX9_orderLine 38 = .ok (.aload_n 0, 1) := by decide +kernel
theorem dX9_orderLine_39 : decode cX9_orderLine 39 = .ok (.getfield 9, 3) := by decide +kernel
theorem dX9_orderLine_42 : decode cX9_orderLine 42 = .ok (.invokevirtual 87, 3) := by decide +kernel
theorem dX9_orderLine_45 : decode cX9_orderLine 45 = .ok (.aload_n 0, 1) := by decide +kernel
theorem dX9_orderLine_46 : decode cX9_orderLine 46 = .ok (.invokevirtual 99, 3) := by decide +kernel
theorem dX9_orderLine_49 : decode cX9_orderLine 49 = .ok (.ifCond .ne 5, 3) := by decide +kernel
theorem dX9_orderLine_52 : decode cX9_orderLine 52 = .ok (.iconst 0, 1) := by decide +kernel
theorem dX9_orderLine_53 : decode cX9_orderLine 53 = .ok (.ireturn, 1) := by decide +kernel
theorem dX9_orderLine_54 : decode cX9_orderLine 54 = .ok (.aload_n 0, 1) := by decide +kernel
theorem dX9_orderLine_55 : decode cX9_orderLine 55 = .ok (.getfield 25, 3) := by decide +kernel
theorem dX9_orderLine_58 : decode cX9_orderLine 58 = .ok (.iload_n 1, 1) := by decide +kernel
theorem dX9_orderLine_59 : decode cX9_orderLine 59 = .ok (.aload_n 0, 1) := by decide +kernel
theorem dX9_orderLine_60 : decode cX9_orderLine 60 = .ok (.getfield 102, 3) := by decide +kernel
theorem dX9_orderLine_63 : decode cX9_orderLine 63 = .ok (.invokevirtual 151, 3) := by decide +kernel
theorem dX9_orderLine_66 : decode cX9_orderLine 66 = .ok (.iconst 1, 1) := by decide +kernel
theorem dX9_orderLine_67 : decode cX9_orderLine 67 = .ok (.ireturn, 1) := by decide +kernel
theorem dX9_planLine_0 : decode cX9_planLine 0 = .ok (.aload_n 0, 1) := by decide +kernel
theorem dX9_planLine_1 : decode cX9_planLine 1 = .ok (.getfield 9, 3) := by decide +kernel
theorem dX9_planLine_4 : decode cX9_planLine 4 = .ok (.invokevirtual 87, 3) := by decide +kernel
theorem dX9_planLine_7 : decode cX9_planLine 7 = .ok (.aload_n 0, 1) := by decide +kernel
theorem dX9_planLine_8 : decode cX9_planLine 8 = .ok (.getfield 9, 3) := by decide +kernel
theorem dX9_planLine_11 : decode cX9_planLine 11 = .ok (.iconst 0, 1) := by decide +kernel
theorem dX9_planLine_12 : decode cX9_planLine 12 = .ok (.iconst 1, 1) := by decide +kernel
theorem dX9_planLine_13 : decode cX9_planLine 13 = .ok (.invokevirtual 90, 3) := by decide +kernel
theorem dX9_planLine_16 : decode cX9_planLine 16 = .ok (.ifCond .ne 5, 3) := by decide +kernel
theorem dX9_planLine_19 : decode cX9_planLine 19 = .ok (.iconst 0, 1) := by decide +kernel
theorem dX9_planLine_20 : decode cX9_planLine 20 = .ok (.ireturn, 1) := by decide +kernel
theorem dX9_planLine_21 : decode cX9_planLine 21 = .ok (.aload_n 0, 1) := by decide +kernel
theorem dX9_planLine_22 : decode cX9_planLine 22 = .ok (.getfield 9, 3) := by decide +kernel
theorem dX9_planLine_25 : decode cX9_planLine 25 = .ok (.getfield 94, 3) := by decide +kernel
theorem dX9_planLine_28 : decode cX9_planLine 28 = .ok (.istore_n 1, 1) := by decide +kernel
theorem dX9_planLine_29 : decode cX9_planLine 29 = .ok (.aload_n 0, 1) := by decide +kernel
theorem dX9_planLine_30 : decode cX9_planLine 30 = .ok (.getfield 9, 3) := by decide +kernel
theorem dX9_planLine_33 : decode cX9_planLine 33 = .ok (.invokevirtual 87, 3) := by decide +kernel
theorem dX9_planLine_36 : decode cX9_planLine 36 = .ok (.aload_n 0, 1) := by decide +kernel
theorem dX9_planLine_37 : decode cX9_planLine 37 = .ok (.invokevirtual 99, 3) := by decide +kernel
theorem dX9_planLine_40 : decode cX9_planLine 40 = .ok (.ifCond .ne 5, 3) := by decide +kernel
theorem dX9_planLine_43 : decode cX9_planLine 43 = .ok (.iconst 0, 1) := by decide +kernel
theorem dX9_planLine_44 : decode cX9_planLine 44 = .ok (.ireturn, 1) := by decide +kernel
theorem dX9_planLine_45 : decode cX9_planLine 45 = .ok (.aload_n 0, 1) := by decide +kernel
theorem dX9_planLine_46 : decode cX9_planLine 46 = .ok (.getfield 25, 3) := by decide +kernel
theorem dX9_planLine_49 : decode cX9_planLine 49 = .ok (.getfield 154, 3) := by decide +kernel
theorem dX9_planLine_52 : decode cX9_planLine 52 = .ok (.iload_n 1, 1) := by decide +kernel
theorem dX9_planLine_53 : decode cX9_planLine 53 = .ok (.aload_n 0, 1) := by decide +kernel
theorem dX9_planLine_54 : decode cX9_planLine 54 = .ok (.getfield 25, 3) := by decide +kernel
theorem dX9_planLine_57 : decode cX9_planLine 57 = .ok (.getfield 154, 3) := by decide +kernel
theorem dX9_planLine_60 : decode cX9_planLine 60 = .ok (.iload_n 1, 1) := by decide +kernel
theorem dX9_planLine_61 : decode cX9_planLine 61 = .ok (.invokestatic 144, 3) := by decide +kernel
theorem dX9_planLine_64 : decode cX9_planLine 64 = .ok (.aload_n 0, 1) := by decide +kernel
theorem dX9_planLine_65 : decode cX9_planLine 65 = .ok (.getfield 102, 3) := by decide +kernel
theorem dX9_planLine_68 : decode cX9_planLine 68 = .ok (.ior, 1) := by decide +kernel
theorem dX9_planLine_69 : decode cX9_planLine 69 = .ok (.invokestatic 116, 3) := by decide +kernel
theorem dX9_planLine_72 : decode cX9_planLine 72 = .ok (.iconst 1, 1) := by decide +kernel
theorem dX9_planLine_73 : decode cX9_planLine 73 = .ok (.ireturn, 1) := by decide +kernel
theorem dX9_clashLine_0 : decode cX9_clashLine 0 = .ok (.aload_n 0, 1) := by decide +kernel
theorem dX9_clashLine_1 : decode cX9_clashLine 1 = .ok (.getfield 9, 3) := by decide +kernel
theorem dX9_clashLine_4 : decode cX9_clashLine 4 = .ok (.invokevirtual 87, 3) := by decide +kernel
theorem dX9_clashLine_7 : decode cX9_clashLine 7 = .ok (.aload_n 0, 1) := by decide +kernel
theorem dX9_clashLine_8 : decode cX9_clashLine 8 = .ok (.invokevirtual 135, 3) := by decide +kernel
theorem dX9_clashLine_11 : decode cX9_clashLine 11 = .ok (.ifCond .ne 5, 3) := by decide +kernel
theorem dX9_clashLine_14 : decode cX9_clashLine 14 = .ok (.iconst 0, 1) := by decide +kernel
theorem dX9_clashLine_15 : decode cX9_clashLine 15 = .ok (.ireturn, 1) := by decide +kernel
theorem dX9_clashLine_16 : decode cX9_clashLine 16 = .ok (.aload_n 0, 1) := by decide +kernel
theorem dX9_clashLine_17 : decode cX9_clashLine 17 = .ok (.getfield 9, 3) := by decide +kernel
theorem dX9_clashLine_20 : decode cX9_clashLine 20 = .ok (.getfield 94, 3) := by decide +kernel
theorem dX9_clashLine_23 : decode cX9_clashLine 23 = .ok (.istore_n 1, 1) := by decide +kernel
theorem dX9_clashLine_24 : decode cX9_clashLine 24 = .ok (.aload_n 0, 1) := by decide +kernel
theorem dX9_clashLine_25 : decode cX9_clashLine 25 = .ok (.getfield 9, 3) := by decide +kernel
theorem dX9_clashLine_28 : decode cX9_clashLine 28 = .ok (.invokevirtual 87, 3) := by decide +kernel
theorem dX9_clashLine_31 : decode cX9_clashLine 31 = .ok (.aload_n 0, 1) := by decide +kernel
theorem dX9_clashLine_32 : decode cX9_clashLine 32 = .ok (.invokevirtual 135, 3) := by decide +kernel
theorem dX9_clashLine_35 : decode cX9_clashLine 35 = .ok (.ifCond .eq 14, 3) := by decide +kernel
theorem dX9_clashLine_38 : decode cX9_clashLine 38 = .ok (.aload_n 0, 1) := by decide +kernel
theorem dX9_clashLine_39 : decode cX9_clashLine 39 = .ok (.getfield 9, 3) := by decide +kernel
theorem dX9_clashLine_42 : decode cX9_clashLine 42 = .ok (.getfield 94, 3) := by decide +kernel
theorem dX9_clashLine_45 : decode cX9_clashLine 45 = .ok (.iload_n 1, 1) := by decide +kernel
theorem dX9_clashLine_46 : decode cX9_clashLine 46 = .ok (.if_icmp .ne 5, 3) := by decide +kernel
theorem dX9_clashLine_49 : decode cX9_clashLine 49 = .ok (.iconst 0, 1) := by decide +kernel
theorem dX9_clashLine_50 : decode cX9_clashLine 50 = .ok (.ireturn, 1) := by decide +kernel
theorem dX9_clashLine_51 : decode cX9_clashLine 51 = .ok (.aload_n 0, 1) := by decide +kernel
theorem dX9_clashLine_52 : decode cX9_clashLine 52 = .ok (.getfield 9, 3) := by decide +kernel
theorem dX9_clashLine_55 : decode cX9_clashLine 55 = .ok (.getfield 94, 3) := by decide +kernel
theorem dX9_clashLine_58 : decode cX9_clashLine 58 = .ok (.istore_n 2, 1) := by decide +kernel
theorem dX9_clashLine_59 : decode cX9_clashLine 59 = .ok (.aload_n 0, 1) := by decide +kernel
theorem dX9_clashLine_60 : decode cX9_clashLine 60 = .ok (.getfield 25, 3) := by decide +kernel
theorem dX9_clashLine_63 : decode cX9_clashLine 63 = .ok (.getfield 156, 3) := by decide +kernel
theorem dX9_clashLine_66 : decode cX9_clashLine 66 = .ok (.iload_n 1, 1) := by decide +kernel
theorem dX9_clashLine_67 : decode cX9_clashLine 67 = .ok (.aload_n 0, 1) := by decide +kernel
theorem dX9_clashLine_68 : decode cX9_clashLine 68 = .ok (.getfield 25, 3) := by decide +kernel
theorem dX9_clashLine_71 : decode cX9_clashLine 71 = .ok (.getfield 156, 3) := by decide +kernel
theorem dX9_clashLine_74 : decode cX9_clashLine 74 = .ok (.iload_n 1, 1) := by decide +kernel
theorem dX9_clashLine_75 : decode cX9_clashLine 75 = .ok (.invokestatic 144, 3) := by decide +kernel
theorem dX9_clashLine_78 : decode cX9_clashLine 78 = .ok (.iconst 1, 1) := by decide +kernel
theorem dX9_clashLine_79 : decode cX9_clashLine 79 = .ok (.iload_n 2, 1) := by decide +kernel
theorem dX9_clashLine_80 : decode cX9_clashLine 80 = .ok (.ishl, 1) := by decide +kernel
theorem dX9_clashLine_81 : decode cX9_clashLine 81 = .ok (.ior, 1) := by decide +kernel
theorem dX9_clashLine_82 : decode cX9_clashLine 82 = .ok (.invokestatic 116, 3) := by decide +kernel
theorem dX9_clashLine_85 : decode cX9_clashLine 85 = .ok (.aload_n 0, 1) := by decide +kernel
theorem dX9_clashLine_86 : decode cX9_clashLine 86 = .ok (.getfield 25, 3) := by decide +kernel
theorem dX9_clashLine_89 : decode cX9_clashLine 89 = .ok (.getfield 156, 3) := by decide +kernel
theorem dX9_clashLine_92 : decode cX9_clashLine 92 = .ok (.iload_n 2, 1) := by decide +kernel
theorem dX9_clashLine_93 : decode cX9_clashLine 93 = .ok (.aload_n 0, 1) := by decide +kernel
theorem dX9_clashLine_94 : decode cX9_clashLine 94 = .ok (.getfield 25, 3) := by decide +kernel
theorem dX9_clashLine_97 : decode cX9_clashLine 97 = .ok (.getfield 156, 3) := by decide +kernel
theorem dX9_clashLine_100 : decode cX9_clashLine 100 = .ok (.iload_n 2, 1) := by decide +kernel
theorem dX9_clashLine_101 : decode cX9_clashLine 101 = .ok (.invokestatic 144, 3) := by decide +kernel
theorem dX9_clashLine_104 : decode cX9_clashLine 104 = .ok (.iconst 1, 1) := by decide +kernel
theorem dX9_clashLine_105 : decode cX9_clashLine 105 = .ok (.iload_n 1, 1) := by decide +kernel
theorem dX9_clashLine_106 : decode cX9_clashLine 106 = .ok (.ishl, 1) := by decide +kernel
theorem dX9_clashLine_107 : decode cX9_clashLine 107 = .ok (.ior, 1) := by decide +kernel
theorem dX9_clashLine_108 : decode cX9_clashLine 108 = .ok (.invokestatic 116, 3) := by decide +kernel
theorem dX9_clashLine_111 : decode cX9_clashLine 111 = .ok (.aload_n 0, 1) := by decide +kernel
theorem dX9_clashLine_112 : decode cX9_clashLine 112 = .ok (.getfield 9, 3) := by decide +kernel
theorem dX9_clashLine_115 : decode cX9_clashLine 115 = .ok (.invokevirtual 87, 3) := by decide +kernel
theorem dX9_clashLine_118 : decode cX9_clashLine 118 = .ok (.iconst 1, 1) := by decide +kernel
theorem dX9_clashLine_119 : decode cX9_clashLine 119 = .ok (.ireturn, 1) := by decide +kernel
theorem dX9_isMemory_0 : decode cX9_isMemory 0 = .ok (.aload_n 0, 1) := by decide +kernel
theorem dX9_isMemory_1 : decode cX9_isMemory 1 = .ok (.getfield 9, 3) := by decide +kernel
theorem dX9_isMemory_4 : decode cX9_isMemory 4 = .ok (.iconst 0, 1) := by decide +kernel
theorem dX9_isMemory_5 : decode cX9_isMemory 5 = .ok (.aload_n 0, 1) := by decide +kernel
theorem dX9_isMemory_6 : decode cX9_isMemory 6 = .ok (.getfield 25, 3) := by decide +kernel
theorem dX9_isMemory_9 : decode cX9_isMemory 9 = .ok (.getfield 82, 3) := by decide +kernel
theorem dX9_isMemory_12 : decode cX9_isMemory 12 = .ok (.iconst 1, 1) := by decide +kernel
theorem dX9_isMemory_13 : decode cX9_isMemory 13 = .ok (.isub, 1) := by decide +kernel
theorem dX9_isMemory_14 : decode cX9_isMemory 14 = .ok (.invokevirtual 90, 3) := by decide +kernel
theorem dX9_isMemory_17 : decode cX9_isMemory 17 = .ok (.ireturn, 1) := by decide +kernel
theorem dX9_isSoldier_0 : decode cX9_isSoldier 0 = .ok (.aload_n 0, 1) := by decide +kernel
theorem dX9_isSoldier_1 : decode cX9_isSoldier 1 = .ok (.getfield 9, 3) := by decide +kernel
theorem dX9_isSoldier_4 : decode cX9_isSoldier 4 = .ok (.iconst 0, 1) := by decide +kernel
theorem dX9_isSoldier_5 : decode cX9_isSoldier 5 = .ok (.aload_n 0, 1) := by decide +kernel
theorem dX9_isSoldier_6 : decode cX9_isSoldier 6 = .ok (.getfield 25, 3) := by decide +kernel
theorem dX9_isSoldier_9 : decode cX9_isSoldier 9 = .ok (.getfield 109, 3) := by decide +kernel
theorem dX9_isSoldier_12 : decode cX9_isSoldier 12 = .ok (.iconst 1, 1) := by decide +kernel
theorem dX9_isSoldier_13 : decode cX9_isSoldier 13 = .ok (.isub, 1) := by decide +kernel
theorem dX9_isSoldier_14 : decode cX9_isSoldier 14 = .ok (.invokevirtual 90, 3) := by decide +kernel
theorem dX9_isSoldier_17 : decode cX9_isSoldier 17 = .ok (.ireturn, 1) := by decide +kernel
theorem dX9_readSet_0 : decode cX9_readSet 0 = .ok (.aload_n 0, 1) := by decide +kernel
theorem dX9_readSet_1 : decode cX9_readSet 1 = .ok (.iconst 0, 1) := by decide +kernel
theorem dX9_readSet_2 : decode cX9_readSet 2 = .ok (.putfield 102, 3) := by decide +kernel
theorem dX9_readSet_5 : decode cX9_readSet 5 = .ok (.iconst 0, 1) := by decide +kernel
theorem dX9_readSet_6 : decode cX9_readSet 6 = .ok (.istore_n 1, 1) := by decide +kernel
theorem dX9_readSet_7 : decode cX9_readSet 7 = .ok (.iload_n 1, 1) := by decide +kernel
theorem dX9_readSet_8 : decode cX9_readSet 8 = .ok (.sipush 400, 3) := by decide +kernel
theorem dX9_readSet_11 : decode cX9_readSet 11 = .ok (.if_icmp .ge 54, 3) := by decide +kernel
theorem dX9_readSet_14 : decode cX9_readSet 14 = .ok (.aload_n 0, 1) := by decide +kernel
theorem dX9_readSet_15 : decode cX9_readSet 15 = .ok (.getfield 9, 3) := by decide +kernel
theorem dX9_readSet_18 : decode cX9_readSet 18 = .ok (.getfield 31, 3) := by decide +kernel
theorem dX9_readSet_21 : decode cX9_readSet 21 = .ok (.iconst 2, 1) := by decide +kernel
theorem dX9_readSet_22 : decode cX9_readSet 22 = .ok (.if_icmp .ne 43, 3) := by decide +kernel
theorem dX9_readSet_25 : decode cX9_readSet 25 = .ok (.aload_n 0, 1) := by decide +kernel
theorem dX9_readSet_26 : decode cX9_readSet 26 = .ok (.invokevirtual 135, 3) := by decide +kernel
theorem dX9_readSet_29 : decode cX9_readSet 29 = .ok (.ifCond .ne 5, 3) := by decide +kernel
theorem dX9_readSet_32 : decode cX9_readSet 32 = .ok (.iconst 0, 1) := by decide +kernel
theorem dX9_readSet_33 : decode cX9_readSet 33 = .ok (.ireturn, 1) := by decide +kernel
theorem dX9_readSet_34 : decode cX9_readSet 34 = .ok (.aload_n 0, 1) := by decide +kernel
theorem dX9_readSet_35 : decode cX9_readSet 35 = .ok (.dup, 1) := by decide +kernel
theorem dX9_readSet_36 : decode cX9_readSet 36 = .ok (.getfield 102, 3) := by decide +kernel
theorem dX9_readSet_39 : decode cX9_readSet 39 = .ok (.iconst 1, 1) := by decide +kernel
theorem dX9_readSet_40 : decode cX9_readSet 40 = .ok (.aload_n 0, 1) := by decide +kernel
theorem dX9_readSet_41 : decode cX9_readSet 41 = .ok (.getfield 9, 3) := by decide +kernel
theorem dX9_readSet_44 : decode cX9_readSet 44 = .ok (.getfield 94, 3) := by decide +kernel
theorem dX9_readSet_47 : decode cX9_readSet 47 = .ok (.ishl, 1) := by decide +kernel
theorem dX9_readSet_48 : decode cX9_readSet 48 = .ok (.ior, 1) := by decide +kernel
theorem dX9_readSet_49 : decode cX9_readSet 49 = .ok (.putfield 102, 3) := by decide +kernel
theorem dX9_readSet_52 : decode cX9_readSet 52 = .ok (.aload_n 0, 1) := by decide +kernel
theorem dX9_readSet_53 : decode cX9_readSet 53 = .ok (.getfield 9, 3) := by decide +kernel
theorem dX9_readSet_56 : decode cX9_readSet 56 = .ok (.invokevirtual 87, 3) := by decide +kernel
theorem dX9_readSet_59 : decode cX9_readSet 59 = .ok (.iinc 1 1, 3) := by decide +kernel
theorem dX9_readSet_62 : decode cX9_readSet 62 = .ok (.goto (-55), 3) := by decide +kernel
theorem dX9_readSet_65 : decode cX9_readSet 65 = .ok (.iload_n 1, 1) := by decide +kernel
theorem dX9_readSet_66 : decode cX9_readSet 66 = .ok (.ifCond .le 7, 3) := by decide +kernel
theorem dX9_readSet_69 : decode cX9_readSet 69 = .ok (.iconst 1, 1) := by decide +kernel
theorem dX9_readSet_70 : decode cX9_readSet 70 = .ok (.goto 4, 3) := by decide +kernel
theorem dX9_readSet_73 : decode cX9_readSet 73 = .ok (.iconst 0, 1) := by decide +kernel
theorem dX9_readSet_74 : decode cX9_readSet 74 = .ok (.ireturn, 1) := by decide +kernel
theorem dX10_init_0 : decode cX10_init 0 = .ok (.aload_n 0, 1) := by decide +kernel
theorem dX10_init_1 : decode cX10_init 1 = .ok (.invokespecial 3, 3) := by decide +kernel
theorem dX10_init_4 : decode cX10_init 4 = .ok (.aload_n 0, 1) := by decide +kernel
theorem dX10_init_5 : decode cX10_init 5 = .ok (.aload_n 1, 1) := by decide +kernel
theorem dX10_init_6 : decode cX10_init 6 = .ok (.putfield 9, 3) := by decide +kernel
theorem dX10_init_9 : decode cX10_init 9 = .ok (.aload_n 0, 1) := by decide +kernel
theorem dX10_init_10 : decode cX10_init 10 = .ok (.aload_n 2, 1) := by decide +kernel
theorem dX10_init_11 : decode cX10_init 11 = .ok (.putfield 15, 3) := by decide +kernel
theorem dX10_init_14 : decode cX10_init 14 = .ok (.aload_n 0, 1) := by decide +kernel
theorem dX10_init_15 : decode cX10_init 15 = .ok (.new 19, 3) := by decide +kernel
theorem dX10_init_18 : decode cX10_init 18 = .ok (.dup, 1) := by decide +kernel
theorem dX10_init_19 : decode cX10_init 19 = .ok (.invokespecial 21, 3) := by decide +kernel
theorem dX10_init_22 : decode cX10_init 22 = .ok (.putfield 22, 3) := by decide +kernel
theorem dX10_init_25 : decode cX10_init 25 = .ok (.return_, 1) := by decide +kernel
theorem dX10_copyFrom_0 : decode cX10_copyFrom 0 = .ok (.aload_n 0, 1) := by decide +kernel
theorem dX10_copyFrom_1 : decode cX10_copyFrom 1 = .ok (.getfield 9, 3) := by decide +kernel
theorem dX10_copyFrom_4 : decode cX10_copyFrom 4 = .ok (.aload_n 1, 1) := by decide +kernel
theorem dX10_copyFrom_5 : decode cX10_copyFrom 5 = .ok (.getfield 9, 3) := by decide +kernel
theorem dX10_copyFrom_8 : decode cX10_copyFrom 8 = .ok (.invokevirtual 26, 3) := by decide +kernel
theorem dX10_copyFrom_11 : decode cX10_copyFrom 11 = .ok (.aload_n 0, 1) := by decide +kernel
theorem dX10_copyFrom_12 : decode cX10_copyFrom 12 = .ok (.getfield 15, 3) := by decide +kernel
theorem dX10_copyFrom_15 : decode cX10_copyFrom 15 = .ok (.aload_n 1, 1) := by decide +kernel
theorem dX10_copyFrom_16 : decode cX10_copyFrom 16 = .ok (.getfield 15, 3) := by decide +kernel
theorem dX10_copyFrom_19 : decode cX10_copyFrom 19 = .ok (.invokevirtual 32, 3) := by decide +kernel
theorem dX10_copyFrom_22 : decode cX10_copyFrom 22 = .ok (.aload_n 0, 1) := by decide +kernel
theorem dX10_copyFrom_23 : decode cX10_copyFrom 23 = .ok (.getfield 22, 3) := by decide +kernel
theorem dX10_copyFrom_26 : decode cX10_copyFrom 26 = .ok (.aload_n 1, 1) := by decide +kernel
theorem dX10_copyFrom_27 : decode cX10_copyFrom 27 = .ok (.getfield 22, 3) := by decide +kernel
theorem dX10_copyFrom_30 : decode cX10_copyFrom 30 = .ok (.invokevirtual 37, 3) := by decide +kernel
theorem dX10_copyFrom_33 : decode cX10_copyFrom 33 = .ok (.return_, 1) := by decide +kernel
theorem dX10_enter_0 : decode cX10_enter 0 = .ok (.aload_n 0, 1) := by decide +kernel
theorem dX10_enter_1 : decode cX10_enter 1 = .ok (.getfield 22, 3) := by decide +kernel
theorem dX10_enter_4 : decode cX10_enter 4 = .ok (.getfield 40, 3) := by decide +kernel
theorem dX10_enter_7 : decode cX10_enter 7 = .ok (.iload_n 1, 1) := by decide +kernel
theorem dX10_enter_8 : decode cX10_enter 8 = .ok (.iconst 0, 1) := by decide +kernel
theorem dX10_enter_9 : decode cX10_enter 9 = .ok (.invokestatic 44, 3) := by decide +kernel
theorem dX10_enter_12 : decode cX10_enter 12 = .ok (.aload_n 0, 1) := by decide +kernel
theorem dX10_enter_13 : decode cX10_enter 13 = .ok (.getfield 22, 3) := by decide +kernel
theorem dX10_enter_16 : decode cX10_enter 16 = .ok (.getfield 48, 3) := by decide +kernel
theorem dX10_enter_19 : decode cX10_enter 19 = .ok (.iload_n 1, 1) := by decide +kernel
theorem dX10_enter_20 : decode cX10_enter 20 = .ok (.aload_n 0, 1) := by decide +kernel
theorem dX10_enter_21 : decode cX10_enter 21 = .ok (.getfield 9, 3) := by decide +kernel
theorem dX10_enter_24 : decode cX10_enter 24 = .ok (.getfield 51, 3) := by decide +kernel
theorem dX10_enter_27 : decode cX10_enter 27 = .ok (.iload_n 1, 1) := by decide +kernel
theorem dX10_enter_28 : decode cX10_enter 28 = .ok (.bipush 6, 2) := by decide +kernel
theorem dX10_enter_30 : decode cX10_enter 30 = .ok (.imul, 1) := by decide +kernel
theorem dX10_enter_31 : decode cX10_enter 31 = .ok (.invokestatic 54, 3) := by decide +kernel
theorem dX10_enter_34 : decode cX10_enter 34 = .ok (.invokestatic 44, 3) := by decide +kernel
theorem dX10_enter_37 : decode cX10_enter 37 = .ok (.aload_n 0, 1) := by decide +kernel
theorem dX10_enter_38 : decode cX10_enter 38 = .ok (.getfield 22, 3) := by decide +kernel
theorem dX10_enter_41 : decode cX10_enter 41 = .ok (.getfield 58, 3) := by decide +kernel
theorem dX10_enter_44 : decode cX10_enter 44 = .ok (.iload_n 1, 1) := by decide +kernel
theorem dX10_enter_45 : decode cX10_enter 45 = .ok (.iconst 0, 1) := by decide +kernel
theorem dX10_enter_46 : decode cX10_enter 46 = .ok (.invokestatic 44, 3) := by decide +kernel
theorem dX10_enter_49 : decode cX10_enter 49 = .ok (.aload_n 0, 1) := by decide +kernel
theorem dX10_enter_50 : decode cX10_enter 50 = .ok (.getfield 22, 3) := by decide +kernel
theorem dX10_enter_53 : decode cX10_enter 53 = .ok (.getfield 61, 3) := by decide +kernel
theorem dX10_enter_56 : decode cX10_enter 56 = .ok (.iload_n 1, 1) := by decide +kernel
theorem dX10_enter_57 : decode cX10_enter 57 = .ok (.iconst 0, 1) := by decide +kernel
theorem dX10_enter_58 : decode cX10_enter 58 = .ok (.invokestatic 44, 3) := by decide +kernel
theorem dX10_enter_61 : decode cX10_enter 61 = .ok (.aload_n 0, 1) := by decide +kernel
theorem dX10_enter_62 : decode cX10_enter 62 = .ok (.getfield 22, 3) := by decide +kernel
theorem dX10_enter_65 : decode cX10_enter 65 = .ok (.getfield 64, 3) := by decide +kernel
theorem dX10_enter_68 : decode cX10_enter 68 = .ok (.iload_n 1, 1) := by decide +kernel
theorem dX10_enter_69 : decode cX10_enter 69 = .ok (.iconst 0, 1) := by decide +kernel
theorem dX10_enter_70 : decode cX10_enter 70 = .ok (.invokestatic 44, 3) := by decide +kernel
theorem dX10_enter_73 : decode cX10_enter 73 = .ok (.return_, 1) := by decide +kernel
theorem dX10_isNewTo_0 : decode cX10_isNewTo 0 = .ok (.aload_n 0, 1) := by decide +kernel
theorem dX10_isNewTo_1 : decode cX10_isNewTo 1 = .ok (.getfield 22, 3) := by decide +kernel
theorem dX10_isNewTo_4 : decode cX10_isNewTo 4 = .ok (.getfield 61, 3) := by decide +kernel
theorem dX10_isNewTo_7 : decode cX10_isNewTo 7 = .ok (.iload_n 1, 1) := by decide +kernel
theorem dX10_isNewTo_8 : decode cX10_isNewTo 8 = .ok (.invokestatic 54, 3) := by decide +kernel
theorem dX10_isNewTo_11 : decode cX10_isNewTo 11 = .ok (.iload_n 2, 1) := by decide +kernel
theorem dX10_isNewTo_12 : decode cX10_isNewTo 12 = .ok (.invokestatic 67, 3) := by decide +kernel
theorem dX10_isNewTo_15 : decode cX10_isNewTo 15 = .ok (.ifCond .ne 23, 3) := by decide +kernel
theorem dX10_isNewTo_18 : decode cX10_isNewTo 18 = .ok (.aload_n 0, 1) := by decide +kernel
theorem dX10_isNewTo_19 : decode cX10_isNewTo 19 = .ok (.getfield 22, 3) := by decide +kernel
theorem dX10_isNewTo_22 : decode cX10_isNewTo 22 = .ok (.getfield 58, 3) := by decide +kernel
theorem dX10_isNewTo_25 : decode cX10_isNewTo 25 = .ok (.iload_n 1, 1) := by decide +kernel
theorem dX10_isNewTo_26 : decode cX10_isNewTo 26 = .ok (.invokestatic 54, 3) := by decide +kernel
theorem dX10_isNewTo_29 : decode cX10_isNewTo 29 = .ok (.bipush 12, 2) := by decide +kernel
theorem dX10_isNewTo_31 : decode cX10_isNewTo 31 = .ok (.if_icmp .ge 7, 3) := by decide +kernel
theorem dX10_isNewTo_34 : decode cX10_isNewTo 34 = .ok (.iconst 1, 1) := by decide +kernel
theorem dX10_isNewTo_35 : decode cX10_isNewTo 35 = .ok (.goto 4, 3) := by decide +kernel
theorem dX10_isNewTo_38 : decode cX10_isNewTo 38 = .ok (.iconst 0, 1) := by decide +kernel
theorem dX10_isNewTo_39 : decode cX10_isNewTo 39 = .ok (.ireturn, 1) := by decide +kernel
theorem dX10_addKnown_0 : decode cX10_addKnown 0 = .ok (.aload_n 0, 1) := by decide +kernel
theorem dX10_addKnown_1 : decode cX10_addKnown 1 = .ok (.getfield 22, 3) := by decide +kernel
theorem dX10_addKnown_4 : decode cX10_addKnown 4 = .ok (.iload_n 1, 1) := by decide +kernel
theorem dX10_addKnown_5 : decode cX10_addKnown 5 = .ok (.iload_n 2, 1) := by decide +kernel
theorem dX10_addKnown_6 : decode cX10_addKnown 6 = .ok (.invokevirtual 71, 3) := by decide +kernel
theorem dX10_addKnown_9 : decode cX10_addKnown 9 = .ok (.aload_n 0, 1) := by decide +kernel
theorem dX10_addKnown_10 : decode cX10_addKnown 10 = .ok (.getfield 22, 3) := by decide +kernel
theorem dX10_addKnown_13 : decode cX10_addKnown 13 = .ok (.getfield 64, 3) := by decide +kernel
theorem dX10_addKnown_16 : decode cX10_addKnown 16 = .ok (.iload_n 1, 1) := by decide +kernel
theorem dX10_addKnown_17 : decode cX10_addKnown 17 = .ok (.aload_n 0, 1) := by decide +kernel
theorem dX10_addKnown_18 : decode cX10_addKnown 18 = .ok (.getfield 9, 3) := by decide +kernel
theorem dX10_addKnown_21 : decode cX10_addKnown 21 = .ok (.aload_n 0, 1) := by decide +kernel
theorem dX10_addKnown_22 : decode cX10_addKnown 22 = .ok (.getfield 22, 3) := by decide +kernel
theorem dX10_addKnown_25 : decode cX10_addKnown 25 = .ok (.getfield 61, 3) := by decide +kernel
theorem dX10_addKnown_28 : decode cX10_addKnown 28 = .ok (.iload_n 1, 1) := by decide +kernel
theorem dX10_addKnown_29 : decode cX10_addKnown 29 = .ok (.invokestatic 54, 3) := by decide +kernel
theorem dX10_addKnown_32 : decode cX10_addKnown 32 = .ok (.invokevirtual 75, 3) := by decide +kernel
theorem dX10_addKnown_35 : decode cX10_addKnown 35 = .ok (.invokestatic 44, 3) := by decide +kernel
theorem dX10_addKnown_38 : decode cX10_addKnown 38 = .ok (.return_, 1) := by decide +kernel
theorem dX10_placeIn_0 : decode cX10_placeIn 0 = .ok (.aload_n 0, 1) := by decide +kernel
theorem dX10_placeIn_1 : decode cX10_placeIn 1 = .ok (.getfield 9, 3) := by decide +kernel
theorem dX10_placeIn_4 : decode cX10_placeIn 4 = .ok (.getfield 79, 3) := by decide +kernel
theorem dX10_placeIn_7 : decode cX10_placeIn 7 = .ok (.iload_n 1, 1) := by decide +kernel
theorem dX10_placeIn_8 : decode cX10_placeIn 8 = .ok (.invokestatic 54, 3) := by decide +kernel
theorem dX10_placeIn_11 : decode cX10_placeIn 11 = .ok (.istore_n 3, 1) := by decide +kernel
theorem dX10_placeIn_12 : decode cX10_placeIn 12 = .ok (.iload_n 3, 1) := by decide +kernel
theorem dX10_placeIn_13 : decode cX10_placeIn 13 = .ok (.iconst 1, 1) := by decide +kernel
theorem dX10_placeIn_14 : decode cX10_placeIn 14 = .ok (.if_icmp .ge 5, 3) := by decide +kernel
theorem dX10_placeIn_17 : decode cX10_placeIn 17 = .ok (.iconst (-1), 1) := by decide +kernel
theorem dX10_placeIn_18 : decode cX10_placeIn 18 = .ok (.ireturn, 1) := by decide +kernel
theorem dX10_placeIn_19 : decode cX10_placeIn 19 = .ok (.aload_n 0, 1) := by decide +kernel
theorem dX10_placeIn_20 : decode cX10_placeIn 20 = .ok (.getfield 22, 3) := by decide +kernel
theorem dX10_placeIn_23 : decode cX10_placeIn 23 = .ok (.getfield 40, 3) := by decide +kernel
theorem dX10_placeIn_26 : decode cX10_placeIn 26 = .ok (.iload_n 1, 1) := by decide +kernel
theorem dX10_placeIn_27 : decode cX10_placeIn 27 = .ok (.invokestatic 54, 3) := by decide +kernel
theorem dX10_placeIn_30 : decode cX10_placeIn 30 = .ok (.iload_n 2, 1) := by decide +kernel
theorem dX10_placeIn_31 : decode cX10_placeIn 31 = .ok (.iadd, 1) := by decide +kernel
theorem dX10_placeIn_32 : decode cX10_placeIn 32 = .ok (.iload_n 3, 1) := by decide +kernel
theorem dX10_placeIn_33 : decode cX10_placeIn 33 = .ok (.invokestatic 82, 3) := by decide +kernel
theorem dX10_placeIn_36 : decode cX10_placeIn 36 = .ok (.istore 4, 2) := by decide +kernel
theorem dX10_placeIn_38 : decode cX10_placeIn 38 = .ok (.aload_n 0, 1) := by decide +kernel
theorem dX10_placeIn_39 : decode cX10_placeIn 39 = .ok (.getfield 9, 3) := by decide +kernel
theorem dX10_placeIn_42 : decode cX10_placeIn 42 = .ok (.getfield 51, 3) := by decide +kernel
theorem dX10_placeIn_45 : decode cX10_placeIn 45 = .ok (.iload_n 1, 1) := by decide +kernel
theorem dX10_placeIn_46 : decode cX10_placeIn 46 = .ok (.bipush 6, 2) := by decide +kernel
theorem dX10_placeIn_48 : decode cX10_placeIn 48 = .ok (.imul, 1) := by decide +kernel
theorem dX10_placeIn_49 : decode cX10_placeIn 49 = .ok (.iload 4, 2) := by decide +kernel
theorem dX10_placeIn_51 : decode cX10_placeIn 51 = .ok (.iadd, 1) := by decide +kernel
theorem dX10_placeIn_52 : decode cX10_placeIn 52 = .ok (.invokestatic 54, 3) := by decide +kernel
theorem dX10_placeIn_55 : decode cX10_placeIn 55 = .ok (.ireturn, 1) := by decide +kernel
theorem dX10_together_0 : decode cX10_together 0 = .ok (.aload_n 0, 1) := by decide +kernel
theorem dX10_together_1 : decode cX10_together 1 = .ok (.getfield 22, 3) := by decide +kernel
theorem dX10_together_4 : decode cX10_together 4 = .ok (.getfield 48, 3) := by decide +kernel
theorem dX10_together_7 : decode cX10_together 7 = .ok (.iload_n 1, 1) := by decide +kernel
theorem dX10_together_8 : decode cX10_together 8 = .ok (.invokestatic 54, 3) := by decide +kernel
theorem dX10_together_11 : decode cX10_together 11 = .ok (.aload_n 0, 1) := by decide +kernel
theorem dX10_together_12 : decode cX10_together 12 = .ok (.getfield 22, 3) := by decide +kernel
theorem dX10_together_15 : decode cX10_together 15 = .ok (.getfield 48, 3) := by decide +kernel
theorem dX10_together_18 : decode cX10_together 18 = .ok (.iload_n 2, 1) := by decide +kernel
theorem dX10_together_19 : decode cX10_together 19 = .ok (.invokestatic 54, 3) := by decide +kernel
theorem dX10_together_22 : decode cX10_together 22 = .ok (.if_icmp .ne 7, 3) := by decide +kernel
theorem dX10_together_25 : decode cX10_together 25 = .ok (.iconst 1, 1) := by decide +kernel
theorem dX10_together_26 : decode cX10_together 26 = .ok (.goto 4, 3) := by decide +kernel
theorem dX10_together_29 : decode cX10_together 29 = .ok (.iconst 0, 1) := by decide +kernel
theorem dX10_together_30 : decode cX10_together 30 = .ok (.ireturn, 1) := by decide +kernel
theorem dX10_ofOneSide_0 : decode cX10_ofOneSide 0 = .ok (.aload_n 0, 1) := by decide +kernel
theorem dX10_ofOneSide_1 : decode cX10_ofOneSide 1 = .ok (.getfield 9, 3) := by decide +kernel
theorem dX10_ofOneSide_4 : decode cX10_ofOneSide 4 = .ok (.getfield 88, 3) := by decide +kernel
theorem dX10_ofOneSide_7 : decode cX10_ofOneSide 7 = .ok (.iload_n 1, 1) := by decide +kernel
theorem dX10_ofOneSide_8 : decode cX10_ofOneSide 8 = .ok (.invokestatic 54, 3) := by decide +kernel
theorem dX10_ofOneSide_11 : decode cX10_ofOneSide 11 = .ok (.aload_n 0, 1) := by decide +kernel
theorem dX10_ofOneSide_12 : decode cX10_ofOneSide 12 = .ok (.getfield 9, 3) := by decide +kernel
theorem dX10_ofOneSide_15 : decode cX10_ofOneSide 15 = .ok (.getfield 88, 3) := by decide +kernel
theorem dX10_ofOneSide_18 : decode cX10_ofOneSide 18 = .ok (.iload_n 2, 1) := by decide +kernel
theorem dX10_ofOneSide_19 : decode cX10_ofOneSide 19 = .ok (.invokestatic 54, 3) := by decide +kernel
theorem dX10_ofOneSide_22 : decode cX10_ofOneSide 22 = .ok (.if_icmp .ne 7, 3) := by decide +kernel
theorem dX10_ofOneSide_25 : decode cX10_ofOneSide 25 = .ok (.iconst 1, 1) := by decide +kernel
theorem dX10_ofOneSide_26 : decode cX10_ofOneSide 26 = .ok (.goto 4, 3) := by decide +kernel
theorem dX10_ofOneSide_29 : decode cX10_ofOneSide 29 = .ok (.iconst 0, 1) := by decide +kernel
theorem dX10_ofOneSide_30 : decode cX10_ofOneSide 30 = .ok (.ireturn, 1) := by decide +kernel
theorem dX10_canUse_0 : decode cX10_canUse 0 = .ok (.aload_n 0, 1) := by decide +kernel
theorem dX10_canUse_1 : decode cX10_canUse 1 = .ok (.getfield 22, 3) := by decide +kernel
theorem dX10_canUse_4 : decode cX10_canUse 4 = .ok (.getfield 64, 3) := by decide +kernel
theorem dX10_canUse_7 : decode cX10_canUse 7 = .ok (.iload_n 1, 1) := by decide +kernel
theorem dX10_canUse_8 : decode cX10_canUse 8 = .ok (.invokestatic 54, 3) := by decide +kernel
theorem dX10_canUse_11 : decode cX10_canUse 11 = .ok (.iload_n 2, 1) := by decide +kernel
theorem dX10_canUse_12 : decode cX10_canUse 12 = .ok (.invokestatic 67, 3) := by decide +kernel
theorem dX10_canUse_15 : decode cX10_canUse 15 = .ok (.ireturn, 1) := by decide +kernel
theorem dX10_canLearn_0 : decode cX10_canLearn 0 = .ok (.aload_n 0, 1) := by decide +kernel
theorem dX10_canLearn_1 : decode cX10_canLearn 1 = .ok (.iload_n 1, 1) := by decide +kernel
theorem dX10_canLearn_2 : decode cX10_canLearn 2 = .ok (.iload_n 2, 1) := by decide +kernel
theorem dX10_canLearn_3 : decode cX10_canLearn 3 = .ok (.invokevirtual 91, 3) := by decide +kernel
theorem dX10_canLearn_6 : decode cX10_canLearn 6 = .ok (.ifCond .eq 35, 3) := by decide +kernel
theorem dX10_canLearn_9 : decode cX10_canLearn 9 = .ok (.aload_n 0, 1) := by decide +kernel
theorem dX10_canLearn_10 : decode cX10_canLearn 10 = .ok (.getfield 9, 3) := by decide +kernel
theorem dX10_canLearn_13 : decode cX10_canLearn 13 = .ok (.getfield 94, 3) := by decide +kernel
theorem dX10_canLearn_16 : decode cX10_canLearn 16 = .ok (.iload_n 2, 1) := by decide +kernel
theorem dX10_canLearn_17 : decode cX10_canLearn 17 = .ok (.invokestatic 54, 3) := by decide +kernel
theorem dX10_canLearn_20 : decode cX10_canLearn 20 = .ok (.aload_n 0, 1) := by decide +kernel
theorem dX10_canLearn_21 : decode cX10_canLearn 21 = .ok (.getfield 22, 3) := by decide +kernel
theorem dX10_canLearn_24 : decode cX10_canLearn 24 = .ok (.getfield 64, 3) := by decide +kernel
theorem dX10_canLearn_27 : decode cX10_canLearn 27 = .ok (.iload_n 1, 1) := by decide +kernel
theorem dX10_canLearn_28 : decode cX10_canLearn 28 = .ok (.invokestatic 54, 3) := by decide +kernel
theorem dX10_canLearn_31 : decode cX10_canLearn 31 = .ok (.iconst (-1), 1) := by decide +kernel
theorem dX10_canLearn_32 : decode cX10_canLearn 32 = .ok (.ixor, 1) := by decide +kernel
theorem dX10_canLearn_33 : decode cX10_canLearn 33 = .ok (.iand, 1) := by decide +kernel
theorem dX10_canLearn_34 : decode cX10_canLearn 34 = .ok (.ifCond .ne 7, 3) := by decide +kernel
theorem dX10_canLearn_37 : decode cX10_canLearn 37 = .ok (.iconst 1, 1) := by decide +kernel
theorem dX10_canLearn_38 : decode cX10_canLearn 38 = .ok (.goto 4, 3) := by decide +kernel
theorem dX10_canLearn_41 : decode cX10_canLearn 41 = .ok (.iconst 0, 1) := by decide +kernel
theorem dX10_canLearn_42 : decode cX10_canLearn 42 = .ok (.ireturn, 1) := by decide +kernel
theorem dX10_learn_0 : decode cX10_learn 0 = .ok (.aload_n 0, 1) := by decide +kernel
theorem dX10_learn_1 : decode cX10_learn 1 = .ok (.iload_n 1, 1) := by decide +kernel
theorem dX10_learn_2 : decode cX10_learn 2 = .ok (.iload_n 2, 1) := by decide +kernel
theorem dX10_learn_3 : decode cX10_learn 3 = .ok (.invokevirtual 97, 3) := by decide +kernel
theorem dX10_learn_6 : decode cX10_learn 6 = .ok (.aload_n 0, 1) := by decide +kernel
theorem dX10_learn_7 : decode cX10_learn 7 = .ok (.getfield 22, 3) := by decide +kernel
theorem dX10_learn_10 : decode cX10_learn 10 = .ok (.dup, 1) := by decide +kernel
theorem dX10_learn_11 : decode cX10_learn 11 = .ok (.getfield 100, 3) := by decide +kernel
theorem dX10_learn_14 : decode cX10_learn 14 = .ok (.iconst 1, 1) := by decide +kernel
theorem dX10_learn_15 : decode cX10_learn 15 = .ok (.iadd, 1) := by decide +kernel
theorem dX10_learn_16 : decode cX10_learn 16 = .ok (.putfield 100, 3) := by decide +kernel
theorem dX10_learn_19 : decode cX10_learn 19 = .ok (.return_, 1) := by decide +kernel
theorem dX10_fallsOf_0 : decode cX10_fallsOf 0 = .ok (.aload_n 0, 1) := by decide +kernel
theorem dX10_fallsOf_1 : decode cX10_fallsOf 1 = .ok (.getfield 22, 3) := by decide +kernel
theorem dX10_fallsOf_4 : decode cX10_fallsOf 4 = .ok (.getfield 64, 3) := by decide +kernel
theorem dX10_fallsOf_7 : decode cX10_fallsOf 7 = .ok (.iload_n 1, 1) := by decide +kernel
theorem dX10_fallsOf_8 : decode cX10_fallsOf 8 = .ok (.invokestatic 54, 3) := by decide +kernel
theorem dX10_fallsOf_11 : decode cX10_fallsOf 11 = .ok (.aload_n 0, 1) := by decide +kernel
theorem dX10_fallsOf_12 : decode cX10_fallsOf 12 = .ok (.getfield 9, 3) := by decide +kernel
theorem dX10_fallsOf_15 : decode cX10_fallsOf 15 = .ok (.getfield 104, 3) := by decide +kernel
theorem dX10_fallsOf_18 : decode cX10_fallsOf 18 = .ok (.iload_n 2, 1) := by decide +kernel
theorem dX10_fallsOf_19 : decode cX10_fallsOf 19 = .ok (.invokestatic 54, 3) := by decide +kernel
theorem dX10_fallsOf_22 : decode cX10_fallsOf 22 = .ok (.iconst 1, 1) := by decide +kernel
theorem dX10_fallsOf_23 : decode cX10_fallsOf 23 = .ok (.iload_n 2, 1) := by decide +kernel
theorem dX10_fallsOf_24 : decode cX10_fallsOf 24 = .ok (.ishl, 1) := by decide +kernel
theorem dX10_fallsOf_25 : decode cX10_fallsOf 25 = .ok (.ior, 1) := by decide +kernel
theorem dX10_fallsOf_26 : decode cX10_fallsOf 26 = .ok (.iand, 1) := by decide +kernel
theorem dX10_fallsOf_27 : decode cX10_fallsOf 27 = .ok (.invokestatic 107, 3) := by decide +kernel
theorem dX10_fallsOf_30 : decode cX10_fallsOf 30 = .ok (.ireturn, 1) := by decide +kernel
theorem dX10_hit_0 : decode cX10_hit 0 = .ok (.iload_n 3, 1) := by decide +kernel
theorem dX10_hit_1 : decode cX10_hit 1 = .ok (.ifCond .eq 11, 3) := by decide +kernel
theorem dX10_hit_4 : decode cX10_hit 4 = .ok (.aload_n 0, 1) := by decide +kernel
theorem dX10_hit_5 : decode cX10_hit 5 = .ok (.iload_n 2, 1) := by decide +kernel
theorem dX10_hit_6 : decode cX10_hit 6 = .ok (.invokevirtual 112, 3) := by decide +kernel
theorem dX10_hit_9 : decode cX10_hit 9 = .ok (.goto 24, 3) := by decide +kernel
theorem dX10_hit_12 : decode cX10_hit 12 = .ok (.aload_n 0, 1) := by decide +kernel
theorem dX10_hit_13 : decode cX10_hit 13 = .ok (.getfield 22, 3) := by decide +kernel
theorem dX10_hit_16 : decode cX10_hit 16 = .ok (.iload_n 2, 1) := by decide +kernel
theorem dX10_hit_17 : decode cX10_hit 17 = .ok (.aload_n 0, 1) := by decide +kernel
theorem dX10_hit_18 : decode cX10_hit 18 = .ok (.getfield 22, 3) := by decide +kernel
theorem dX10_hit_21 : decode cX10_hit 21 = .ok (.getfield 58, 3) := by decide +kernel
theorem dX10_hit_24 : decode cX10_hit 24 = .ok (.iload_n 2, 1) := by decide +kernel
theorem dX10_hit_25 : decode cX10_hit 25 = .ok (.invokestatic 54, 3) := by decide +kernel
theorem dX10_hit_28 : decode cX10_hit 28 = .ok (.iconst 1, 1) := by decide +kernel
theorem dX10_hit_29 : decode cX10_hit 29 = .ok (.isub, 1) := by decide +kernel
theorem dX10_hit_30 : decode cX10_hit 30 = .ok (.invokevirtual 115, 3) := by decide +kernel
theorem dX10_hit_33 : decode cX10_hit 33 = .ok (.istore 4, 2) := by decide +kernel
theorem dX10_hit_35 : decode cX10_hit 35 = .ok (.iload 4, 2) := by decide +kernel
theorem dX10_hit_37 : decode cX10_hit 37 = .ok (.iconst (-1), 1) := by decide +kernel
theorem dX10_hit_38 : decode cX10_hit 38 = .ok (.if_icmp .ne 5, 3) := by decide +kernel
theorem dX10_hit_41 : decode cX10_hit 41 = .ok (.iconst (-1), 1) := by decide +kernel
theorem dX10_hit_42 : decode cX10_hit 42 = .ok (.ireturn, 1) := by decide +kernel
theorem dX10_hit_43 : decode cX10_hit 43 = .ok (.aload_n 0, 1) := by decide +kernel
theorem dX10_hit_44 : decode cX10_hit 44 = .ok (.getfield 22, 3) := by decide +kernel
theorem dX10_hit_47 : decode cX10_hit 47 = .ok (.iload_n 2, 1) := by decide +kernel
theorem dX10_hit_48 : decode cX10_hit 48 = .ok (.iload 4, 2) := by decide +kernel
theorem dX10_hit_50 : decode cX10_hit 50 = .ok (.invokevirtual 118, 3) := by decide +kernel
theorem dX10_hit_53 : decode cX10_hit 53 = .ok (.aload_n 0, 1) := by decide +kernel
theorem dX10_hit_54 : decode cX10_hit 54 = .ok (.getfield 22, 3) := by decide +kernel
theorem dX10_hit_57 : decode cX10_hit 57 = .ok (.getfield 64, 3) := by decide +kernel
theorem dX10_hit_60 : decode cX10_hit 60 = .ok (.iload_n 2, 1) := by decide +kernel
theorem dX10_hit_61 : decode cX10_hit 61 = .ok (.aload_n 0, 1) := by decide +kernel
theorem dX10_hit_62 : decode cX10_hit 62 = .ok (.getfield 9, 3) := by decide +kernel
theorem dX10_hit_65 : decode cX10_hit 65 = .ok (.aload_n 0, 1) := by decide +kernel
theorem dX10_hit_66 : decode cX10_hit 66 = .ok (.getfield 22, 3) := by decide +kernel
theorem dX10_hit_69 : decode cX10_hit 69 = .ok (.getfield 61, 3) := by decide +kernel
theorem dX10_hit_72 : decode cX10_hit 72 = .ok (.iload_n 2, 1) := by decide +kernel
theorem dX10_hit_73 : decode cX10_hit 73 = .ok (.invokestatic 54, 3) := by decide +kernel
theorem dX10_hit_76 : decode cX10_hit 76 = .ok (.invokevirtual 75, 3) := by decide +kernel
theorem dX10_hit_79 : decode cX10_hit 79 = .ok (.invokestatic 44, 3) := by decide +kernel
theorem dX10_hit_82 : decode cX10_hit 82 = .ok (.aload_n 0, 1) := by decide +kernel
theorem dX10_hit_83 : decode cX10_hit 83 = .ok (.getfield 22, 3) := by decide +kernel
theorem dX10_hit_86 : decode cX10_hit 86 = .ok (.iload 4, 2) := by decide +kernel
theorem dX10_hit_88 : decode cX10_hit 88 = .ok (.aload_n 0, 1) := by decide +kernel
theorem dX10_hit_89 : decode cX10_hit 89 = .ok (.getfield 22, 3) := by decide +kernel
theorem dX10_hit_92 : decode cX10_hit 92 = .ok (.getfield 48, 3) := by decide +kernel
theorem dX10_hit_95 : decode cX10_hit 95 = .ok (.iload_n 2, 1) := by decide +kernel
theorem dX10_hit_96 : decode cX10_hit 96 = .ok (.invokestatic 54, 3) := by decide +kernel
theorem dX10_hit_99 : decode cX10_hit 99 = .ok (.iload_n 2, 1) := by decide +kernel
theorem dX10_hit_100 : decode cX10_hit 100 = .ok (.invokevirtual 121, 3) := by decide +kernel
theorem dX10_hit_103 : decode cX10_hit 103 = .ok (.aload_n 0, 1) := by decide +kernel
theorem dX10_hit_104 : decode cX10_hit 104 = .ok (.getfield 22, 3) := by decide +kernel
theorem dX10_hit_107 : decode cX10_hit 107 = .ok (.iload_n 1, 1) := by decide +kernel
theorem dX10_hit_108 : decode cX10_hit 108 = .ok (.iload_n 2, 1) := by decide +kernel
theorem dX10_hit_109 : decode cX10_hit 109 = .ok (.iload 4, 2) := by decide +kernel
theorem dX10_hit_111 : decode cX10_hit 111 = .ok (.iload_n 3, 1) := by decide +kernel
theorem dX10_hit_112 : decode cX10_hit 112 = .ok (.invokevirtual 125, 3) := by decide +kernel
theorem dX10_hit_115 : decode cX10_hit 115 = .ok (.iload 4, 2) := by decide +kernel
theorem dX10_hit_117 : decode cX10_hit 117 = .ok (.ireturn, 1) := by decide +kernel
theorem dX10_dearestOf_0 : decode cX10_dearestOf 0 = .ok (.aload_n 0, 1) := by decide +kernel
theorem dX10_dearestOf_1 : decode cX10_dearestOf 1 = .ok (.getfield 22, 3) := by decide +kernel
theorem dX10_dearestOf_4 : decode cX10_dearestOf 4 = .ok (.getfield 61, 3) := by decide +kernel
theorem dX10_dearestOf_7 : decode cX10_dearestOf 7 = .ok (.iload_n 1, 1) := by decide +kernel
theorem dX10_dearestOf_8 : decode cX10_dearestOf 8 = .ok (.invokestatic 54, 3) := by decide +kernel
theorem dX10_dearestOf_11 : decode cX10_dearestOf 11 = .ok (.istore_n 2, 1) := by decide +kernel
theorem dX10_dearestOf_12 : decode cX10_dearestOf 12 = .ok (.iconst (-1), 1) := by decide +kernel
theorem dX10_dearestOf_13 : decode cX10_dearestOf 13 = .ok (.istore_n 3, 1) := by decide +kernel
theorem dX10_dearestOf_14 : decode cX10_dearestOf 14 = .ok (.iconst (-1), 1) := by decide +kernel
theorem dX10_dearestOf_15 : decode cX10_dearestOf 15 = .ok (.istore 4, 2) := by decide +kernel
theorem dX10_dearestOf_17 : decode cX10_dearestOf 17 = .ok (.iconst 0, 1) := by decide +kernel
theorem dX10_dearestOf_18 : decode cX10_dearestOf 18 = .ok (.istore 5, 2) := by decide +kernel
theorem dX10_dearestOf_20 : decode cX10_dearestOf 20 = .ok (.iload 5, 2) := by decide +kernel
theorem dX10_dearestOf_22 : decode cX10_dearestOf 22 = .ok (.aload_n 0, 1) := by decide +kernel
theorem dX10_dearestOf_23 : decode cX10_dearestOf 23 = .ok (.getfield 9, 3) := by decide +kernel
theorem dX10_dearestOf_26 : decode cX10_dearestOf 26 = .ok (.getfield 129, 3) := by decide +kernel
theorem dX10_dearestOf_29 : decode cX10_dearestOf 29 = .ok (.if_icmp .ge 45, 3) := by decide +kernel
theorem dX10_dearestOf_32 : decode cX10_dearestOf 32 = .ok (.iload_n 2, 1) := by decide +kernel
theorem dX10_dearestOf_33 : decode cX10_dearestOf 33 = .ok (.iload 5, 2) := by decide +kernel
theorem dX10_dearestOf_35 : decode cX10_dearestOf 35 = .ok (.invokestatic 67, 3) := by decide +kernel
theorem dX10_dearestOf_38 : decode cX10_dearestOf 38 = .ok (.ifCond .eq 13, 3) := by decide +kernel
theorem dX10_dearestOf_41 : decode cX10_dearestOf 41 = .ok (.aload_n 0, 1) := by decide +kernel
theorem dX10_dearestOf_42 : decode cX10_dearestOf 42 = .ok (.iload_n 1, 1) := by decide +kernel
theorem dX10_dearestOf_43 : decode cX10_dearestOf 43 = .ok (.iload 5, 2) := by decide +kernel
theorem dX10_dearestOf_45 : decode cX10_dearestOf 45 = .ok (.invokevirtual 132, 3) := by decide +kernel
theorem dX10_dearestOf_48 : decode cX10_dearestOf 48 = .ok (.goto 4, 3) := by decide +kernel
theorem dX10_dearestOf_51 : decode cX10_dearestOf 51 = .ok (.iconst (-1), 1) := by decide +kernel
theorem dX10_dearestOf_52 : decode cX10_dearestOf 52 = .ok (.istore 6, 2) := by decide +kernel
theorem dX10_dearestOf_54 : decode cX10_dearestOf 54 = .ok (.iload 6, 2) := by decide +kernel
theorem dX10_dearestOf_56 : decode cX10_dearestOf 56 = .ok (.iload 4, 2) := by decide +kernel
theorem dX10_dearestOf_58 : decode cX10_dearestOf 58 = .ok (.if_icmp .le 10, 3) := by decide +kernel
theorem dX10_dearestOf_61 : decode cX10_dearestOf 61 = .ok (.iload 5, 2) := by decide +kernel
theorem dX10_dearestOf_63 : decode cX10_dearestOf 63 = .ok (.istore_n 3, 1) := by decide +kernel
theorem dX10_dearestOf_64 : decode cX10_dearestOf 64 = .ok (.iload 6, 2) := by decide +kernel
theorem dX10_dearestOf_66 : decode cX10_dearestOf 66 = .ok (.istore 4, 2) := by decide +kernel
theorem dX10_dearestOf_68 : decode cX10_dearestOf 68 = .ok (.iinc 5 1, 3) := by decide +kernel
theorem dX10_dearestOf_71 : decode cX10_dearestOf 71 = .ok (.goto (-51), 3) := by decide +kernel
theorem dX10_dearestOf_74 : decode cX10_dearestOf 74 = .ok (.iload_n 3, 1) := by decide +kernel
theorem dX10_dearestOf_75 : decode cX10_dearestOf 75 = .ok (.ireturn, 1) := by decide +kernel
theorem dX10_readAloud_0 : decode cX10_readAloud 0 = .ok (.aload_n 0, 1) := by decide +kernel
theorem dX10_readAloud_1 : decode cX10_readAloud 1 = .ok (.getfield 22, 3) := by decide +kernel
theorem dX10_readAloud_4 : decode cX10_readAloud 4 = .ok (.getfield 100, 3) := by decide +kernel
theorem dX10_readAloud_7 : decode cX10_readAloud 7 = .ok (.istore_n 2, 1) := by decide +kernel
theorem dX10_readAloud_8 : decode cX10_readAloud 8 = .ok (.aload_n 0, 1) := by decide +kernel
theorem dX10_readAloud_9 : decode cX10_readAloud 9 = .ok (.getfield 9, 3) := by decide +kernel
theorem dX10_readAloud_12 : decode cX10_readAloud 12 = .ok (.getfield 135, 3) := by decide +kernel
theorem dX10_readAloud_15 : decode cX10_readAloud 15 = .ok (.iload_n 1, 1) := by decide +kernel
theorem dX10_readAloud_16 : decode cX10_readAloud 16 = .ok (.invokestatic 54, 3) := by decide +kernel
theorem dX10_readAloud_19 : decode cX10_readAloud 19 = .ok (.istore_n 3, 1) := by decide +kernel
theorem dX10_readAloud_20 : decode cX10_readAloud 20 = .ok (.iconst 0, 1) := by decide +kernel
theorem dX10_readAloud_21 : decode cX10_readAloud 21 = .ok (.istore 4, 2) := by decide +kernel
theorem dX10_readAloud_23 : decode cX10_readAloud 23 = .ok (.iload 4, 2) := by decide +kernel
theorem dX10_readAloud_25 : decode cX10_readAloud 25 = .ok (.aload_n 0, 1) := by decide +kernel
theorem dX10_readAloud_26 : decode cX10_readAloud 26 = .ok (.getfield 9, 3) := by decide +kernel
theorem dX10_readAloud_29 : decode cX10_readAloud 29 = .ok (.getfield 138, 3) := by decide +kernel
theorem dX10_readAloud_32 : decode cX10_readAloud 32 = .ok (.if_icmp .ge 60, 3) := by decide +kernel
theorem dX10_readAloud_35 : decode cX10_readAloud 35 = .ok (.iload_n 3, 1) := by decide +kernel
theorem dX10_readAloud_36 : decode cX10_readAloud 36 = .ok (.aload_n 0, 1) := by decide +kernel
theorem dX10_readAloud_37 : decode cX10_readAloud 37 = .ok (.getfield 22, 3) := by decide +kernel
theorem dX10_readAloud_40 : decode cX10_readAloud 40 = .ok (.getfield 61, 3) := by decide +kernel
theorem dX10_readAloud_43 : decode cX10_readAloud 43 = .ok (.iload 4, 2) := by decide +kernel
theorem dX10_readAloud_45 : decode cX10_readAloud 45 = .ok (.invokestatic 54, 3) := by decide +kernel
theorem dX10_readAloud_48 : decode cX10_readAloud 48 = .ok (.iconst (-1), 1) := by decide +kernel
theorem dX10_readAloud_49 : decode cX10_readAloud 49 = .ok (.ixor, 1) := by decide +kernel
theorem dX10_readAloud_50 : decode cX10_readAloud 50 = .ok (.iand, 1) := by decide +kernel
theorem dX10_readAloud_51 : decode cX10_readAloud 51 = .ok (.istore 5, 2) := by decide +kernel
theorem dX10_readAloud_53 : decode cX10_readAloud 53 = .ok (.iload 5, 2) := by decide +kernel
theorem dX10_readAloud_55 : decode cX10_readAloud 55 = .ok (.ifCond .eq 31, 3) := by decide +kernel
theorem dX10_readAloud_58 : decode cX10_readAloud 58 = .ok (.aload_n 0, 1) := by decide +kernel
theorem dX10_readAloud_59 : decode cX10_readAloud 59 = .ok (.iload_n 1, 1) := by decide +kernel
theorem dX10_readAloud_60 : decode cX10_readAloud 60 = .ok (.iload 4, 2) := by decide +kernel
theorem dX10_readAloud_62 : decode cX10_readAloud 62 = .ok (.invokevirtual 141, 3) := by decide +kernel
theorem dX10_readAloud_65 : decode cX10_readAloud 65 = .ok (.ifCond .eq 21, 3) := by decide +kernel
theorem dX10_readAloud_68 : decode cX10_readAloud 68 = .ok (.aload_n 0, 1) := by decide +kernel
theorem dX10_readAloud_69 : decode cX10_readAloud 69 = .ok (.iload_n 1, 1) := by decide +kernel
theorem dX10_readAloud_70 : decode cX10_readAloud 70 = .ok (.iload 4, 2) := by decide +kernel
theorem dX10_readAloud_72 : decode cX10_readAloud 72 = .ok (.invokevirtual 144, 3) := by decide +kernel
theorem dX10_readAloud_75 : decode cX10_readAloud 75 = .ok (.ifCond .eq 11, 3) := by decide +kernel
theorem dX10_readAloud_78 : decode cX10_readAloud 78 = .ok (.aload_n 0, 1) := by decide +kernel
theorem dX10_readAloud_79 : decode cX10_readAloud 79 = .ok (.iload 4, 2) := by decide +kernel
theorem dX10_readAloud_81 : decode cX10_readAloud 81 = .ok (.iload 5, 2) := by decide +kernel
theorem dX10_readAloud_83 : decode cX10_readAloud 83 = .ok (.invokevirtual 147, 3) := by decide +kernel
theorem dX10_readAloud_86 : decode cX10_readAloud 86 = .ok (.iinc 4 1, 3) := by decide +kernel
theorem dX10_readAloud_89 : decode cX10_readAloud 89 = .ok (.goto (-66), 3) := by decide +kernel
theorem dX10_readAloud_92 : decode cX10_readAloud 92 = .ok (.aload_n 0, 1) := by decide +kernel
theorem dX10_readAloud_93 : decode cX10_readAloud 93 = .ok (.getfield 22, 3) := by decide +kernel
theorem dX10_readAloud_96 : decode cX10_readAloud 96 = .ok (.getfield 100, 3) := by decide +kernel
theorem dX10_readAloud_99 : decode cX10_readAloud 99 = .ok (.iload_n 2, 1) := by decide +kernel
theorem dX10_readAloud_100 : decode cX10_readAloud 100 = .ok (.isub, 1) := by decide +kernel
theorem dX10_readAloud_101 : decode cX10_readAloud 101 = .ok (.ireturn, 1) := by decide +kernel
theorem dX10_learnAll_0 : decode cX10_learnAll 0 = .ok (.iconst 0, 1) := by decide +kernel
theorem dX10_learnAll_1 : decode cX10_learnAll 1 = .ok (.istore_n 3, 1) := by decide +kernel
theorem dX10_learnAll_2 : decode cX10_learnAll 2 = .ok (.iload_n 3, 1) := by decide +kernel
theorem dX10_learnAll_3 : decode cX10_learnAll 3 = .ok (.aload_n 0, 1) := by decide +kernel
theorem dX10_learnAll_4 : decode cX10_learnAll 4 = .ok (.getfield 9, 3) := by decide +kernel
theorem dX10_learnAll_7 : decode cX10_learnAll 7 = .ok (.getfield 129, 3) := by decide +kernel
theorem dX10_learnAll_10 : decode cX10_learnAll 10 = .ok (.if_icmp .ge 32, 3) := by decide +kernel
theorem dX10_learnAll_13 : decode cX10_learnAll 13 = .ok (.iload_n 2, 1) := by decide +kernel
theorem dX10_learnAll_14 : decode cX10_learnAll 14 = .ok (.iload_n 3, 1) := by decide +kernel
theorem dX10_learnAll_15 : decode cX10_learnAll 15 = .ok (.invokestatic 67, 3) := by decide +kernel
theorem dX10_learnAll_18 : decode cX10_learnAll 18 = .ok (.ifCond .eq 18, 3) := by decide +kernel
theorem dX10_learnAll_21 : decode cX10_learnAll 21 = .ok (.aload_n 0, 1) := by decide +kernel
theorem dX10_learnAll_22 : decode cX10_learnAll 22 = .ok (.iload_n 1, 1) := by decide +kernel
theorem dX10_learnAll_23 : decode cX10_learnAll 23 = .ok (.iload_n 3, 1) := by decide +kernel
theorem dX10_learnAll_24 : decode cX10_learnAll 24 = .ok (.invokevirtual 150, 3) := by decide +kernel
theorem dX10_learnAll_27 : decode cX10_learnAll 27 = .ok (.ifCond .eq 9, 3) := by decide +kernel
theorem dX10_learnAll_30 : decode cX10_learnAll 30 = .ok (.aload_n 0, 1) := by decide +kernel
theorem dX10_learnAll_31 : decode cX10_learnAll 31 = .ok (.iload_n 1, 1) := by decide +kernel
theorem dX10_learnAll_32 : decode cX10_learnAll 32 = .ok (.iload_n 3, 1) := by decide +kernel
theorem dX10_learnAll_33 : decode cX10_learnAll 33 = .ok (.invokevirtual 153, 3) := by decide +kernel
theorem dX10_learnAll_36 : decode cX10_learnAll 36 = .ok (.iinc 3 1, 3) := by decide +kernel
theorem dX10_learnAll_39 : decode cX10_learnAll 39 = .ok (.goto (-37), 3) := by decide +kernel
theorem dX10_learnAll_42 : decode cX10_learnAll 42 = .ok (.return_, 1) := by decide +kernel
theorem dX10_passHour_0 : decode cX10_passHour 0 = .ok (.iconst 0, 1) := by decide +kernel
theorem dX10_passHour_1 : decode cX10_passHour 1 = .ok (.istore_n 1, 1) := by decide +kernel
theorem dX10_passHour_2 : decode cX10_passHour 2 = .ok (.iload_n 1, 1) := by decide +kernel
theorem dX10_passHour_3 : decode cX10_passHour 3 = .ok (.aload_n 0, 1) := by decide +kernel
theorem dX10_passHour_4 : decode cX10_passHour 4 = .ok (.getfield 9, 3) := by decide +kernel
theorem dX10_passHour_7 : decode cX10_passHour 7 = .ok (.getfield 138, 3) := by decide +kernel
theorem dX10_passHour_10 : decode cX10_passHour 10 = .ok (.if_icmp .ge 14, 3) := by decide +kernel
theorem dX10_passHour_13 : decode cX10_passHour 13 = .ok (.aload_n 0, 1) := by decide +kernel
theorem dX10_passHour_14 : decode cX10_passHour 14 = .ok (.iload_n 1, 1) := by decide +kernel
theorem dX10_passHour_15 : decode cX10_passHour 15 = .ok (.invokevirtual 156, 3) := by decide +kernel
theorem dX10_passHour_18 : decode cX10_passHour 18 = .ok (.iinc 1 1, 3) := by decide +kernel
theorem dX10_passHour_21 : decode cX10_passHour 21 = .ok (.goto (-19), 3) := by decide +kernel
theorem dX10_passHour_24 : decode cX10_passHour 24 = .ok (.iconst 0, 1) := by decide +kernel
theorem dX10_passHour_25 : decode cX10_passHour 25 = .ok (.istore_n 1, 1) := by decide +kernel
theorem dX10_passHour_26 : decode cX10_passHour 26 = .ok (.iload_n 1, 1) := by decide +kernel
theorem dX10_passHour_27 : decode cX10_passHour 27 = .ok (.aload_n 0, 1) := by decide +kernel
theorem dX10_passHour_28 : decode cX10_passHour 28 = .ok (.getfield 9, 3) := by decide +kernel
theorem dX10_passHour_31 : decode cX10_passHour 31 = .ok (.getfield 138, 3) := by decide +kernel
theorem dX10_passHour_34 : decode cX10_passHour 34 = .ok (.if_icmp .ge 14, 3) := by decide +kernel
theorem dX10_passHour_37 : decode cX10_passHour 37 = .ok (.aload_n 0, 1) := by decide +kernel
theorem dX10_passHour_38 : decode cX10_passHour 38 = .ok (.iload_n 1, 1) := by decide +kernel
theorem dX10_passHour_39 : decode cX10_passHour 39 = .ok (.invokevirtual 160, 3) := by decide +kernel
theorem dX10_passHour_42 : decode cX10_passHour 42 = .ok (.iinc 1 1, 3) := by decide +kernel
theorem dX10_passHour_45 : decode cX10_passHour 45 = .ok (.goto (-19), 3) := by decide +kernel
theorem dX10_passHour_48 : decode cX10_passHour 48 = .ok (.iconst 0, 1) := by decide +kernel
theorem dX10_passHour_49 : decode cX10_passHour 49 = .ok (.istore_n 1, 1) := by decide +kernel
theorem dX10_passHour_50 : decode cX10_passHour 50 = .ok (.iload_n 1, 1) := by decide +kernel
theorem dX10_passHour_51 : decode cX10_passHour 51 = .ok (.aload_n 0, 1) := by decide +kernel
theorem dX10_passHour_52 : decode cX10_passHour 52 = .ok (.getfield 9, 3) := by decide +kernel
theorem dX10_passHour_55 : decode cX10_passHour 55 = .ok (.getfield 138, 3) := by decide +kernel
theorem dX10_passHour_58 : decode cX10_passHour 58 = .ok (.if_icmp .ge 38, 3) := by decide +kernel
theorem dX10_passHour_61 : decode cX10_passHour 61 = .ok (.aload_n 0, 1) := by decide +kernel
theorem dX10_passHour_62 : decode cX10_passHour 62 = .ok (.getfield 9, 3) := by decide +kernel
theorem dX10_passHour_65 : decode cX10_passHour 65 = .ok (.getfield 135, 3) := by decide +kernel
theorem dX10_passHour_68 : decode cX10_passHour 68 = .ok (.iload_n 1, 1) := by decide +kernel
theorem dX10_passHour_69 : decode cX10_passHour 69 = .ok (.invokestatic 54, 3) := by decide +kernel
theorem dX10_passHour_72 : decode cX10_passHour 72 = .ok (.ifCond .eq 18, 3) := by decide +kernel
theorem dX10_passHour_75 : decode cX10_passHour 75 = .ok (.aload_n 0, 1) := by decide +kernel
theorem dX10_passHour_76 : decode cX10_passHour 76 = .ok (.iload_n 1, 1) := by decide +kernel
theorem dX10_passHour_77 : decode cX10_passHour 77 = .ok (.iconst 2, 1) := by decide +kernel
theorem dX10_passHour_78 : decode cX10_passHour 78 = .ok (.invokevirtual 163, 3) := by decide +kernel
theorem dX10_passHour_81 : decode cX10_passHour 81 = .ok (.ifCond .le 9, 3) := by decide +kernel
theorem dX10_passHour_84 : decode cX10_passHour 84 = .ok (.aload_n 0, 1) := by decide +kernel
theorem dX10_passHour_85 : decode cX10_passHour 85 = .ok (.iload_n 1, 1) := by decide +kernel
theorem dX10_passHour_86 : decode cX10_passHour 86 = .ok (.invokevirtual 166, 3) := by decide +kernel
theorem dX10_passHour_89 : decode cX10_passHour 89 = .ok (.pop, 1) := by decide +kernel
theorem dX10_passHour_90 : decode cX10_passHour 90 = .ok (.iinc 1 1, 3) := by decide +kernel
theorem dX10_passHour_93 : decode cX10_passHour 93 = .ok (.goto (-43), 3) := by decide +kernel
theorem dX10_passHour_96 : decode cX10_passHour 96 = .ok (.aload_n 0, 1) := by decide +kernel
theorem dX10_passHour_97 : decode cX10_passHour 97 = .ok (.getfield 22, 3) := by decide +kernel
theorem dX10_passHour_100 : decode cX10_passHour 100 = .ok (.dup, 1) := by decide +kernel
theorem dX10_passHour_101 : decode cX10_passHour 101 = .ok (.getfield 169, 3) := by decide +kernel
theorem dX10_passHour_104 : decode cX10_passHour 104 = .ok (.iconst 1, 1) := by decide +kernel
theorem dX10_passHour_105 : decode cX10_passHour 105 = .ok (.iadd, 1) := by decide +kernel
theorem dX10_passHour_106 : decode cX10_passHour 106 = .ok (.putfield 169, 3) := by decide +kernel
theorem dX10_passHour_109 : decode cX10_passHour 109 = .ok (.return_, 1) := by decide +kernel
theorem dX10_goOn_0 : decode cX10_goOn 0 = .ok (.aload_n 0, 1) := by decide +kernel
theorem dX10_goOn_1 : decode cX10_goOn 1 = .ok (.getfield 22, 3) := by decide +kernel
theorem dX10_goOn_4 : decode cX10_goOn 4 = .ok (.getfield 40, 3) := by decide +kernel
theorem dX10_goOn_7 : decode cX10_goOn 7 = .ok (.iload_n 1, 1) := by decide +kernel
theorem dX10_goOn_8 : decode cX10_goOn 8 = .ok (.invokestatic 54, 3) := by decide +kernel
theorem dX10_goOn_11 : decode cX10_goOn 11 = .ok (.iconst 1, 1) := by decide +kernel
theorem dX10_goOn_12 : decode cX10_goOn 12 = .ok (.iadd, 1) := by decide +kernel
theorem dX10_goOn_13 : decode cX10_goOn 13 = .ok (.istore_n 2, 1) := by decide +kernel
theorem dX10_goOn_14 : decode cX10_goOn 14 = .ok (.iload_n 2, 1) := by decide +kernel
theorem dX10_goOn_15 : decode cX10_goOn 15 = .ok (.aload_n 0, 1) := by decide +kernel
theorem dX10_goOn_16 : decode cX10_goOn 16 = .ok (.getfield 9, 3) := by decide +kernel
theorem dX10_goOn_19 : decode cX10_goOn 19 = .ok (.getfield 79, 3) := by decide +kernel
theorem dX10_goOn_22 : decode cX10_goOn 22 = .ok (.iload_n 1, 1) := by decide +kernel
theorem dX10_goOn_23 : decode cX10_goOn 23 = .ok (.invokestatic 54, 3) := by decide +kernel
theorem dX10_goOn_26 : decode cX10_goOn 26 = .ok (.if_icmp .lt 5, 3) := by decide +kernel
theorem dX10_goOn_29 : decode cX10_goOn 29 = .ok (.iconst 0, 1) := by decide +kernel
theorem dX10_goOn_30 : decode cX10_goOn 30 = .ok (.istore_n 2, 1) := by decide +kernel
theorem dX10_goOn_31 : decode cX10_goOn 31 = .ok (.aload_n 0, 1) := by decide +kernel
theorem dX10_goOn_32 : decode cX10_goOn 32 = .ok (.getfield 22, 3) := by decide +kernel
theorem dX10_goOn_35 : decode cX10_goOn 35 = .ok (.getfield 40, 3) := by decide +kernel
theorem dX10_goOn_38 : decode cX10_goOn 38 = .ok (.iload_n 1, 1) := by decide +kernel
theorem dX10_goOn_39 : decode cX10_goOn 39 = .ok (.iload_n 2, 1) := by decide +kernel
theorem dX10_goOn_40 : decode cX10_goOn 40 = .ok (.invokestatic 44, 3) := by decide +kernel
theorem dX10_goOn_43 : decode cX10_goOn 43 = .ok (.aload_n 0, 1) := by decide +kernel
theorem dX10_goOn_44 : decode cX10_goOn 44 = .ok (.getfield 22, 3) := by decide +kernel
theorem dX10_goOn_47 : decode cX10_goOn 47 = .ok (.getfield 48, 3) := by decide +kernel
theorem dX10_goOn_50 : decode cX10_goOn 50 = .ok (.iload_n 1, 1) := by decide +kernel
theorem dX10_goOn_51 : decode cX10_goOn 51 = .ok (.aload_n 0, 1) := by decide +kernel
theorem dX10_goOn_52 : decode cX10_goOn 52 = .ok (.getfield 9, 3) := by decide +kernel
theorem dX10_goOn_55 : decode cX10_goOn 55 = .ok (.getfield 51, 3) := by decide +kernel
theorem dX10_goOn_58 : decode cX10_goOn 58 = .ok (.iload_n 1, 1) := by decide +kernel
theorem dX10_goOn_59 : decode cX10_goOn 59 = .ok (.bipush 6, 2) := by decide +kernel
theorem dX10_goOn_61 : decode cX10_goOn 61 = .ok (.imul, 1) := by decide +kernel
theorem dX10_goOn_62 : decode cX10_goOn 62 = .ok (.iload_n 2, 1) := by decide +kernel
theorem dX10_goOn_63 : decode cX10_goOn 63 = .ok (.iadd, 1) := by decide +kernel
theorem dX10_goOn_64 : decode cX10_goOn 64 = .ok (.invokestatic 54, 3) := by decide +kernel
theorem dX10_goOn_67 : decode cX10_goOn 67 = .ok (.invokestatic 44, 3) := by decide +kernel
theorem dX10_goOn_70 : decode cX10_goOn 70 = .ok (.return_, 1) := by decide +kernel
theorem dX10_fire_0 : decode cX10_fire 0 = .ok (.aload_n 0, 1) := by decide +kernel
theorem dX10_fire_1 : decode cX10_fire 1 = .ok (.iload_n 1, 1) := by decide +kernel
theorem dX10_fire_2 : decode cX10_fire 2 = .ok (.invokevirtual 172, 3) := by decide +kernel
theorem dX10_fire_5 : decode cX10_fire 5 = .ok (.istore_n 2, 1) := by decide +kernel
theorem dX10_fire_6 : decode cX10_fire 6 = .ok (.iload_n 2, 1) := by decide +kernel
theorem dX10_fire_7 : decode cX10_fire 7 = .ok (.iconst (-1), 1) := by decide +kernel
theorem dX10_fire_8 : decode cX10_fire 8 = .ok (.if_icmp .ne 4, 3) := by decide +kernel
theorem dX10_fire_11 : decode cX10_fire 11 = .ok (.return_, 1) := by decide +kernel
theorem dX10_fire_12 : decode cX10_fire 12 = .ok (.aload_n 0, 1) := by decide +kernel
theorem dX10_fire_13 : decode cX10_fire 13 = .ok (.getfield 22, 3) := by decide +kernel
theorem dX10_fire_16 : decode cX10_fire 16 = .ok (.invokevirtual 175, 3) := by decide +kernel
theorem dX10_fire_19 : decode cX10_fire 19 = .ok (.bipush 100, 2) := by decide +kernel
theorem dX10_fire_21 : decode cX10_fire 21 = .ok (.irem, 1) := by decide +kernel
theorem dX10_fire_22 : decode cX10_fire 22 = .ok (.aload_n 0, 1) := by decide +kernel
theorem dX10_fire_23 : decode cX10_fire 23 = .ok (.iload_n 1, 1) := by decide +kernel
theorem dX10_fire_24 : decode cX10_fire 24 = .ok (.iconst 0, 1) := by decide +kernel
theorem dX10_fire_25 : decode cX10_fire 25 = .ok (.invokevirtual 163, 3) := by decide +kernel
theorem dX10_fire_28 : decode cX10_fire 28 = .ok (.if_icmp .ge 36, 3) := by decide +kernel
theorem dX10_fire_31 : decode cX10_fire 31 = .ok (.aload_n 0, 1) := by decide +kernel
theorem dX10_fire_32 : decode cX10_fire 32 = .ok (.getfield 22, 3) := by decide +kernel
theorem dX10_fire_35 : decode cX10_fire 35 = .ok (.invokevirtual 175, 3) := by decide +kernel
theorem dX10_fire_38 : decode cX10_fire 38 = .ok (.bipush 100, 2) := by decide +kernel
theorem dX10_fire_40 : decode cX10_fire 40 = .ok (.irem, 1) := by decide +kernel
theorem dX10_fire_41 : decode cX10_fire 41 = .ok (.aload_n 0, 1) := by decide +kernel
theorem dX10_fire_42 : decode cX10_fire 42 = .ok (.iload_n 1, 1) := by decide +kernel
theorem dX10_fire_43 : decode cX10_fire 43 = .ok (.iconst 1, 1) := by decide +kernel
theorem dX10_fire_44 : decode cX10_fire 44 = .ok (.invokevirtual 163, 3) := by decide +kernel
theorem dX10_fire_47 : decode cX10_fire 47 = .ok (.if_icmp .ge 7, 3) := by decide +kernel
theorem dX10_fire_50 : decode cX10_fire 50 = .ok (.iconst 1, 1) := by decide +kernel
theorem dX10_fire_51 : decode cX10_fire 51 = .ok (.goto 4, 3) := by decide +kernel
theorem dX10_fire_54 : decode cX10_fire 54 = .ok (.iconst 0, 1) := by decide +kernel
theorem dX10_fire_55 : decode cX10_fire 55 = .ok (.istore_n 3, 1) := by decide +kernel
theorem dX10_fire_56 : decode cX10_fire 56 = .ok (.aload_n 0, 1) := by decide +kernel
theorem dX10_fire_57 : decode cX10_fire 57 = .ok (.iload_n 1, 1) := by decide +kernel
theorem dX10_fire_58 : decode cX10_fire 58 = .ok (.iload_n 2, 1) := by decide +kernel
theorem dX10_fire_59 : decode cX10_fire 59 = .ok (.iload_n 3, 1) := by decide +kernel
theorem dX10_fire_60 : decode cX10_fire 60 = .ok (.invokevirtual 179, 3) := by decide +kernel
theorem dX10_fire_63 : decode cX10_fire 63 = .ok (.pop, 1) := by decide +kernel
theorem dX10_fire_64 : decode cX10_fire 64 = .ok (.return_, 1) := by decide +kernel
theorem dX10_targetOf_0 : decode cX10_targetOf 0 = .ok (.iconst (-1), 1) := by decide +kernel
theorem dX10_targetOf_1 : decode cX10_targetOf 1 = .ok (.istore_n 2, 1) := by decide +kernel
theorem dX10_targetOf_2 : decode cX10_targetOf 2 = .ok (.iconst 0, 1) := by decide +kernel
theorem dX10_targetOf_3 : decode cX10_targetOf 3 = .ok (.istore_n 3, 1) := by decide +kernel
theorem dX10_targetOf_4 : decode cX10_targetOf 4 = .ok (.aload_n 0, 1) := by decide +kernel
theorem dX10_targetOf_5 : decode cX10_targetOf 5 = .ok (.getfield 22, 3) := by decide +kernel
theorem dX10_targetOf_8 : decode cX10_targetOf 8 = .ok (.getfield 64, 3) := by decide +kernel
theorem dX10_targetOf_11 : decode cX10_targetOf 11 = .ok (.iload_n 1, 1) := by decide +kernel
theorem dX10_targetOf_12 : decode cX10_targetOf 12 = .ok (.invokestatic 54, 3) := by decide +kernel
theorem dX10_targetOf_15 : decode cX10_targetOf 15 = .ok (.ifCond .ne 5, 3) := by decide +kernel
theorem dX10_targetOf_18 : decode cX10_targetOf 18 = .ok (.iconst (-1), 1) := by decide +kernel
theorem dX10_targetOf_19 : decode cX10_targetOf 19 = .ok (.ireturn, 1) := by decide +kernel
theorem dX10_targetOf_20 : decode cX10_targetOf 20 = .ok (.iconst 0, 1) := by decide +kernel
theorem dX10_targetOf_21 : decode cX10_targetOf 21 = .ok (.istore 4, 2) := by decide +kernel
theorem dX10_targetOf_23 : decode cX10_targetOf 23 = .ok (.iload 4, 2) := by decide +kernel
theorem dX10_targetOf_25 : decode cX10_targetOf 25 = .ok (.aload_n 0, 1) := by decide +kernel
theorem dX10_targetOf_26 : decode cX10_targetOf 26 = .ok (.getfield 9, 3) := by decide +kernel
theorem dX10_targetOf_29 : decode cX10_targetOf 29 = .ok (.getfield 138, 3) := by decide +kernel
theorem dX10_targetOf_32 : decode cX10_targetOf 32 = .ok (.if_icmp .ge 55, 3) := by decide +kernel
theorem dX10_targetOf_35 : decode cX10_targetOf 35 = .ok (.aload_n 0, 1) := by decide +kernel
theorem dX10_targetOf_36 : decode cX10_targetOf 36 = .ok (.getfield 22, 3) := by decide +kernel
theorem dX10_targetOf_39 : decode cX10_targetOf 39 = .ok (.getfield 58, 3) := by decide +kernel
theorem dX10_targetOf_42 : decode cX10_targetOf 42 = .ok (.iload 4, 2) := by decide +kernel
theorem dX10_targetOf_44 : decode cX10_targetOf 44 = .ok (.invokestatic 54, 3) := by decide +kernel
theorem dX10_targetOf_47 : decode cX10_targetOf 47 = .ok (.istore 5, 2) := by decide +kernel
theorem dX10_targetOf_49 : decode cX10_targetOf 49 = .ok (.iload 5, 2) := by decide +kernel
theorem dX10_targetOf_51 : decode cX10_targetOf 51 = .ok (.iload_n 3, 1) := by decide +kernel
theorem dX10_targetOf_52 : decode cX10_targetOf 52 = .ok (.if_icmp .le 29, 3) := by decide +kernel
theorem dX10_targetOf_55 : decode cX10_targetOf 55 = .ok (.aload_n 0, 1) := by decide +kernel
theorem dX10_targetOf_56 : decode cX10_targetOf 56 = .ok (.iload_n 1, 1) := by decide +kernel
theorem dX10_targetOf_57 : decode cX10_targetOf 57 = .ok (.iload 4, 2) := by decide +kernel
theorem dX10_targetOf_59 : decode cX10_targetOf 59 = .ok (.invokevirtual 141, 3) := by decide +kernel
theorem dX10_targetOf_62 : decode cX10_targetOf 62 = .ok (.ifCond .ne 19, 3) := by decide +kernel
theorem dX10_targetOf_65 : decode cX10_targetOf 65 = .ok (.aload_n 0, 1) := by decide +kernel
theorem dX10_targetOf_66 : decode cX10_targetOf 66 = .ok (.iload_n 1, 1) := by decide +kernel
theorem dX10_targetOf_67 : decode cX10_targetOf 67 = .ok (.iload 4, 2) := by decide +kernel
theorem dX10_targetOf_69 : decode cX10_targetOf 69 = .ok (.invokevirtual 144, 3) := by decide +kernel
theorem dX10_targetOf_72 : decode cX10_targetOf 72 = .ok (.ifCond .eq 9, 3) := by decide +kernel
theorem dX10_targetOf_75 : decode cX10_targetOf 75 = .ok (.iload 4, 2) := by decide +kernel
theorem dX10_targetOf_77 : decode cX10_targetOf 77 = .ok (.istore_n 2, 1) := by decide +kernel
theorem dX10_targetOf_78 : decode cX10_targetOf 78 = .ok (.iload 5, 2) := by decide +kernel
theorem dX10_targetOf_80 : decode cX10_targetOf 80 = .ok (.istore_n 3, 1) := by decide +kernel
theorem dX10_targetOf_81 : decode cX10_targetOf 81 = .ok (.iinc 4 1, 3) := by decide +kernel
theorem dX10_targetOf_84 : decode cX10_targetOf 84 = .ok (.goto (-61), 3) := by decide +kernel
theorem dX10_targetOf_87 : decode cX10_targetOf 87 = .ok (.iload_n 2, 1) := by decide +kernel
theorem dX10_targetOf_88 : decode cX10_targetOf 88 = .ok (.ireturn, 1) := by decide +kernel
theorem dX10_ruled_0 : decode cX10_ruled 0 = .ok (.aload_n 0, 1) := by decide +kernel
theorem dX10_ruled_1 : decode cX10_ruled 1 = .ok (.getfield 15, 3) := by decide +kernel
theorem dX10_ruled_4 : decode cX10_ruled 4 = .ok (.getfield 183, 3) := by decide +kernel
theorem dX10_ruled_7 : decode cX10_ruled 7 = .ok (.iconst (-1), 1) := by decide +kernel
theorem dX10_ruled_8 : decode cX10_ruled 8 = .ok (.if_icmp .ne 12, 3) := by decide +kernel
theorem dX10_ruled_11 : decode cX10_ruled 11 = .ok (.aload_n 0, 1) := by decide +kernel
theorem dX10_ruled_12 : decode cX10_ruled 12 = .ok (.getfield 15, 3) := by decide +kernel
theorem dX10_ruled_15 : decode cX10_ruled 15 = .ok (.iload_n 2, 1) := by decide +kernel
theorem dX10_ruled_16 : decode cX10_ruled 16 = .ok (.invokevirtual 186, 3) := by decide +kernel
theorem dX10_ruled_19 : decode cX10_ruled 19 = .ok (.ireturn, 1) := by decide +kernel
theorem dX10_ruled_20 : decode cX10_ruled 20 = .ok (.iconst 0, 1) := by decide +kernel
theorem dX10_ruled_21 : decode cX10_ruled 21 = .ok (.istore_n 3, 1) := by decide +kernel
theorem dX10_ruled_22 : decode cX10_ruled 22 = .ok (.iconst 0, 1) := by decide +kernel
theorem dX10_ruled_23 : decode cX10_ruled 23 = .ok (.istore 4, 2) := by decide +kernel
theorem dX10_ruled_25 : decode cX10_ruled 25 = .ok (.iconst 0, 1) := by decide +kernel
theorem dX10_ruled_26 : decode cX10_ruled 26 = .ok (.istore 5, 2) := by decide +kernel
theorem dX10_ruled_28 : decode cX10_ruled 28 = .ok (.iload 5, 2) := by decide +kernel
theorem dX10_ruled_30 : decode cX10_ruled 30 = .ok (.aload_n 0, 1) := by decide +kernel
theorem dX10_ruled_31 : decode cX10_ruled 31 = .ok (.getfield 9, 3) := by decide +kernel
theorem dX10_ruled_34 : decode cX10_ruled 34 = .ok (.getfield 138, 3) := by decide +kernel
theorem dX10_ruled_37 : decode cX10_ruled 37 = .ok (.if_icmp .ge 44, 3) := by decide +kernel
theorem dX10_ruled_40 : decode cX10_ruled 40 = .ok (.iload 5, 2) := by decide +kernel
theorem dX10_ruled_42 : decode cX10_ruled 42 = .ok (.iload_n 1, 1) := by decide +kernel
theorem dX10_ruled_43 : decode cX10_ruled 43 = .ok (.if_icmp .eq 32, 3) := by decide +kernel
theorem dX10_ruled_46 : decode cX10_ruled 46 = .ok (.aload_n 0, 1) := by decide +kernel
theorem dX10_ruled_47 : decode cX10_ruled 47 = .ok (.iload_n 1, 1) := by decide +kernel
theorem dX10_ruled_48 : decode cX10_ruled 48 = .ok (.iload 5, 2) := by decide +kernel
theorem dX10_ruled_50 : decode cX10_ruled 50 = .ok (.invokevirtual 144, 3) := by decide +kernel
theorem dX10_ruled_53 : decode cX10_ruled 53 = .ok (.ifCond .eq 22, 3) := by decide +kernel
theorem dX10_ruled_56 : decode cX10_ruled 56 = .ok (.aload_n 0, 1) := by decide +kernel
theorem dX10_ruled_57 : decode cX10_ruled 57 = .ok (.iload_n 1, 1) := by decide +kernel
theorem dX10_ruled_58 : decode cX10_ruled 58 = .ok (.iload 5, 2) := by decide +kernel
theorem dX10_ruled_60 : decode cX10_ruled 60 = .ok (.invokevirtual 141, 3) := by decide +kernel
theorem dX10_ruled_63 : decode cX10_ruled 63 = .ok (.ifCond .eq 9, 3) := by decide +kernel
theorem dX10_ruled_66 : decode cX10_ruled 66 = .ok (.iinc 4 1, 3) := by decide +kernel
theorem dX10_ruled_69 : decode cX10_ruled 69 = .ok (.goto 6, 3) := by decide +kernel
theorem dX10_ruled_72 : decode cX10_ruled 72 = .ok (.iinc 3 1, 3) := by decide +kernel
theorem dX10_ruled_75 : decode cX10_ruled 75 = .ok (.iinc 5 1, 3) := by decide +kernel
theorem dX10_ruled_78 : decode cX10_ruled 78 = .ok (.goto (-50), 3) := by decide +kernel
theorem dX10_ruled_81 : decode cX10_ruled 81 = .ok (.aload_n 0, 1) := by decide +kernel
theorem dX10_ruled_82 : decode cX10_ruled 82 = .ok (.getfield 15, 3) := by decide +kernel
theorem dX10_ruled_85 : decode cX10_ruled 85 = .ok (.getfield 189, 3) := by decide +kernel
theorem dX10_ruled_88 : decode cX10_ruled 88 = .ok (.iconst 0, 1) := by decide +kernel
theorem dX10_ruled_89 : decode cX10_ruled 89 = .ok (.iload_n 1, 1) := by decide +kernel
theorem dX10_ruled_90 : decode cX10_ruled 90 = .ok (.iastore, 1) := by decide +kernel
theorem dX10_ruled_91 : decode cX10_ruled 91 = .ok (.aload_n 0, 1) := by decide +kernel
theorem dX10_ruled_92 : decode cX10_ruled 92 = .ok (.getfield 15, 3) := by decide +kernel
theorem dX10_ruled_95 : decode cX10_ruled 95 = .ok (.getfield 189, 3) := by decide +kernel
theorem dX10_ruled_98 : decode cX10_ruled 98 = .ok (.iconst 1, 1) := by decide +kernel
theorem dX10_ruled_99 : decode cX10_ruled 99 = .ok (.aload_n 0, 1) := by decide +kernel
theorem dX10_ruled_100 : decode cX10_ruled 100 = .ok (.getfield 9, 3) := by decide +kernel
theorem dX10_ruled_103 : decode cX10_ruled 103 = .ok (.getfield 88, 3) := by decide +kernel
theorem dX10_ruled_106 : decode cX10_ruled 106 = .ok (.iload_n 1, 1) := by decide +kernel
theorem dX10_ruled_107 : decode cX10_ruled 107 = .ok (.invokestatic 54, 3) := by decide +kernel
theorem dX10_ruled_110 : decode cX10_ruled 110 = .ok (.iastore, 1) := by decide +kernel
theorem dX10_ruled_111 : decode cX10_ruled 111 = .ok (.aload_n 0, 1) := by decide +kernel
theorem dX10_ruled_112 : decode cX10_ruled 112 = .ok (.getfield 15, 3) := by decide +kernel
theorem dX10_ruled_115 : decode cX10_ruled 115 = .ok (.getfield 189, 3) := by decide +kernel
theorem dX10_ruled_118 : decode cX10_ruled 118 = .ok (.iconst 2, 1) := by decide +kernel
theorem dX10_ruled_119 : decode cX10_ruled 119 = .ok (.aload_n 0, 1) := by decide +kernel
theorem dX10_ruled_120 : decode cX10_ruled 120 = .ok (.getfield 22, 3) := by decide +kernel
theorem dX10_ruled_123 : decode cX10_ruled 123 = .ok (.getfield 48, 3) := by decide +kernel
theorem dX10_ruled_126 : decode cX10_ruled 126 = .ok (.iload_n 1, 1) := by decide +kernel
theorem dX10_ruled_127 : decode cX10_ruled 127 = .ok (.invokestatic 54, 3) := by decide +kernel
theorem dX10_ruled_130 : decode cX10_ruled 130 = .ok (.iastore, 1) := by decide +kernel
theorem dX10_ruled_131 : decode cX10_ruled 131 = .ok (.aload_n 0, 1) := by decide +kernel
theorem dX10_ruled_132 : decode cX10_ruled 132 = .ok (.getfield 15, 3) := by decide +kernel
theorem dX10_ruled_135 : decode cX10_ruled 135 = .ok (.getfield 189, 3) := by decide +kernel
theorem dX10_ruled_138 : decode cX10_ruled 138 = .ok (.iconst 3, 1) := by decide +kernel
theorem dX10_ruled_139 : decode cX10_ruled 139 = .ok (.aload_n 0, 1) := by decide +kernel
theorem dX10_ruled_140 : decode cX10_ruled 140 = .ok (.getfield 22, 3) := by decide +kernel
theorem dX10_ruled_143 : decode cX10_ruled 143 = .ok (.getfield 169, 3) := by decide +kernel
theorem dX10_ruled_146 : decode cX10_ruled 146 = .ok (.iastore, 1) := by decide +kernel
theorem dX10_ruled_147 : decode cX10_ruled 147 = .ok (.aload_n 0, 1) := by decide +kernel
theorem dX10_ruled_148 : decode cX10_ruled 148 = .ok (.getfield 15, 3) := by decide +kernel
theorem dX10_ruled_151 : decode cX10_ruled 151 = .ok (.getfield 189, 3) := by decide +kernel
theorem dX10_ruled_154 : decode cX10_ruled 154 = .ok (.iconst 4, 1) := by decide +kernel
theorem dX10_ruled_155 : decode cX10_ruled 155 = .ok (.aload_n 0, 1) := by decide +kernel
theorem dX10_ruled_156 : decode cX10_ruled 156 = .ok (.getfield 22, 3) := by decide +kernel
theorem dX10_ruled_159 : decode cX10_ruled 159 = .ok (.getfield 58, 3) := by decide +kernel
theorem dX10_ruled_162 : decode cX10_ruled 162 = .ok (.iload_n 1, 1) := by decide +kernel
theorem dX10_ruled_163 : decode cX10_ruled 163 = .ok (.invokestatic 54, 3) := by decide +kernel
theorem dX10_ruled_166 : decode cX10_ruled 166 = .ok (.iastore, 1) := by decide +kernel
theorem dX10_ruled_167 : decode cX10_ruled 167 = .ok (.aload_n 0, 1) := by decide +kernel
theorem dX10_ruled_168 : decode cX10_ruled 168 = .ok (.getfield 15, 3) := by decide +kernel
theorem dX10_ruled_171 : decode cX10_ruled 171 = .ok (.getfield 189, 3) := by decide +kernel
theorem dX10_ruled_174 : decode cX10_ruled 174 = .ok (.iconst 5, 1) := by decide +kernel
theorem dX10_ruled_175 : decode cX10_ruled 175 = .ok (.aload_n 0, 1) := by decide +kernel
theorem dX10_ruled_176 : decode cX10_ruled 176 = .ok (.getfield 22, 3) := by decide +kernel
theorem dX10_ruled_179 : decode cX10_ruled 179 = .ok (.getfield 64, 3) := by decide +kernel
theorem dX10_ruled_182 : decode cX10_ruled 182 = .ok (.iload_n 1, 1) := by decide +kernel
theorem dX10_ruled_183 : decode cX10_ruled 183 = .ok (.invokestatic 54, 3) := by decide +kernel
theorem dX10_ruled_186 : decode cX10_ruled 186 = .ok (.invokestatic 107, 3) := by decide +kernel
theorem dX10_ruled_189 : decode cX10_ruled 189 = .ok (.iastore, 1) := by decide +kernel
theorem dX10_ruled_190 : decode cX10_ruled 190 = .ok (.aload_n 0, 1) := by decide +kernel
theorem dX10_ruled_191 : decode cX10_ruled 191 = .ok (.getfield 15, 3) := by decide +kernel
theorem dX10_ruled_194 : decode cX10_ruled 194 = .ok (.getfield 189, 3) := by decide +kernel
theorem dX10_ruled_197 : decode cX10_ruled 197 = .ok (.bipush 6, 2) := by decide +kernel
theorem dX10_ruled_199 : decode cX10_ruled 199 = .ok (.iload_n 3, 1) := by decide +kernel
theorem dX10_ruled_200 : decode cX10_ruled 200 = .ok (.iastore, 1) := by decide +kernel
theorem dX10_ruled_201 : decode cX10_ruled 201 = .ok (.aload_n 0, 1) := by decide +kernel
theorem dX10_ruled_202 : decode cX10_ruled 202 = .ok (.getfield 15, 3) := by decide +kernel
theorem dX10_ruled_205 : decode cX10_ruled 205 = .ok (.getfield 189, 3) := by decide +kernel
theorem dX10_ruled_208 : decode cX10_ruled 208 = .ok (.bipush 7, 2) := by decide +kernel
theorem dX10_ruled_210 : decode cX10_ruled 210 = .ok (.iload 4, 2) := by decide +kernel
theorem dX10_ruled_212 : decode cX10_ruled 212 = .ok (.ifCond .ne 7, 3) := by decide +kernel
theorem dX10_ruled_215 : decode cX10_ruled 215 = .ok (.iconst 1, 1) := by decide +kernel
theorem dX10_ruled_216 : decode cX10_ruled 216 = .ok (.goto 4, 3) := by decide +kernel
theorem dX10_ruled_219 : decode cX10_ruled 219 = .ok (.iconst 0, 1) := by decide +kernel
theorem dX10_ruled_220 : decode cX10_ruled 220 = .ok (.iastore, 1) := by decide +kernel
theorem dX10_ruled_221 : decode cX10_ruled 221 = .ok (.aload_n 0, 1) := by decide +kernel
theorem dX10_ruled_222 : decode cX10_ruled 222 = .ok (.getfield 15, 3) := by decide +kernel
theorem dX10_ruled_225 : decode cX10_ruled 225 = .ok (.iload_n 2, 1) := by decide +kernel
theorem dX10_ruled_226 : decode cX10_ruled 226 = .ok (.invokevirtual 192, 3) := by decide +kernel
theorem dX10_ruled_229 : decode cX10_ruled 229 = .ok (.ireturn, 1) := by decide +kernel
theorem dX10_whoKnow_0 : decode cX10_whoKnow 0 = .ok (.iconst 0, 1) := by decide +kernel
theorem dX10_whoKnow_1 : decode cX10_whoKnow 1 = .ok (.istore_n 2, 1) := by decide +kernel
theorem dX10_whoKnow_2 : decode cX10_whoKnow 2 = .ok (.iconst 0, 1) := by decide +kernel
theorem dX10_whoKnow_3 : decode cX10_whoKnow 3 = .ok (.istore_n 3, 1) := by decide +kernel
theorem dX10_whoKnow_4 : decode cX10_whoKnow 4 = .ok (.iload_n 3, 1) := by decide +kernel
theorem dX10_whoKnow_5 : decode cX10_whoKnow 5 = .ok (.aload_n 0, 1) := by decide +kernel
theorem dX10_whoKnow_6 : decode cX10_whoKnow 6 = .ok (.getfield 9, 3) := by decide +kernel
theorem dX10_whoKnow_9 : decode cX10_whoKnow 9 = .ok (.getfield 138, 3) := by decide +kernel
theorem dX10_whoKnow_12 : decode cX10_whoKnow 12 = .ok (.if_icmp .ge 33, 3) := by decide +kernel
theorem dX10_whoKnow_15 : decode cX10_whoKnow 15 = .ok (.aload_n 0, 1) := by decide +kernel
theorem dX10_whoKnow_16 : decode cX10_whoKnow 16 = .ok (.getfield 22, 3) := by decide +kernel
theorem dX10_whoKnow_19 : decode cX10_whoKnow 19 = .ok (.getfield 61, 3) := by decide +kernel
theorem dX10_whoKnow_22 : decode cX10_whoKnow 22 = .ok (.iload_n 3, 1) := by decide +kernel
theorem dX10_whoKnow_23 : decode cX10_whoKnow 23 = .ok (.invokestatic 54, 3) := by decide +kernel
theorem dX10_whoKnow_26 : decode cX10_whoKnow 26 = .ok (.iload_n 1, 1) := by decide +kernel
theorem dX10_whoKnow_27 : decode cX10_whoKnow 27 = .ok (.invokestatic 67, 3) := by decide +kernel
theorem dX10_whoKnow_30 : decode cX10_whoKnow 30 = .ok (.ifCond .eq 9, 3) := by decide +kernel
theorem dX10_whoKnow_33 : decode cX10_whoKnow 33 = .ok (.iload_n 2, 1) := by decide +kernel
theorem dX10_whoKnow_34 : decode cX10_whoKnow 34 = .ok (.iconst 1, 1) := by decide +kernel
theorem dX10_whoKnow_35 : decode cX10_whoKnow 35 = .ok (.iload_n 3, 1) := by decide +kernel
theorem dX10_whoKnow_36 : decode cX10_whoKnow 36 = .ok (.ishl, 1) := by decide +kernel
theorem dX10_whoKnow_37 : decode cX10_whoKnow 37 = .ok (.ior, 1) := by decide +kernel
theorem dX10_whoKnow_38 : decode cX10_whoKnow 38 = .ok (.istore_n 2, 1) := by decide +kernel
theorem dX10_whoKnow_39 : decode cX10_whoKnow 39 = .ok (.iinc 3 1, 3) := by decide +kernel
theorem dX10_whoKnow_42 : decode cX10_whoKnow 42 = .ok (.goto (-38), 3) := by decide +kernel
theorem dX10_whoKnow_45 : decode cX10_whoKnow 45 = .ok (.iload_n 2, 1) := by decide +kernel
theorem dX10_whoKnow_46 : decode cX10_whoKnow 46 = .ok (.ireturn, 1) := by decide +kernel
theorem dX10_whoUse_0 : decode cX10_whoUse 0 = .ok (.iconst 0, 1) := by decide +kernel
theorem dX10_whoUse_1 : decode cX10_whoUse 1 = .ok (.istore_n 2, 1) := by decide +kernel
theorem dX10_whoUse_2 : decode cX10_whoUse 2 = .ok (.iconst 0, 1) := by decide +kernel
theorem dX10_whoUse_3 : decode cX10_whoUse 3 = .ok (.istore_n 3, 1) := by decide +kernel
theorem dX10_whoUse_4 : decode cX10_whoUse 4 = .ok (.iload_n 3, 1) := by decide +kernel
theorem dX10_whoUse_5 : decode cX10_whoUse 5 = .ok (.aload_n 0, 1) := by decide +kernel
theorem dX10_whoUse_6 : decode cX10_whoUse 6 = .ok (.getfield 9, 3) := by decide +kernel
theorem dX10_whoUse_9 : decode cX10_whoUse 9 = .ok (.getfield 138, 3) := by decide +kernel
theorem dX10_whoUse_12 : decode cX10_whoUse 12 = .ok (.if_icmp .ge 24, 3) := by decide +kernel
theorem dX10_whoUse_15 : decode cX10_whoUse 15 = .ok (.aload_n 0, 1) := by decide +kernel
theorem dX10_whoUse_16 : decode cX10_whoUse 16 = .ok (.iload_n 3, 1) := by decide +kernel
theorem dX10_whoUse_17 : decode cX10_whoUse 17 = .ok (.iload_n 1, 1) := by decide +kernel
theorem dX10_whoUse_18 : decode cX10_whoUse 18 = .ok (.invokevirtual 195, 3) := by decide +kernel
theorem dX10_whoUse_21 : decode cX10_whoUse 21 = .ok (.ifCond .eq 9, 3) := by decide +kernel
theorem dX10_whoUse_24 : decode cX10_whoUse 24 = .ok (.iload_n 2, 1) := by decide +kernel
theorem dX10_whoUse_25 : decode cX10_whoUse 25 = .ok (.iconst 1, 1) := by decide +kernel
theorem dX10_whoUse_26 : decode cX10_whoUse 26 = .ok (.iload_n 3, 1) := by decide +kernel
theorem dX10_whoUse_27 : decode cX10_whoUse 27 = .ok (.ishl, 1) := by decide +kernel
theorem dX10_whoUse_28 : decode cX10_whoUse 28 = .ok (.ior, 1) := by decide +kernel
theorem dX10_whoUse_29 : decode cX10_whoUse 29 = .ok (.istore_n 2, 1) := by decide +kernel
theorem dX10_whoUse_30 : decode cX10_whoUse 30 = .ok (.iinc 3 1, 3) := by decide +kernel
theorem dX10_whoUse_33 : decode cX10_whoUse 33 = .ok (.goto (-29), 3) := by decide +kernel
theorem dX10_whoUse_36 : decode cX10_whoUse 36 = .ok (.iload_n 2, 1) := by decide +kernel
theorem dX10_whoUse_37 : decode cX10_whoUse 37 = .ok (.ireturn, 1) := by decide +kernel
theorem dX10_sideBits_0 : decode cX10_sideBits 0 = .ok (.iconst 0, 1) := by decide +kernel
theorem dX10_sideBits_1 : decode cX10_sideBits 1 = .ok (.istore_n 2, 1) := by decide +kernel
theorem dX10_sideBits_2 : decode cX10_sideBits 2 = .ok (.iconst 0, 1) := by decide +kernel
theorem dX10_sideBits_3 : decode cX10_sideBits 3 = .ok (.istore_n 3, 1) := by decide +kernel
theorem dX10_sideBits_4 : decode cX10_sideBits 4 = .ok (.iload_n 3, 1) := by decide +kernel
theorem dX10_sideBits_5 : decode cX10_sideBits 5 = .ok (.aload_n 0, 1) := by decide +kernel
theorem dX10_sideBits_6 : decode cX10_sideBits 6 = .ok (.getfield 9, 3) := by decide +kernel
theorem dX10_sideBits_9 : decode cX10_sideBits 9 = .ok (.getfield 138, 3) := by decide +kernel
theorem dX10_sideBits_12 : decode cX10_sideBits 12 = .ok (.if_icmp .ge 30, 3) := by decide +kernel
theorem dX10_sideBits_15 : decode cX10_sideBits 15 = .ok (.aload_n 0, 1) := by decide +kernel
theorem dX10_sideBits_16 : decode cX10_sideBits 16 = .ok (.getfield 9, 3) := by decide +kernel
theorem dX10_sideBits_19 : decode cX10_sideBits 19 = .ok (.getfield 88, 3) := by decide +kernel
theorem dX10_sideBits_22 : decode cX10_sideBits 22 = .ok (.iload_n 3, 1) := by decide +kernel
theorem dX10_sideBits_23 : decode cX10_sideBits 23 = .ok (.invokestatic 54, 3) := by decide +kernel
theorem dX10_sideBits_26 : decode cX10_sideBits 26 = .ok (.iload_n 1, 1) := by decide +kernel
theorem dX10_sideBits_27 : decode cX10_sideBits 27 = .ok (.if_icmp .ne 9, 3) := by decide +kernel
theorem dX10_sideBits_30 : decode cX10_sideBits 30 = .ok (.iload_n 2, 1) := by decide +kernel
theorem dX10_sideBits_31 : decode cX10_sideBits 31 = .ok (.iconst 1, 1) := by decide +kernel
theorem dX10_sideBits_32 : decode cX10_sideBits 32 = .ok (.iload_n 3, 1) := by decide +kernel
theorem dX10_sideBits_33 : decode cX10_sideBits 33 = .ok (.ishl, 1) := by decide +kernel
theorem dX10_sideBits_34 : decode cX10_sideBits 34 = .ok (.ior, 1) := by decide +kernel
theorem dX10_sideBits_35 : decode cX10_sideBits 35 = .ok (.istore_n 2, 1) := by decide +kernel
theorem dX10_sideBits_36 : decode cX10_sideBits 36 = .ok (.iinc 3 1, 3) := by decide +kernel
theorem dX10_sideBits_39 : decode cX10_sideBits 39 = .ok (.goto (-35), 3) := by decide +kernel
theorem dX10_sideBits_42 : decode cX10_sideBits 42 = .ok (.iload_n 2, 1) := by decide +kernel
theorem dX10_sideBits_43 : decode cX10_sideBits 43 = .ok (.ireturn, 1) := by decide +kernel
theorem dX10_usableBySide_0 : decode cX10_usableBySide 0 = .ok (.iconst 0, 1) := by decide +kernel
theorem dX10_usableBySide_1 : decode cX10_usableBySide 1 = .ok (.istore_n 2, 1) := by decide +kernel
theorem dX10_usableBySide_2 : decode cX10_usableBySide 2 = .ok (.iconst 0, 1) := by decide +kernel
theorem dX10_usableBySide_3 : decode cX10_usableBySide 3 = .ok (.istore_n 3, 1) := by decide +kernel
theorem dX10_usableBySide_4 : decode cX10_usableBySide 4 = .ok (.iload_n 3, 1) := by decide +kernel
theorem dX10_usableBySide_5 : decode cX10_usableBySide 5 = .ok (.aload_n 0, 1) := by decide +kernel
theorem dX10_usableBySide_6 : decode cX10_usableBySide 6 = .ok (.getfield 9, 3) := by decide +kernel
theorem dX10_usableBySide_9 : decode cX10_usableBySide 9 = .ok (.getfield 138, 3) := by decide +kernel
theorem dX10_usableBySide_12 : decode cX10_usableBySide 12 = .ok (.if_icmp .ge 38, 3) := by decide +kernel
theorem dX10_usableBySide_15 : decode cX10_usableBySide 15 = .ok (.aload_n 0, 1) := by decide +kernel
theorem dX10_usableBySide_16 : decode cX10_usableBySide 16 = .ok (.getfield 9, 3) := by decide +kernel
theorem dX10_usableBySide_19 : decode cX10_usableBySide 19 = .ok (.getfield 88, 3) := by decide +kernel
theorem dX10_usableBySide_22 : decode cX10_usableBySide 22 = .ok (.iload_n 3, 1) := by decide +kernel
theorem dX10_usableBySide_23 : decode cX10_usableBySide 23 = .ok (.invokestatic 54, 3) := by decide +kernel
theorem dX10_usableBySide_26 : decode cX10_usableBySide 26 = .ok (.iload_n 1, 1) := by decide +kernel
theorem dX10_usableBySide_27 : decode cX10_usableBySide 27 = .ok (.if_icmp .ne 17, 3) := by decide +kernel
theorem dX10_usableBySide_30 : decode cX10_usableBySide 30 = .ok (.iload_n 2, 1) := by decide +kernel
theorem dX10_usableBySide_31 : decode cX10_usableBySide 31 = .ok (.aload_n 0, 1) := by decide +kernel
theorem dX10_usableBySide_32 : decode cX10_usableBySide 32 = .ok (.getfield 22, 3) := by decide +kernel
theorem dX10_usableBySide_35 : decode cX10_usableBySide 35 = .ok (.getfield 64, 3) := by decide +kernel
theorem dX10_usableBySide_38 : decode cX10_usableBySide 38 = .ok (.iload_n 3, 1) := by decide +kernel
theorem dX10_usableBySide_39 : decode cX10_usableBySide 39 = .ok (.invokestatic 54, 3) := by decide +kernel
theorem dX10_usableBySide_42 : decode cX10_usableBySide 42 = .ok (.ior, 1) := by decide +kernel
theorem dX10_usableBySide_43 : decode cX10_usableBySide 43 = .ok (.istore_n 2, 1) := by decide +kernel
theorem dX10_usableBySide_44 : decode cX10_usableBySide 44 = .ok (.iinc 3 1, 3) := by decide +kernel
theorem dX10_usableBySide_47 : decode cX10_usableBySide 47 = .ok (.goto (-43), 3) := by decide +kernel
theorem dX10_usableBySide_50 : decode cX10_usableBySide 50 = .ok (.iload_n 2, 1) := by decide +kernel
theorem dX10_usableBySide_51 : decode cX10_usableBySide 51 = .ok (.ireturn, 1) := by decide +kernel
theorem dX10_usableInAll_0 : decode cX10_usableInAll 0 = .ok (.iconst 0, 1) := by decide +kernel
theorem dX10_usableInAll_1 : decode cX10_usableInAll 1 = .ok (.istore_n 2, 1) := by decide +kernel
theorem dX10_usableInAll_2 : decode cX10_usableInAll 2 = .ok (.iconst 0, 1) := by decide +kernel
theorem dX10_usableInAll_3 : decode cX10_usableInAll 3 = .ok (.istore_n 3, 1) := by decide +kernel
theorem dX10_usableInAll_4 : decode cX10_usableInAll 4 = .ok (.iload_n 3, 1) := by decide +kernel
theorem dX10_usableInAll_5 : decode cX10_usableInAll 5 = .ok (.aload_n 0, 1) := by decide +kernel
theorem dX10_usableInAll_6 : decode cX10_usableInAll 6 = .ok (.getfield 9, 3) := by decide +kernel
theorem dX10_usableInAll_9 : decode cX10_usableInAll 9 = .ok (.getfield 138, 3) := by decide +kernel
theorem dX10_usableInAll_12 : decode cX10_usableInAll 12 = .ok (.if_icmp .ge 41, 3) := by decide +kernel
theorem dX10_usableInAll_15 : decode cX10_usableInAll 15 = .ok (.aload_n 0, 1) := by decide +kernel
theorem dX10_usableInAll_16 : decode cX10_usableInAll 16 = .ok (.getfield 9, 3) := by decide +kernel
theorem dX10_usableInAll_19 : decode cX10_usableInAll 19 = .ok (.getfield 88, 3) := by decide +kernel
theorem dX10_usableInAll_22 : decode cX10_usableInAll 22 = .ok (.iload_n 3, 1) := by decide +kernel
theorem dX10_usableInAll_23 : decode cX10_usableInAll 23 = .ok (.invokestatic 54, 3) := by decide +kernel
theorem dX10_usableInAll_26 : decode cX10_usableInAll 26 = .ok (.iload_n 1, 1) := by decide +kernel
theorem dX10_usableInAll_27 : decode cX10_usableInAll 27 = .ok (.if_icmp .ne 20, 3) := by decide +kernel
theorem dX10_usableInAll_30 : decode cX10_usableInAll 30 = .ok (.iload_n 2, 1) := by decide +kernel
theorem dX10_usableInAll_31 : decode cX10_usableInAll 31 = .ok (.aload_n 0, 1) := by decide +kernel
theorem dX10_usableInAll_32 : decode cX10_usableInAll 32 = .ok (.getfield 22, 3) := by decide +kernel
theorem dX10_usableInAll_35 : decode cX10_usableInAll 35 = .ok (.getfield 64, 3) := by decide +kernel
theorem dX10_usableInAll_38 : decode cX10_usableInAll 38 = .ok (.iload_n 3, 1) := by decide +kernel
theorem dX10_usableInAll_39 : decode cX10_usableInAll 39 = .ok (.invokestatic 54, 3) := by decide +kernel
theorem dX10_usableInAll_42 : decode cX10_usableInAll 42 = .ok (.invokestatic 107, 3) := by decide +kernel
theorem dX10_usableInAll_45 : decode cX10_usableInAll 45 = .ok (.iadd, 1) := by decide +kernel
theorem dX10_usableInAll_46 : decode cX10_usableInAll 46 = .ok (.istore_n 2, 1) := by decide +kernel
theorem dX10_usableInAll_47 : decode cX10_usableInAll 47 = .ok (.iinc 3 1, 3) := by decide +kernel
theorem dX10_usableInAll_50 : decode cX10_usableInAll 50 = .ok (.goto (-46), 3) := by decide +kernel
theorem dX10_usableInAll_53 : decode cX10_usableInAll 53 = .ok (.iload_n 2, 1) := by decide +kernel
theorem dX10_usableInAll_54 : decode cX10_usableInAll 54 = .ok (.ireturn, 1) := by decide +kernel
theorem dX10_knownInAll_0 : decode cX10_knownInAll 0 = .ok (.iconst 0, 1) := by decide +kernel
theorem dX10_knownInAll_1 : decode cX10_knownInAll 1 = .ok (.istore_n 1, 1) := by decide +kernel
theorem dX10_knownInAll_2 : decode cX10_knownInAll 2 = .ok (.iconst 0, 1) := by decide +kernel
theorem dX10_knownInAll_3 : decode cX10_knownInAll 3 = .ok (.istore_n 2, 1) := by decide +kernel
theorem dX10_knownInAll_4 : decode cX10_knownInAll 4 = .ok (.iload_n 2, 1) := by decide +kernel
theorem dX10_knownInAll_5 : decode cX10_knownInAll 5 = .ok (.aload_n 0, 1) := by decide +kernel
theorem dX10_knownInAll_6 : decode cX10_knownInAll 6 = .ok (.getfield 9, 3) := by decide +kernel
theorem dX10_knownInAll_9 : decode cX10_knownInAll 9 = .ok (.getfield 138, 3) := by decide +kernel
theorem dX10_knownInAll_12 : decode cX10_knownInAll 12 = .ok (.if_icmp .ge 23, 3) := by decide +kernel
theorem dX10_knownInAll_15 : decode cX10_knownInAll 15 = .ok (.iload_n 1, 1) := by decide +kernel
theorem dX10_knownInAll_16 : decode cX10_knownInAll 16 = .ok (.aload_n 0, 1) := by decide +kernel
theorem dX10_knownInAll_17 : decode cX10_knownInAll 17 = .ok (.getfield 22, 3) := by decide +kernel
theorem dX10_knownInAll_20 : decode cX10_knownInAll 20 = .ok (.getfield 58, 3) := by decide +kernel
theorem dX10_knownInAll_23 : decode cX10_knownInAll 23 = .ok (.iload_n 2, 1) := by decide +kernel
theorem dX10_knownInAll_24 : decode cX10_knownInAll 24 = .ok (.invokestatic 54, 3) := by decide +kernel
theorem dX10_knownInAll_27 : decode cX10_knownInAll 27 = .ok (.iadd, 1) := by decide +kernel
theorem dX10_knownInAll_28 : decode cX10_knownInAll 28 = .ok (.istore_n 1, 1) := by decide +kernel
theorem dX10_knownInAll_29 : decode cX10_knownInAll 29 = .ok (.iinc 2 1, 3) := by decide +kernel
theorem dX10_knownInAll_32 : decode cX10_knownInAll 32 = .ok (.goto (-28), 3) := by decide +kernel
theorem dX10_knownInAll_35 : decode cX10_knownInAll 35 = .ok (.iload_n 1, 1) := by decide +kernel
theorem dX10_knownInAll_36 : decode cX10_knownInAll 36 = .ok (.ireturn, 1) := by decide +kernel
theorem dX10_obeyedOrders_0 : decode cX10_obeyedOrders 0 = .ok (.iconst 0, 1) := by decide +kernel
theorem dX10_obeyedOrders_1 : decode cX10_obeyedOrders 1 = .ok (.istore_n 1, 1) := by decide +kernel
theorem dX10_obeyedOrders_2 : decode cX10_obeyedOrders 2 = .ok (.iconst 0, 1) := by decide +kernel
theorem dX10_obeyedOrders_3 : decode cX10_obeyedOrders 3 = .ok (.istore_n 2, 1) := by decide +kernel
theorem dX10_obeyedOrders_4 : decode cX10_obeyedOrders 4 = .ok (.iload_n 2, 1) := by decide +kernel
theorem dX10_obeyedOrders_5 : decode cX10_obeyedOrders 5 = .ok (.aload_n 0, 1) := by decide +kernel
theorem dX10_obeyedOrders_6 : decode cX10_obeyedOrders 6 = .ok (.getfield 9, 3) := by decide +kernel
theorem dX10_obeyedOrders_9 : decode cX10_obeyedOrders 9 = .ok (.getfield 198, 3) := by decide +kernel
theorem dX10_obeyedOrders_12 : decode cX10_obeyedOrders 12 = .ok (.if_icmp .ge 55, 3) := by decide +kernel
theorem dX10_obeyedOrders_15 : decode cX10_obeyedOrders 15 = .ok (.aload_n 0, 1) := by decide +kernel
theorem dX10_obeyedOrders_16 : decode cX10_obeyedOrders 16 = .ok (.getfield 22, 3) := by decide +kernel
theorem dX10_obeyedOrders_19 : decode cX10_obeyedOrders 19 = .ok (.getfield 64, 3) := by decide +kernel
theorem dX10_obeyedOrders_22 : decode cX10_obeyedOrders 22 = .ok (.aload_n 0, 1) := by decide +kernel
theorem dX10_obeyedOrders_23 : decode cX10_obeyedOrders 23 = .ok (.getfield 9, 3) := by decide +kernel
theorem dX10_obeyedOrders_26 : decode cX10_obeyedOrders 26 = .ok (.getfield 201, 3) := by decide +kernel
theorem dX10_obeyedOrders_29 : decode cX10_obeyedOrders 29 = .ok (.iload_n 2, 1) := by decide +kernel
theorem dX10_obeyedOrders_30 : decode cX10_obeyedOrders 30 = .ok (.invokestatic 54, 3) := by decide +kernel
theorem dX10_obeyedOrders_33 : decode cX10_obeyedOrders 33 = .ok (.invokestatic 54, 3) := by decide +kernel
theorem dX10_obeyedOrders_36 : decode cX10_obeyedOrders 36 = .ok (.istore_n 3, 1) := by decide +kernel
theorem dX10_obeyedOrders_37 : decode cX10_obeyedOrders 37 = .ok (.aload_n 0, 1) := by decide +kernel
theorem dX10_obeyedOrders_38 : decode cX10_obeyedOrders 38 = .ok (.getfield 9, 3) := by decide +kernel
theorem dX10_obeyedOrders_41 : decode cX10_obeyedOrders 41 = .ok (.getfield 204, 3) := by decide +kernel
theorem dX10_obeyedOrders_44 : decode cX10_obeyedOrders 44 = .ok (.iload_n 2, 1) := by decide +kernel
theorem dX10_obeyedOrders_45 : decode cX10_obeyedOrders 45 = .ok (.invokestatic 54, 3) := by decide +kernel
theorem dX10_obeyedOrders_48 : decode cX10_obeyedOrders 48 = .ok (.iload_n 3, 1) := by decide +kernel
theorem dX10_obeyedOrders_49 : decode cX10_obeyedOrders 49 = .ok (.iconst (-1), 1) := by decide +kernel
theorem dX10_obeyedOrders_50 : decode cX10_obeyedOrders 50 = .ok (.ixor, 1) := by decide +kernel
theorem dX10_obeyedOrders_51 : decode cX10_obeyedOrders 51 = .ok (.iand, 1) := by decide +kernel
theorem dX10_obeyedOrders_52 : decode cX10_obeyedOrders 52 = .ok (.ifCond .ne 9, 3) := by decide +kernel
theorem dX10_obeyedOrders_55 : decode cX10_obeyedOrders 55 = .ok (.iload_n 1, 1) := by decide +kernel
theorem dX10_obeyedOrders_56 : decode cX10_obeyedOrders 56 = .ok (.iconst 1, 1) := by decide +kernel
theorem dX10_obeyedOrders_57 : decode cX10_obeyedOrders 57 = .ok (.iload_n 2, 1) := by decide +kernel
theorem dX10_obeyedOrders_58 : decode cX10_obeyedOrders 58 = .ok (.ishl, 1) := by decide +kernel
theorem dX10_obeyedOrders_59 : decode cX10_obeyedOrders 59 = .ok (.ior, 1) := by decide +kernel
theorem dX10_obeyedOrders_60 : decode cX10_obeyedOrders 60 = .ok (.istore_n 1, 1) := by decide +kernel
theorem dX10_obeyedOrders_61 : decode cX10_obeyedOrders 61 = .ok (.iinc 2 1, 3) := by decide +kernel
theorem dX10_obeyedOrders_64 : decode cX10_obeyedOrders 64 = .ok (.goto (-60), 3) := by decide +kernel
theorem dX10_obeyedOrders_67 : decode cX10_obeyedOrders 67 = .ok (.iload_n 1, 1) := by decide +kernel
theorem dX10_obeyedOrders_68 : decode cX10_obeyedOrders 68 = .ok (.ireturn, 1) := by decide +kernel
theorem dX11_init_0 : decode cX11_init 0 = .ok (.aload_n 0, 1) := by decide +kernel
theorem dX11_init_1 : decode cX11_init 1 = .ok (.invokespecial 1, 3) := by decide +kernel
theorem dX11_init_4 : decode cX11_init 4 = .ok (.aload_n 0, 1) := by decide +kernel
theorem dX11_init_5 : decode cX11_init 5 = .ok (.new 7, 3) := by decide +kernel
theorem dX11_init_8 : decode cX11_init 8 = .ok (.dup, 1) := by decide +kernel
theorem dX11_init_9 : decode cX11_init 9 = .ok (.invokespecial 9, 3) := by decide +kernel
theorem dX11_init_12 : decode cX11_init 12 = .ok (.putfield 10, 3) := by decide +kernel
theorem dX11_init_15 : decode cX11_init 15 = .ok (.aload_n 0, 1) := by decide +kernel
theorem dX11_init_16 : decode cX11_init 16 = .ok (.new 16, 3) := by decide +kernel
theorem dX11_init_19 : decode cX11_init 19 = .ok (.dup, 1) := by decide +kernel
theorem dX11_init_20 : decode cX11_init 20 = .ok (.new 18, 3) := by decide +kernel
theorem dX11_init_23 : decode cX11_init 23 = .ok (.dup, 1) := by decide +kernel
theorem dX11_init_24 : decode cX11_init 24 = .ok (.invokespecial 20, 3) := by decide +kernel
theorem dX11_init_27 : decode cX11_init 27 = .ok (.new 21, 3) := by decide +kernel
theorem dX11_init_30 : decode cX11_init 30 = .ok (.dup, 1) := by decide +kernel
theorem dX11_init_31 : decode cX11_init 31 = .ok (.invokespecial 23, 3) := by decide +kernel
theorem dX11_init_34 : decode cX11_init 34 = .ok (.invokespecial 24, 3) := by decide +kernel
theorem dX11_init_37 : decode cX11_init 37 = .ok (.putfield 27, 3) := by decide +kernel
theorem dX11_init_40 : decode cX11_init 40 = .ok (.aload_n 0, 1) := by decide +kernel
theorem dX11_init_41 : decode cX11_init 41 = .ok (.new 16, 3) := by decide +kernel
theorem dX11_init_44 : decode cX11_init 44 = .ok (.dup, 1) := by decide +kernel
theorem dX11_init_45 : decode cX11_init 45 = .ok (.aload_n 0, 1) := by decide +kernel
theorem dX11_init_46 : decode cX11_init 46 = .ok (.getfield 27, 3) := by decide +kernel
theorem dX11_init_49 : decode cX11_init 49 = .ok (.getfield 31, 3) := by decide +kernel
theorem dX11_init_52 : decode cX11_init 52 = .ok (.aload_n 0, 1) := by decide +kernel
theorem dX11_init_53 : decode cX11_init 53 = .ok (.getfield 27, 3) := by decide +kernel
theorem dX11_init_56 : decode cX11_init 56 = .ok (.getfield 35, 3) := by decide +kernel
theorem dX11_init_59 : decode cX11_init 59 = .ok (.invokespecial 24, 3) := by decide +kernel
theorem dX11_init_62 : decode cX11_init 62 = .ok (.putfield 39, 3) := by decide +kernel
theorem dX11_init_65 : decode cX11_init 65 = .ok (.aload_n 0, 1) := by decide +kernel
theorem dX11_init_66 : decode cX11_init 66 = .ok (.new 16, 3) := by decide +kernel
theorem dX11_init_69 : decode cX11_init 69 = .ok (.dup, 1) := by decide +kernel
theorem dX11_init_70 : decode cX11_init 70 = .ok (.new 18, 3) := by decide +kernel
theorem dX11_init_73 : decode cX11_init 73 = .ok (.dup, 1) := by decide +kernel
theorem dX11_init_74 : decode cX11_init 74 = .ok (.invokespecial 20, 3) := by decide +kernel
theorem dX11_init_77 : decode cX11_init 77 = .ok (.new 21, 3) := by decide +kernel
theorem dX11_init_80 : decode cX11_init 80 = .ok (.dup, 1) := by decide +kernel
theorem dX11_init_81 : decode cX11_init 81 = .ok (.invokespecial 23, 3) := by decide +kernel
theorem dX11_init_84 : decode cX11_init 84 = .ok (.invokespecial 24, 3) := by decide +kernel
theorem dX11_init_87 : decode cX11_init 87 = .ok (.putfield 42, 3) := by decide +kernel
theorem dX11_init_90 : decode cX11_init 90 = .ok (.aload_n 0, 1) := by decide +kernel
theorem dX11_init_91 : decode cX11_init 91 = .ok (.new 16, 3) := by decide +kernel
theorem dX11_init_94 : decode cX11_init 94 = .ok (.dup, 1) := by decide +kernel
theorem dX11_init_95 : decode cX11_init 95 = .ok (.new 18, 3) := by decide +kernel
theorem dX11_init_98 : decode cX11_init 98 = .ok (.dup, 1) := by decide +kernel
theorem dX11_init_99 : decode cX11_init 99 = .ok (.invokespecial 20, 3) := by decide +kernel
theorem dX11_init_102 : decode cX11_init 102 = .ok (.new 21, 3) := by decide +kernel
theorem dX11_init_105 : decode cX11_init 105 = .ok (.dup, 1) := by decide +kernel
theorem dX11_init_106 : decode cX11_init 106 = .ok (.invokespecial 23, 3) := by decide +kernel
theorem dX11_init_109 : decode cX11_init 109 = .ok (.invokespecial 24, 3) := by decide +kernel
theorem dX11_init_112 : decode cX11_init 112 = .ok (.putfield 45, 3) := by decide +kernel
theorem dX11_init_115 : decode cX11_init 115 = .ok (.aload_n 0, 1) := by decide +kernel
theorem dX11_init_116 : decode cX11_init 116 = .ok (.new 48, 3) := by decide +kernel
theorem dX11_init_119 : decode cX11_init 119 = .ok (.dup, 1) := by decide +kernel
theorem dX11_init_120 : decode cX11_init 120 = .ok (.aload_n 0, 1) := by decide +kernel
theorem dX11_init_121 : decode cX11_init 121 = .ok (.getfield 10, 3) := by decide +kernel
theorem dX11_init_124 : decode cX11_init 124 = .ok (.aload_n 0, 1) := by decide +kernel
theorem dX11_init_125 : decode cX11_init 125 = .ok (.getfield 42, 3) := by decide +kernel
theorem dX11_init_128 : decode cX11_init 128 = .ok (.invokespecial 50, 3) := by decide +kernel
theorem dX11_init_131 : decode cX11_init 131 = .ok (.putfield 53, 3) := by decide +kernel
theorem dX11_init_134 : decode cX11_init 134 = .ok (.aload_n 0, 1) := by decide +kernel
theorem dX11_init_135 : decode cX11_init 135 = .ok (.new 57, 3) := by decide +kernel
theorem dX11_init_138 : decode cX11_init 138 = .ok (.dup, 1) := by decide +kernel
theorem dX11_init_139 : decode cX11_init 139 = .ok (.aload_n 0, 1) := by decide +kernel
theorem dX11_init_140 : decode cX11_init 140 = .ok (.getfield 10, 3) := by decide +kernel
theorem dX11_init_143 : decode cX11_init 143 = .ok (.aload_n 0, 1) := by decide +kernel
theorem dX11_init_144 : decode cX11_init 144 = .ok (.getfield 42, 3) := by decide +kernel
theorem dX11_init_147 : decode cX11_init 147 = .ok (.getfield 35, 3) := by decide +kernel
theorem dX11_init_150 : decode cX11_init 150 = .ok (.invokespecial 59, 3) := by decide +kernel
theorem dX11_init_153 : decode cX11_init 153 = .ok (.putfield 62, 3) := by decide +kernel
theorem dX11_init_156 : decode cX11_init 156 = .ok (.aload_n 0, 1) := by decide +kernel
theorem dX11_init_157 : decode cX11_init 157 = .ok (.new 66, 3) := by decide +kernel
theorem dX11_init_160 : decode cX11_init 160 = .ok (.dup, 1) := by decide +kernel
theorem dX11_init_161 : decode cX11_init 161 = .ok (.invokespecial 68, 3) := by decide +kernel
theorem dX11_init_164 : decode cX11_init 164 = .ok (.putfield 69, 3) := by decide +kernel
theorem dX11_init_167 : decode cX11_init 167 = .ok (.aload_n 0, 1) := by decide +kernel
theorem dX11_init_168 : decode cX11_init 168 = .ok (.new 73, 3) := by decide +kernel
theorem dX11_init_171 : decode cX11_init 171 = .ok (.dup, 1) := by decide +kernel
theorem dX11_init_172 : decode cX11_init 172 = .ok (.aload_n 0, 1) := by decide +kernel
theorem dX11_init_173 : decode cX11_init 173 = .ok (.getfield 27, 3) := by decide +kernel
theorem dX11_init_176 : decode cX11_init 176 = .ok (.invokespecial 75, 3) := by decide +kernel
theorem dX11_init_179 : decode cX11_init 179 = .ok (.putfield 78, 3) := by decide +kernel
theorem dX11_init_182 : decode cX11_init 182 = .ok (.aload_n 0, 1) := by decide +kernel
theorem dX11_init_183 : decode cX11_init 183 = .ok (.new 82, 3) := by decide +kernel
theorem dX11_init_186 : decode cX11_init 186 = .ok (.dup, 1) := by decide +kernel
theorem dX11_init_187 : decode cX11_init 187 = .ok (.aload_n 0, 1) := by decide +kernel
theorem dX11_init_188 : decode cX11_init 188 = .ok (.getfield 27, 3) := by decide +kernel
theorem dX11_init_191 : decode cX11_init 191 = .ok (.invokespecial 84, 3) := by decide +kernel
theorem dX11_init_194 : decode cX11_init 194 = .ok (.putfield 85, 3) := by decide +kernel
theorem dX11_init_197 : decode cX11_init 197 = .ok (.aload_n 0, 1) := by decide +kernel
theorem dX11_init_198 : decode cX11_init 198 = .ok (.new 89, 3) := by decide +kernel
theorem dX11_init_201 : decode cX11_init 201 = .ok (.dup, 1) := by decide +kernel
theorem dX11_init_202 : decode cX11_init 202 = .ok (.aload_n 0, 1) := by decide +kernel
theorem dX11_init_203 : decode cX11_init 203 = .ok (.getfield 27, 3) := by decide +kernel
theorem dX11_init_206 : decode cX11_init 206 = .ok (.invokespecial 91, 3) := by decide +kernel
theorem dX11_init_209 : decode cX11_init 209 = .ok (.putfield 92, 3) := by decide +kernel
theorem dX11_init_212 : decode cX11_init 212 = .ok (.aload_n 0, 1) := by decide +kernel
theorem dX11_init_213 : decode cX11_init 213 = .ok (.iconst 0, 1) := by decide +kernel
theorem dX11_init_214 : decode cX11_init 214 = .ok (.putfield 96, 3) := by decide +kernel
theorem dX11_init_217 : decode cX11_init 217 = .ok (.aload_n 0, 1) := by decide +kernel
theorem dX11_init_218 : decode cX11_init 218 = .ok (.iconst (-1), 1) := by decide +kernel
theorem dX11_init_219 : decode cX11_init 219 = .ok (.putfield 100, 3) := by decide +kernel
theorem dX11_init_222 : decode cX11_init 222 = .ok (.return_, 1) := by decide +kernel
theorem dX11_feed_0 : decode cX11_feed 0 = .ok (.aload_n 0, 1) := by decide +kernel
theorem dX11_feed_1 : decode cX11_feed 1 = .ok (.getfield 10, 3) := by decide +kernel
theorem dX11_feed_4 : decode cX11_feed 4 = .ok (.getfield 104, 3) := by decide +kernel
theorem dX11_feed_7 : decode cX11_feed 7 = .ok (.bipush 20, 2) := by decide +kernel
theorem dX11_feed_9 : decode cX11_feed 9 = .ok (.iadd, 1) := by decide +kernel
theorem dX11_feed_10 : decode cX11_feed 10 = .ok (.sipush 400, 3) := by decide +kernel
theorem dX11_feed_13 : decode cX11_feed 13 = .ok (.if_icmp .le 5, 3) := by decide +kernel
theorem dX11_feed_16 : decode cX11_feed 16 = .ok (.iconst (-1), 1) := by decide +kernel
theorem dX11_feed_17 : decode cX11_feed 17 = .ok (.ireturn, 1) := by decide +kernel
theorem dX11_feed_18 : decode cX11_feed 18 = .ok (.aload_n 0, 1) := by decide +kernel
theorem dX11_feed_19 : decode cX11_feed 19 = .ok (.getfield 10, 3) := by decide +kernel
theorem dX11_feed_22 : decode cX11_feed 22 = .ok (.iload_n 1, 1) := by decide +kernel
theorem dX11_feed_23 : decode cX11_feed 23 = .ok (.invokevirtual 107, 3) := by decide +kernel
theorem dX11_feed_26 : decode cX11_feed 26 = .ok (.aload_n 0, 1) := by decide +kernel
theorem dX11_feed_27 : decode cX11_feed 27 = .ok (.getfield 10, 3) := by decide +kernel
theorem dX11_feed_30 : decode cX11_feed 30 = .ok (.iload_n 2, 1) := by decide +kernel
theorem dX11_feed_31 : decode cX11_feed 31 = .ok (.invokevirtual 107, 3) := by decide +kernel
theorem dX11_feed_34 : decode cX11_feed 34 = .ok (.aload_n 0, 1) := by decide +kernel
theorem dX11_feed_35 : decode cX11_feed 35 = .ok (.getfield 10, 3) := by decide +kernel
theorem dX11_feed_38 : decode cX11_feed 38 = .ok (.iload_n 3, 1) := by decide +kernel
theorem dX11_feed_39 : decode cX11_feed 39 = .ok (.invokevirtual 107, 3) := by decide +kernel
theorem dX11_feed_42 : decode cX11_feed 42 = .ok (.aload_n 0, 1) := by decide +kernel
theorem dX11_feed_43 : decode cX11_feed 43 = .ok (.getfield 10, 3) := by decide +kernel
theorem dX11_feed_46 : decode cX11_feed 46 = .ok (.iload 4, 2) := by decide +kernel
theorem dX11_feed_48 : decode cX11_feed 48 = .ok (.invokevirtual 107, 3) := by decide +kernel
theorem dX11_feed_51 : decode cX11_feed 51 = .ok (.aload_n 0, 1) := by decide +kernel
theorem dX11_feed_52 : decode cX11_feed 52 = .ok (.getfield 10, 3) := by decide +kernel
theorem dX11_feed_55 : decode cX11_feed 55 = .ok (.iload 5, 2) := by decide +kernel
theorem dX11_feed_57 : decode cX11_feed 57 = .ok (.invokevirtual 107, 3) := by decide +kernel
theorem dX11_feed_60 : decode cX11_feed 60 = .ok (.aload_n 0, 1) := by decide +kernel
theorem dX11_feed_61 : decode cX11_feed 61 = .ok (.getfield 10, 3) := by decide +kernel
theorem dX11_feed_64 : decode cX11_feed 64 = .ok (.getfield 104, 3) := by decide +kernel
theorem dX11_feed_67 : decode cX11_feed 67 = .ok (.ireturn, 1) := by decide +kernel
theorem dX11_end_0 : decode cX11_end 0 = .ok (.iload_n 1, 1) := by decide +kernel
theorem dX11_end_1 : decode cX11_end 1 = .ok (.ifCond .lt 14, 3) := by decide +kernel
theorem dX11_end_4 : decode cX11_end 4 = .ok (.iload_n 1, 1) := by decide +kernel
theorem dX11_end_5 : decode cX11_end 5 = .ok (.aload_n 0, 1) := by decide +kernel
theorem dX11_end_6 : decode cX11_end 6 = .ok (.getfield 10, 3) := by decide +kernel
theorem dX11_end_9 : decode cX11_end 9 = .ok (.getfield 104, 3) := by decide +kernel
theorem dX11_end_12 : decode cX11_end 12 = .ok (.if_icmp .le 5, 3) := by decide +kernel
theorem dX11_end_15 : decode cX11_end 15 = .ok (.iconst 0, 1) := by decide +kernel
theorem dX11_end_16 : decode cX11_end 16 = .ok (.ireturn, 1) := by decide +kernel
theorem dX11_end_17 : decode cX11_end 17 = .ok (.aload_n 0, 1) := by decide +kernel
theorem dX11_end_18 : decode cX11_end 18 = .ok (.getfield 10, 3) := by decide +kernel
theorem dX11_end_21 : decode cX11_end 21 = .ok (.iload_n 1, 1) := by decide +kernel
theorem dX11_end_22 : decode cX11_end 22 = .ok (.putfield 104, 3) := by decide +kernel
theorem dX11_end_25 : decode cX11_end 25 = .ok (.iconst 1, 1) := by decide +kernel
theorem dX11_end_26 : decode cX11_end 26 = .ok (.ireturn, 1) := by decide +kernel
theorem dX11_war_0 : decode cX11_war 0 = .ok (.aload_n 0, 1) := by decide +kernel
theorem dX11_war_1 : decode cX11_war 1 = .ok (.getfield 42, 3) := by decide +kernel
theorem dX11_war_4 : decode cX11_war 4 = .ok (.aload_n 0, 1) := by decide +kernel
theorem dX11_war_5 : decode cX11_war 5 = .ok (.getfield 27, 3) := by decide +kernel
theorem dX11_war_8 : decode cX11_war 8 = .ok (.invokevirtual 111, 3) := by decide +kernel
theorem dX11_war_11 : decode cX11_war 11 = .ok (.aload_n 0, 1) := by decide +kernel
theorem dX11_war_12 : decode cX11_war 12 = .ok (.getfield 53, 3) := by decide +kernel
theorem dX11_war_15 : decode cX11_war 15 = .ok (.invokevirtual 114, 3) := by decide +kernel
theorem dX11_war_18 : decode cX11_war 18 = .ok (.istore_n 1, 1) := by decide +kernel
theorem dX11_war_19 : decode cX11_war 19 = .ok (.aload_n 0, 1) := by decide +kernel
theorem dX11_war_20 : decode cX11_war 20 = .ok (.iload_n 1, 1) := by decide +kernel
theorem dX11_war_21 : decode cX11_war 21 = .ok (.invokevirtual 118, 3) := by decide +kernel
theorem dX11_war_24 : decode cX11_war 24 = .ok (.iload_n 1, 1) := by decide +kernel
theorem dX11_war_25 : decode cX11_war 25 = .ok (.ifCond .ne 13, 3) := by decide +kernel
theorem dX11_war_28 : decode cX11_war 28 = .ok (.new 122, 3) := by decide +kernel
theorem dX11_war_31 : decode cX11_war 31 = .ok (.dup, 1) := by decide +kernel
theorem dX11_war_32 : decode cX11_war 32 = .ok (.ldc 124, 2) := by decide +kernel
theorem dX11_war_34 : decode cX11_war 34 = .ok (.invokespecial 126, 3) := by decide +kernel
theorem dX11_war_37 : decode cX11_war 37 = .ok (.athrow, 1) := by decide +kernel
theorem dX11_war_38 : decode cX11_war 38 = .ok (.aload_n 0, 1) := by decide +kernel
theorem dX11_war_39 : decode cX11_war 39 = .ok (.getfield 27, 3) := by decide +kernel
theorem dX11_war_42 : decode cX11_war 42 = .ok (.getfield 31, 3) := by decide +kernel
theorem dX11_war_45 : decode cX11_war 45 = .ok (.getfield 129, 3) := by decide +kernel
theorem dX11_war_48 : decode cX11_war 48 = .ok (.bipush 12, 2) := by decide +kernel
theorem dX11_war_50 : decode cX11_war 50 = .ok (.if_icmp .lt 13, 3) := by decide +kernel
theorem dX11_war_53 : decode cX11_war 53 = .ok (.new 132, 3) := by decide +kernel
theorem dX11_war_56 : decode cX11_war 56 = .ok (.dup, 1) := by decide +kernel
theorem dX11_war_57 : decode cX11_war 57 = .ok (.ldc 134, 2) := by decide +kernel
theorem dX11_war_59 : decode cX11_war 59 = .ok (.invokespecial 136, 3) := by decide +kernel
theorem dX11_war_62 : decode cX11_war 62 = .ok (.athrow, 1) := by decide +kernel
theorem dX11_war_63 : decode cX11_war 63 = .ok (.aload_n 0, 1) := by decide +kernel
theorem dX11_war_64 : decode cX11_war 64 = .ok (.getfield 42, 3) := by decide +kernel
theorem dX11_war_67 : decode cX11_war 67 = .ok (.getfield 31, 3) := by decide +kernel
theorem dX11_war_70 : decode cX11_war 70 = .ok (.dup, 1) := by decide +kernel
theorem dX11_war_71 : decode cX11_war 71 = .ok (.getfield 129, 3) := by decide +kernel
theorem dX11_war_74 : decode cX11_war 74 = .ok (.iconst 1, 1) := by decide +kernel
theorem dX11_war_75 : decode cX11_war 75 = .ok (.iadd, 1) := by decide +kernel
theorem dX11_war_76 : decode cX11_war 76 = .ok (.putfield 129, 3) := by decide +kernel
theorem dX11_war_79 : decode cX11_war 79 = .ok (.aload_n 0, 1) := by decide +kernel
theorem dX11_war_80 : decode cX11_war 80 = .ok (.getfield 27, 3) := by decide +kernel
theorem dX11_war_83 : decode cX11_war 83 = .ok (.aload_n 0, 1) := by decide +kernel
theorem dX11_war_84 : decode cX11_war 84 = .ok (.getfield 42, 3) := by decide +kernel
theorem dX11_war_87 : decode cX11_war 87 = .ok (.invokevirtual 111, 3) := by decide +kernel
theorem dX11_war_90 : decode cX11_war 90 = .ok (.aload_n 0, 1) := by decide +kernel
theorem dX11_war_91 : decode cX11_war 91 = .ok (.getfield 69, 3) := by decide +kernel
theorem dX11_war_94 : decode cX11_war 94 = .ok (.iconst 0, 1) := by decide +kernel
theorem dX11_war_95 : decode cX11_war 95 = .ok (.putfield 137, 3) := by decide +kernel
theorem dX11_war_98 : decode cX11_war 98 = .ok (.aload_n 0, 1) := by decide +kernel
theorem dX11_war_99 : decode cX11_war 99 = .ok (.getfield 27, 3) := by decide +kernel
theorem dX11_war_102 : decode cX11_war 102 = .ok (.getfield 31, 3) := by decide +kernel
theorem dX11_war_105 : decode cX11_war 105 = .ok (.getfield 129, 3) := by decide +kernel
theorem dX11_war_108 : decode cX11_war 108 = .ok (.ireturn, 1) := by decide +kernel
theorem dX11_law_0 : decode cX11_law 0 = .ok (.aload_n 0, 1) := by decide +kernel
theorem dX11_law_1 : decode cX11_law 1 = .ok (.getfield 62, 3) := by decide +kernel
theorem dX11_law_4 : decode cX11_law 4 = .ok (.invokevirtual 138, 3) := by decide +kernel
theorem dX11_law_7 : decode cX11_law 7 = .ok (.istore_n 1, 1) := by decide +kernel
theorem dX11_law_8 : decode cX11_law 8 = .ok (.aload_n 0, 1) := by decide +kernel
theorem dX11_law_9 : decode cX11_law 9 = .ok (.iload_n 1, 1) := by decide +kernel
theorem dX11_law_10 : decode cX11_law 10 = .ok (.invokevirtual 118, 3) := by decide +kernel
theorem dX11_law_13 : decode cX11_law 13 = .ok (.iload_n 1, 1) := by decide +kernel
theorem dX11_law_14 : decode cX11_law 14 = .ok (.ifCond .ne 13, 3) := by decide +kernel
theorem dX11_law_17 : decode cX11_law 17 = .ok (.new 122, 3) := by decide +kernel
theorem dX11_law_20 : decode cX11_law 20 = .ok (.dup, 1) := by decide +kernel
theorem dX11_law_21 : decode cX11_law 21 = .ok (.ldc 139, 2) := by decide +kernel
theorem dX11_law_23 : decode cX11_law 23 = .ok (.invokespecial 126, 3) := by decide +kernel
theorem dX11_law_26 : decode cX11_law 26 = .ok (.athrow, 1) := by decide +kernel
theorem dX11_law_27 : decode cX11_law 27 = .ok (.aload_n 0, 1) := by decide +kernel
theorem dX11_law_28 : decode cX11_law 28 = .ok (.getfield 27, 3) := by decide +kernel
theorem dX11_law_31 : decode cX11_law 31 = .ok (.getfield 35, 3) := by decide +kernel
theorem dX11_law_34 : decode cX11_law 34 = .ok (.aload_n 0, 1) := by decide +kernel
theorem dX11_law_35 : decode cX11_law 35 = .ok (.getfield 42, 3) := by decide +kernel
theorem dX11_law_38 : decode cX11_law 38 = .ok (.getfield 35, 3) := by decide +kernel
theorem dX11_law_41 : decode cX11_law 41 = .ok (.invokevirtual 141, 3) := by decide +kernel
theorem dX11_law_44 : decode cX11_law 44 = .ok (.aload_n 0, 1) := by decide +kernel
theorem dX11_law_45 : decode cX11_law 45 = .ok (.getfield 69, 3) := by decide +kernel
theorem dX11_law_48 : decode cX11_law 48 = .ok (.iconst 0, 1) := by decide +kernel
theorem dX11_law_49 : decode cX11_law 49 = .ok (.putfield 137, 3) := by decide +kernel
theorem dX11_law_52 : decode cX11_law 52 = .ok (.aload_n 0, 1) := by decide +kernel
theorem dX11_law_53 : decode cX11_law 53 = .ok (.getfield 27, 3) := by decide +kernel
theorem dX11_law_56 : decode cX11_law 56 = .ok (.getfield 35, 3) := by decide +kernel
theorem dX11_law_59 : decode cX11_law 59 = .ok (.getfield 144, 3) := by decide +kernel
theorem dX11_law_62 : decode cX11_law 62 = .ok (.ireturn, 1) := by decide +kernel
theorem dX11_closeText_0 : decode cX11_closeText 0 = .ok (.aload_n 0, 1) := by decide +kernel
theorem dX11_closeText_1 : decode cX11_closeText 1 = .ok (.iload_n 1, 1) := by decide +kernel
theorem dX11_closeText_2 : decode cX11_closeText 2 = .ok (.ifCond .eq 7, 3) := by decide +kernel
theorem dX11_closeText_5 : decode cX11_closeText 5 = .ok (.iconst (-1), 1) := by decide +kernel
theorem dX11_closeText_6 : decode cX11_closeText 6 = .ok (.goto 10, 3) := by decide +kernel
theorem dX11_closeText_9 : decode cX11_closeText 9 = .ok (.aload_n 0, 1) := by decide +kernel
theorem dX11_closeText_10 : decode cX11_closeText 10 = .ok (.getfield 10, 3) := by decide +kernel
theorem dX11_closeText_13 : decode cX11_closeText 13 = .ok (.getfield 147, 3) := by decide +kernel
theorem dX11_closeText_16 : decode cX11_closeText 16 = .ok (.putfield 100, 3) := by decide +kernel
theorem dX11_closeText_19 : decode cX11_closeText 19 = .ok (.aload_n 0, 1) := by decide +kernel
theorem dX11_closeText_20 : decode cX11_closeText 20 = .ok (.getfield 10, 3) := by decide +kernel
theorem dX11_closeText_23 : decode cX11_closeText 23 = .ok (.iconst 0, 1) := by decide +kernel
theorem dX11_closeText_24 : decode cX11_closeText 24 = .ok (.putfield 104, 3) := by decide +kernel
theorem dX11_closeText_27 : decode cX11_closeText 27 = .ok (.return_, 1) := by decide +kernel
theorem dX11_fault_0 : decode cX11_fault 0 = .ok (.aload_n 0, 1) := by decide +kernel
theorem dX11_fault_1 : decode cX11_fault 1 = .ok (.getfield 100, 3) := by decide +kernel
theorem dX11_fault_4 : decode cX11_fault 4 = .ok (.ireturn, 1) := by decide +kernel
theorem dX11_memory_0 : decode cX11_memory 0 = .ok (.aload_n 0, 1) := by decide +kernel
theorem dX11_memory_1 : decode cX11_memory 1 = .ok (.iload_n 1, 1) := by decide +kernel
theorem dX11_memory_2 : decode cX11_memory 2 = .ok (.invokevirtual 150, 3) := by decide +kernel
theorem dX11_memory_5 : decode cX11_memory 5 = .ok (.iload_n 2, 1) := by decide +kernel
theorem dX11_memory_6 : decode cX11_memory 6 = .ok (.tableswitch 151 0 7 #[46, 61, 76, 91, 106, 115, 124, 136], 46) := by decide +kernel
theorem dX11_memory_52 : decode cX11_memory 52 = .ok (.aload_n 0, 1) := by decide +kernel
theorem dX11_memory_53 : decode cX11_memory 53 = .ok (.getfield 27, 3) := by decide +kernel
theorem dX11_memory_56 : decode cX11_memory 56 = .ok (.getfield 31, 3) := by decide +kernel
theorem dX11_memory_59 : decode cX11_memory 59 = .ok (.getfield 153, 3) := by decide +kernel
theorem dX11_memory_62 : decode cX11_memory 62 = .ok (.iload_n 1, 1) := by decide +kernel
theorem dX11_memory_63 : decode cX11_memory 63 = .ok (.invokestatic 157, 3) := by decide +kernel
theorem dX11_memory_66 : decode cX11_memory 66 = .ok (.ireturn, 1) := by decide +kernel
theorem dX11_memory_67 : decode cX11_memory 67 = .ok (.aload_n 0, 1) := by decide +kernel
theorem dX11_memory_68 : decode cX11_memory 68 = .ok (.getfield 27, 3) := by decide +kernel
theorem dX11_memory_71 : decode cX11_memory 71 = .ok (.getfield 31, 3) := by decide +kernel
theorem dX11_memory_74 : decode cX11_memory 74 = .ok (.getfield 161, 3) := by decide +kernel
theorem dX11_memory_77 : decode cX11_memory 77 = .ok (.iload_n 1, 1) := by decide +kernel
theorem dX11_memory_78 : decode cX11_memory 78 = .ok (.invokestatic 157, 3) := by decide +kernel
theorem dX11_memory_81 : decode cX11_memory 81 = .ok (.ireturn, 1) := by decide +kernel
theorem dX11_memory_82 : decode cX11_memory 82 = .ok (.aload_n 0, 1) := by decide +kernel
theorem dX11_memory_83 : decode cX11_memory 83 = .ok (.getfield 27, 3) := by decide +kernel
theorem dX11_memory_86 : decode cX11_memory 86 = .ok (.getfield 31, 3) := by decide +kernel
theorem dX11_memory_89 : decode cX11_memory 89 = .ok (.getfield 164, 3) := by decide +kernel
theorem dX11_memory_92 : decode cX11_memory 92 = .ok (.iload_n 1, 1) := by decide +kernel
theorem dX11_memory_93 : decode cX11_memory 93 = .ok (.invokestatic 157, 3) := by decide +kernel
theorem dX11_memory_96 : decode cX11_memory 96 = .ok (.ireturn, 1) := by decide +kernel
theorem dX11_memory_97 : decode cX11_memory 97 = .ok (.aload_n 0, 1) := by decide +kernel
theorem dX11_memory_98 : decode cX11_memory 98 = .ok (.getfield 27, 3) := by decide +kernel
theorem dX11_memory_101 : decode cX11_memory 101 = .ok (.getfield 31, 3) := by decide +kernel
theorem dX11_memory_104 : decode cX11_memory 104 = .ok (.getfield 167, 3) := by decide +kernel
theorem dX11_memory_107 : decode cX11_memory 107 = .ok (.iload_n 1, 1) := by decide +kernel
theorem dX11_memory_108 : decode cX11_memory 108 = .ok (.invokestatic 157, 3) := by decide +kernel
theorem dX11_memory_111 : decode cX11_memory 111 = .ok (.ireturn, 1) := by decide +kernel
theorem dX11_memory_112 : decode cX11_memory 112 = .ok (.aload_n 0, 1) := by decide +kernel
theorem dX11_memory_113 : decode cX11_memory 113 = .ok (.getfield 27, 3) := by decide +kernel
theorem dX11_memory_116 : decode cX11_memory 116 = .ok (.iload_n 1, 1) := by decide +kernel
theorem dX11_memory_117 : decode cX11_memory 117 = .ok (.invokevirtual 170, 3) := by decide +kernel
theorem dX11_memory_120 : decode cX11_memory 120 = .ok (.ireturn, 1) := by decide +kernel
theorem dX11_memory_121 : decode cX11_memory 121 = .ok (.aload_n 0, 1) := by decide +kernel
theorem dX11_memory_122 : decode cX11_memory 122 = .ok (.getfield 27, 3) := by decide +kernel
theorem dX11_memory_125 : decode cX11_memory 125 = .ok (.iload_n 1, 1) := by decide +kernel
theorem dX11_memory_126 : decode cX11_memory 126 = .ok (.invokevirtual 174, 3) := by decide +kernel
theorem dX11_memory_129 : decode cX11_memory 129 = .ok (.ireturn, 1) := by decide +kernel
theorem dX11_memory_130 : decode cX11_memory 130 = .ok (.aload_n 0, 1) := by decide +kernel
theorem dX11_memory_131 : decode cX11_memory 131 = .ok (.getfield 27, 3) := by decide +kernel
theorem dX11_memory_134 : decode cX11_memory 134 = .ok (.getfield 177, 3) := by decide +kernel
theorem dX11_memory_137 : decode cX11_memory 137 = .ok (.iload_n 1, 1) := by decide +kernel
theorem dX11_memory_138 : decode cX11_memory 138 = .ok (.invokevirtual 181, 3) := by decide +kernel
theorem dX11_memory_141 : decode cX11_memory 141 = .ok (.ireturn, 1) := by decide +kernel
theorem dX11_memory_142 : decode cX11_memory 142 = .ok (.aload_n 0, 1) := by decide +kernel
theorem dX11_memory_143 : decode cX11_memory 143 = .ok (.getfield 27, 3) := by decide +kernel
theorem dX11_memory_146 : decode cX11_memory 146 = .ok (.getfield 31, 3) := by decide +kernel
theorem dX11_memory_149 : decode cX11_memory 149 = .ok (.getfield 186, 3) := by decide +kernel
theorem dX11_memory_152 : decode cX11_memory 152 = .ok (.iload_n 1, 1) := by decide +kernel
theorem dX11_memory_153 : decode cX11_memory 153 = .ok (.invokestatic 157, 3) := by decide +kernel
theorem dX11_memory_156 : decode cX11_memory 156 = .ok (.ireturn, 1) := by decide +kernel
theorem dX11_memory_157 : decode cX11_memory 157 = .ok (.new 189, 3) := by decide +kernel
theorem dX11_memory_160 : decode cX11_memory 160 = .ok (.dup, 1) := by decide +kernel
theorem dX11_memory_161 : decode cX11_memory 161 = .ok (.ldc 191, 2) := by decide +kernel
theorem dX11_memory_163 : decode cX11_memory 163 = .ok (.invokespecial 193, 3) := by decide +kernel
theorem dX11_memory_166 : decode cX11_memory 166 = .ok (.athrow, 1) := by decide +kernel
theorem dX11_soldier_0 : decode cX11_soldier 0 = .ok (.aload_n 0, 1) := by decide +kernel
theorem dX11_soldier_1 : decode cX11_soldier 1 = .ok (.iload_n 1, 1) := by decide +kernel
theorem dX11_soldier_2 : decode cX11_soldier 2 = .ok (.invokevirtual 194, 3) := by decide +kernel
theorem dX11_soldier_5 : decode cX11_soldier 5 = .ok (.iload_n 2, 1) := by decide +kernel
theorem dX11_soldier_6 : decode cX11_soldier 6 = .ok (.tableswitch 200 0 8 #[50, 65, 80, 95, 110, 125, 140, 155, 180], 50) := by decide +kernel
theorem dX11_soldier_56 : decode cX11_soldier 56 = .ok (.aload_n 0, 1) := by decide +kernel
theorem dX11_soldier_57 : decode cX11_soldier 57 = .ok (.getfield 27, 3) := by decide +kernel
theorem dX11_soldier_60 : decode cX11_soldier 60 = .ok (.getfield 31, 3) := by decide +kernel
theorem dX11_soldier_63 : decode cX11_soldier 63 = .ok (.getfield 197, 3) := by decide +kernel
theorem dX11_soldier_66 : decode cX11_soldier 66 = .ok (.iload_n 1, 1) := by decide +kernel
theorem dX11_soldier_67 : decode cX11_soldier 67 = .ok (.invokestatic 157, 3) := by decide +kernel
theorem dX11_soldier_70 : decode cX11_soldier 70 = .ok (.ireturn, 1) := by decide +kernel
theorem dX11_soldier_71 : decode cX11_soldier 71 = .ok (.aload_n 0, 1) := by decide +kernel
theorem dX11_soldier_72 : decode cX11_soldier 72 = .ok (.getfield 27, 3) := by decide +kernel
theorem dX11_soldier_75 : decode cX11_soldier 75 = .ok (.getfield 177, 3) := by decide +kernel
theorem dX11_soldier_78 : decode cX11_soldier 78 = .ok (.getfield 200, 3) := by decide +kernel
theorem dX11_soldier_81 : decode cX11_soldier 81 = .ok (.iload_n 1, 1) := by decide +kernel
theorem dX11_soldier_82 : decode cX11_soldier 82 = .ok (.invokestatic 157, 3) := by decide +kernel
theorem dX11_soldier_85 : decode cX11_soldier 85 = .ok (.ireturn, 1) := by decide +kernel
theorem dX11_soldier_86 : decode cX11_soldier 86 = .ok (.aload_n 0, 1) := by decide +kernel
theorem dX11_soldier_87 : decode cX11_soldier 87 = .ok (.getfield 27, 3) := by decide +kernel
theorem dX11_soldier_90 : decode cX11_soldier 90 = .ok (.getfield 177, 3) := by decide +kernel
theorem dX11_soldier_93 : decode cX11_soldier 93 = .ok (.getfield 203, 3) := by decide +kernel
theorem dX11_soldier_96 : decode cX11_soldier 96 = .ok (.iload_n 1, 1) := by decide +kernel
theorem dX11_soldier_97 : decode cX11_soldier 97 = .ok (.invokestatic 157, 3) := by decide +kernel
theorem dX11_soldier_100 : decode cX11_soldier 100 = .ok (.ireturn, 1) := by decide +kernel
theorem dX11_soldier_101 : decode cX11_soldier 101 = .ok (.aload_n 0, 1) := by decide +kernel
theorem dX11_soldier_102 : decode cX11_soldier 102 = .ok (.getfield 27, 3) := by decide +kernel
theorem dX11_soldier_105 : decode cX11_soldier 105 = .ok (.getfield 177, 3) := by decide +kernel
theorem dX11_soldier_108 : decode cX11_soldier 108 = .ok (.getfield 206, 3) := by decide +kernel
theorem dX11_soldier_111 : decode cX11_soldier 111 = .ok (.iload_n 1, 1) := by decide +kernel
theorem dX11_soldier_112 : decode cX11_soldier 112 = .ok (.invokestatic 157, 3) := by decide +kernel
theorem dX11_soldier_115 : decode cX11_soldier 115 = .ok (.ireturn, 1) := by decide +kernel
theorem dX11_soldier_116 : decode cX11_soldier 116 = .ok (.aload_n 0, 1) := by decide +kernel
theorem dX11_soldier_117 : decode cX11_soldier 117 = .ok (.getfield 27, 3) := by decide +kernel
theorem dX11_soldier_120 : decode cX11_soldier 120 = .ok (.getfield 177, 3) := by decide +kernel
theorem dX11_soldier_123 : decode cX11_soldier 123 = .ok (.getfield 209, 3) := by decide +kernel
theorem dX11_soldier_126 : decode cX11_soldier 126 = .ok (.iload_n 1, 1) := by decide +kernel
theorem dX11_soldier_127 : decode cX11_soldier 127 = .ok (.invokestatic 157, 3) := by decide +kernel
theorem dX11_soldier_130 : decode cX11_soldier 130 = .ok (.ireturn, 1) := by decide +kernel
theorem dX11_soldier_131 : decode cX11_soldier 131 = .ok (.aload_n 0, 1) := by decide +kernel
theorem dX11_soldier_132 : decode cX11_soldier 132 = .ok (.getfield 27, 3) := by decide +kernel
theorem dX11_soldier_135 : decode cX11_soldier 135 = .ok (.getfield 31, 3) := by decide +kernel
theorem dX11_soldier_138 : decode cX11_soldier 138 = .ok (.getfield 212, 3) := by decide +kernel
theorem dX11_soldier_141 : decode cX11_soldier 141 = .ok (.iload_n 1, 1) := by decide +kernel
theorem dX11_soldier_142 : decode cX11_soldier 142 = .ok (.invokestatic 157, 3) := by decide +kernel
theorem dX11_soldier_145 : decode cX11_soldier 145 = .ok (.ireturn, 1) := by decide +kernel
theorem dX11_soldier_146 : decode cX11_soldier 146 = .ok (.aload_n 0, 1) := by decide +kernel
theorem dX11_soldier_147 : decode cX11_soldier 147 = .ok (.getfield 27, 3) := by decide +kernel
theorem dX11_soldier_150 : decode cX11_soldier 150 = .ok (.getfield 31, 3) := by decide +kernel
theorem dX11_soldier_153 : decode cX11_soldier 153 = .ok (.getfield 215, 3) := by decide +kernel
theorem dX11_soldier_156 : decode cX11_soldier 156 = .ok (.iload_n 1, 1) := by decide +kernel
theorem dX11_soldier_157 : decode cX11_soldier 157 = .ok (.invokestatic 157, 3) := by decide +kernel
theorem dX11_soldier_160 : decode cX11_soldier 160 = .ok (.ireturn, 1) := by decide +kernel
theorem dX11_soldier_161 : decode cX11_soldier 161 = .ok (.aload_n 0, 1) := by decide +kernel
theorem dX11_soldier_162 : decode cX11_soldier 162 = .ok (.getfield 27, 3) := by decide +kernel
theorem dX11_soldier_165 : decode cX11_soldier 165 = .ok (.getfield 31, 3) := by decide +kernel
theorem dX11_soldier_168 : decode cX11_soldier 168 = .ok (.aload_n 0, 1) := by decide +kernel
theorem dX11_soldier_169 : decode cX11_soldier 169 = .ok (.getfield 27, 3) := by decide +kernel
theorem dX11_soldier_172 : decode cX11_soldier 172 = .ok (.getfield 177, 3) := by decide +kernel
theorem dX11_soldier_175 : decode cX11_soldier 175 = .ok (.getfield 209, 3) := by decide +kernel
theorem dX11_soldier_178 : decode cX11_soldier 178 = .ok (.iload_n 1, 1) := by decide +kernel
theorem dX11_soldier_179 : decode cX11_soldier 179 = .ok (.invokestatic 157, 3) := by decide +kernel
theorem dX11_soldier_182 : decode cX11_soldier 182 = .ok (.invokevirtual 218, 3) := by decide +kernel
theorem dX11_soldier_185 : decode cX11_soldier 185 = .ok (.ireturn, 1) := by decide +kernel
theorem dX11_soldier_186 : decode cX11_soldier 186 = .ok (.aload_n 0, 1) := by decide +kernel
theorem dX11_soldier_187 : decode cX11_soldier 187 = .ok (.getfield 27, 3) := by decide +kernel
theorem dX11_soldier_190 : decode cX11_soldier 190 = .ok (.getfield 31, 3) := by decide +kernel
theorem dX11_soldier_193 : decode cX11_soldier 193 = .ok (.iload_n 1, 1) := by decide +kernel
theorem dX11_soldier_194 : decode cX11_soldier 194 = .ok (.invokevirtual 221, 3) := by decide +kernel
theorem dX11_soldier_197 : decode cX11_soldier 197 = .ok (.aload_n 0, 1) := by decide +kernel
theorem dX11_soldier_198 : decode cX11_soldier 198 = .ok (.getfield 27, 3) := by decide +kernel
theorem dX11_soldier_201 : decode cX11_soldier 201 = .ok (.invokevirtual 224, 3) := by decide +kernel
theorem dX11_soldier_204 : decode cX11_soldier 204 = .ok (.iand, 1) := by decide +kernel
theorem dX11_soldier_205 : decode cX11_soldier 205 = .ok (.ireturn, 1) := by decide +kernel
theorem dX11_soldier_206 : decode cX11_soldier 206 = .ok (.new 189, 3) := by decide +kernel
theorem dX11_soldier_209 : decode cX11_soldier 209 = .ok (.dup, 1) := by decide +kernel
theorem dX11_soldier_210 : decode cX11_soldier 210 = .ok (.ldc 228, 2) := by decide +kernel
theorem dX11_soldier_212 : decode cX11_soldier 212 = .ok (.invokespecial 193, 3) := by decide +kernel
theorem dX11_soldier_215 : decode cX11_soldier 215 = .ok (.athrow, 1) := by decide +kernel
theorem dX11_known_0 : decode cX11_known 0 = .ok (.aload_n 0, 1) := by decide +kernel
theorem dX11_known_1 : decode cX11_known 1 = .ok (.iload_n 1, 1) := by decide +kernel
theorem dX11_known_2 : decode cX11_known 2 = .ok (.invokevirtual 194, 3) := by decide +kernel
theorem dX11_known_5 : decode cX11_known 5 = .ok (.aload_n 0, 1) := by decide +kernel
theorem dX11_known_6 : decode cX11_known 6 = .ok (.getfield 27, 3) := by decide +kernel
theorem dX11_known_9 : decode cX11_known 9 = .ok (.getfield 177, 3) := by decide +kernel
theorem dX11_known_12 : decode cX11_known 12 = .ok (.iload_n 1, 1) := by decide +kernel
theorem dX11_known_13 : decode cX11_known 13 = .ok (.iload_n 2, 1) := by decide +kernel
theorem dX11_known_14 : decode cX11_known 14 = .ok (.invokevirtual 230, 3) := by decide +kernel
theorem dX11_known_17 : decode cX11_known 17 = .ok (.ireturn, 1) := by decide +kernel
theorem dX11_place_0 : decode cX11_place 0 = .ok (.aload_n 0, 1) := by decide +kernel
theorem dX11_place_1 : decode cX11_place 1 = .ok (.iload_n 1, 1) := by decide +kernel
theorem dX11_place_2 : decode cX11_place 2 = .ok (.invokevirtual 194, 3) := by decide +kernel
theorem dX11_place_5 : decode cX11_place 5 = .ok (.iload_n 2, 1) := by decide +kernel
theorem dX11_place_6 : decode cX11_place 6 = .ok (.iconst 0, 1) := by decide +kernel
theorem dX11_place_7 : decode cX11_place 7 = .ok (.sipush 1000, 3) := by decide +kernel
theorem dX11_place_10 : decode cX11_place 10 = .ok (.invokestatic 234, 3) := by decide +kernel
theorem dX11_place_13 : decode cX11_place 13 = .ok (.aload_n 0, 1) := by decide +kernel
theorem dX11_place_14 : decode cX11_place 14 = .ok (.getfield 27, 3) := by decide +kernel
theorem dX11_place_17 : decode cX11_place 17 = .ok (.iload_n 1, 1) := by decide +kernel
theorem dX11_place_18 : decode cX11_place 18 = .ok (.iload_n 2, 1) := by decide +kernel
theorem dX11_place_19 : decode cX11_place 19 = .ok (.invokevirtual 238, 3) := by decide +kernel
theorem dX11_place_22 : decode cX11_place 22 = .ok (.ireturn, 1) := by decide +kernel
theorem dX11_falls_0 : decode cX11_falls 0 = .ok (.aload_n 0, 1) := by decide +kernel
theorem dX11_falls_1 : decode cX11_falls 1 = .ok (.iload_n 1, 1) := by decide +kernel
theorem dX11_falls_2 : decode cX11_falls 2 = .ok (.invokevirtual 194, 3) := by decide +kernel
theorem dX11_falls_5 : decode cX11_falls 5 = .ok (.aload_n 0, 1) := by decide +kernel
theorem dX11_falls_6 : decode cX11_falls 6 = .ok (.iload_n 2, 1) := by decide +kernel
theorem dX11_falls_7 : decode cX11_falls 7 = .ok (.invokevirtual 150, 3) := by decide +kernel
theorem dX11_falls_10 : decode cX11_falls 10 = .ok (.aload_n 0, 1) := by decide +kernel
theorem dX11_falls_11 : decode cX11_falls 11 = .ok (.getfield 27, 3) := by decide +kernel
theorem dX11_falls_14 : decode cX11_falls 14 = .ok (.iload_n 1, 1) := by decide +kernel
theorem dX11_falls_15 : decode cX11_falls 15 = .ok (.iload_n 2, 1) := by decide +kernel
theorem dX11_falls_16 : decode cX11_falls 16 = .ok (.invokevirtual 241, 3) := by decide +kernel
theorem dX11_falls_19 : decode cX11_falls 19 = .ok (.ireturn, 1) := by decide +kernel
theorem dX11_order_0 : decode cX11_order 0 = .ok (.iload_n 1, 1) := by decide +kernel
theorem dX11_order_1 : decode cX11_order 1 = .ok (.ifCond .lt 17, 3) := by decide +kernel
theorem dX11_order_4 : decode cX11_order 4 = .ok (.iload_n 1, 1) := by decide +kernel
theorem dX11_order_5 : decode cX11_order 5 = .ok (.aload_n 0, 1) := by decide +kernel
theorem dX11_order_6 : decode cX11_order 6 = .ok (.getfield 27, 3) := by decide +kernel
theorem dX11_order_9 : decode cX11_order 9 = .ok (.getfield 31, 3) := by decide +kernel
theorem dX11_order_12 : decode cX11_order 12 = .ok (.getfield 244, 3) := by decide +kernel
theorem dX11_order_15 : decode cX11_order 15 = .ok (.if_icmp .lt 13, 3) := by decide +kernel
theorem dX11_order_18 : decode cX11_order 18 = .ok (.new 247, 3) := by decide +kernel
theorem dX11_order_21 : decode cX11_order 21 = .ok (.dup, 1) := by decide +kernel
theorem dX11_order_22 : decode cX11_order 22 = .ok (.ldc 249, 2) := by decide +kernel
theorem dX11_order_24 : decode cX11_order 24 = .ok (.invokespecial 251, 3) := by decide +kernel
theorem dX11_order_27 : decode cX11_order 27 = .ok (.athrow, 1) := by decide +kernel
theorem dX11_order_28 : decode cX11_order 28 = .ok (.iload_n 2, 1) := by decide +kernel
theorem dX11_order_29 : decode cX11_order 29 = .ok (.tableswitch 85 0 3 #[31, 46, 61, 73], 31) := by decide +kernel
theorem dX11_order_60 : decode cX11_order 60 = .ok (.aload_n 0, 1) := by decide +kernel
theorem dX11_order_61 : decode cX11_order 61 = .ok (.getfield 27, 3) := by decide +kernel
theorem dX11_order_64 : decode cX11_order 64 = .ok (.getfield 31, 3) := by decide +kernel
theorem dX11_order_67 : decode cX11_order 67 = .ok (.getfield 252, 3) := by decide +kernel
theorem dX11_order_70 : decode cX11_order 70 = .ok (.iload_n 1, 1) := by decide +kernel
theorem dX11_order_71 : decode cX11_order 71 = .ok (.invokestatic 157, 3) := by decide +kernel
theorem dX11_order_74 : decode cX11_order 74 = .ok (.ireturn, 1) := by decide +kernel
theorem dX11_order_75 : decode cX11_order 75 = .ok (.aload_n 0, 1) := by decide +kernel
theorem dX11_order_76 : decode cX11_order 76 = .ok (.getfield 27, 3) := by decide +kernel
theorem dX11_order_79 : decode cX11_order 79 = .ok (.getfield 31, 3) := by decide +kernel
theorem dX11_order_82 : decode cX11_order 82 = .ok (.getfield 255, 3) := by decide +kernel
theorem dX11_order_85 : decode cX11_order 85 = .ok (.iload_n 1, 1) := by decide +kernel
theorem dX11_order_86 : decode cX11_order 86 = .ok (.invokestatic 157, 3) := by decide +kernel
theorem dX11_order_89 : decode cX11_order 89 = .ok (.ireturn, 1) := by decide +kernel
theorem dX11_order_90 : decode cX11_order 90 = .ok (.aload_n 0, 1) := by decide +kernel
theorem dX11_order_91 : decode cX11_order 91 = .ok (.getfield 27, 3) := by decide +kernel
theorem dX11_order_94 : decode cX11_order 94 = .ok (.invokevirtual 224, 3) := by decide +kernel
theorem dX11_order_97 : decode cX11_order 97 = .ok (.iload_n 1, 1) := by decide +kernel
theorem dX11_order_98 : decode cX11_order 98 = .ok (.ishr, 1) := by decide +kernel
theorem dX11_order_99 : decode cX11_order 99 = .ok (.iconst 1, 1) := by decide +kernel
theorem dX11_order_100 : decode cX11_order 100 = .ok (.iand, 1) := by decide +kernel
theorem dX11_order_101 : decode cX11_order 101 = .ok (.ireturn, 1) := by decide +kernel
theorem dX11_order_102 : decode cX11_order 102 = .ok (.aload_n 0, 1) := by decide +kernel
theorem dX11_order_103 : decode cX11_order 103 = .ok (.getfield 27, 3) := by decide +kernel
theorem dX11_order_106 : decode cX11_order 106 = .ok (.getfield 31, 3) := by decide +kernel
theorem dX11_order_109 : decode cX11_order 109 = .ok (.iload_n 1, 1) := by decide +kernel
theorem dX11_order_110 : decode cX11_order 110 = .ok (.invokevirtual 258, 3) := by decide +kernel
theorem dX11_order_113 : decode cX11_order 113 = .ok (.ireturn, 1) := by decide +kernel
theorem dX11_order_114 : decode cX11_order 114 = .ok (.new 189, 3) := by decide +kernel
theorem dX11_order_117 : decode cX11_order 117 = .ok (.dup, 1) := by decide +kernel
theorem dX11_order_118 : decode cX11_order 118 = .ok (.ldc_w 261, 3) := by decide +kernel
theorem dX11_order_121 : decode cX11_order 121 = .ok (.invokespecial 193, 3) := by decide +kernel
theorem dX11_order_124 : decode cX11_order 124 = .ok (.athrow, 1) := by decide +kernel
theorem dX11_rule_0 : decode cX11_rule 0 = .ok (.aload_n 0, 1) := by decide +kernel
theorem dX11_rule_1 : decode cX11_rule 1 = .ok (.iload_n 1, 1) := by decide +kernel
theorem dX11_rule_2 : decode cX11_rule 2 = .ok (.invokevirtual 194, 3) := by decide +kernel
theorem dX11_rule_5 : decode cX11_rule 5 = .ok (.iload_n 2, 1) := by decide +kernel
theorem dX11_rule_6 : decode cX11_rule 6 = .ok (.tableswitch 77 0 3 #[30, 40, 50, 68], 30) := by decide +kernel
theorem dX11_rule_36 : decode cX11_rule 36 = .ok (.aload_n 0, 1) := by decide +kernel
theorem dX11_rule_37 : decode cX11_rule 37 = .ok (.getfield 27, 3) := by decide +kernel
theorem dX11_rule_40 : decode cX11_rule 40 = .ok (.iload_n 1, 1) := by decide +kernel
theorem dX11_rule_41 : decode cX11_rule 41 = .ok (.iconst 0, 1) := by decide +kernel
theorem dX11_rule_42 : decode cX11_rule 42 = .ok (.invokevirtual 263, 3) := by decide +kernel
theorem dX11_rule_45 : decode cX11_rule 45 = .ok (.ireturn, 1) := by decide +kernel
theorem dX11_rule_46 : decode cX11_rule 46 = .ok (.aload_n 0, 1) := by decide +kernel
theorem dX11_rule_47 : decode cX11_rule 47 = .ok (.getfield 27, 3) := by decide +kernel
theorem dX11_rule_50 : decode cX11_rule 50 = .ok (.iload_n 1, 1) := by decide +kernel
theorem dX11_rule_51 : decode cX11_rule 51 = .ok (.iconst 1, 1) := by decide +kernel
theorem dX11_rule_52 : decode cX11_rule 52 = .ok (.invokevirtual 263, 3) := by decide +kernel
theorem dX11_rule_55 : decode cX11_rule 55 = .ok (.ireturn, 1) := by decide +kernel
theorem dX11_rule_56 : decode cX11_rule 56 = .ok (.aload_n 0, 1) := by decide +kernel
theorem dX11_rule_57 : decode cX11_rule 57 = .ok (.getfield 27, 3) := by decide +kernel
theorem dX11_rule_60 : decode cX11_rule 60 = .ok (.iload_n 1, 1) := by decide +kernel
theorem dX11_rule_61 : decode cX11_rule 61 = .ok (.iconst 2, 1) := by decide +kernel
theorem dX11_rule_62 : decode cX11_rule 62 = .ok (.invokevirtual 263, 3) := by decide +kernel
theorem dX11_rule_65 : decode cX11_rule 65 = .ok (.ifCond .le 7, 3) := by decide +kernel
theorem dX11_rule_68 : decode cX11_rule 68 = .ok (.iconst 1, 1) := by decide +kernel
theorem dX11_rule_69 : decode cX11_rule 69 = .ok (.goto 4, 3) := by decide +kernel
theorem dX11_rule_72 : decode cX11_rule 72 = .ok (.iconst 0, 1) := by decide +kernel
theorem dX11_rule_73 : decode cX11_rule 73 = .ok (.ireturn, 1) := by decide +kernel
theorem dX11_rule_74 : decode cX11_rule 74 = .ok (.aload_n 0, 1) := by decide +kernel
theorem dX11_rule_75 : decode cX11_rule 75 = .ok (.getfield 27, 3) := by decide +kernel
theorem dX11_rule_78 : decode cX11_rule 78 = .ok (.iload_n 1, 1) := by decide +kernel
theorem dX11_rule_79 : decode cX11_rule 79 = .ok (.invokevirtual 266, 3) := by decide +kernel
theorem dX11_rule_82 : decode cX11_rule 82 = .ok (.ireturn, 1) := by decide +kernel
theorem dX11_rule_83 : decode cX11_rule 83 = .ok (.new 189, 3) := by decide +kernel
theorem dX11_rule_86 : decode cX11_rule 86 = .ok (.dup, 1) := by decide +kernel
theorem dX11_rule_87 : decode cX11_rule 87 = .ok (.ldc_w 269, 3) := by decide +kernel
theorem dX11_rule_90 : decode cX11_rule 90 = .ok (.invokespecial 193, 3) := by decide +kernel
theorem dX11_rule_93 : decode cX11_rule 93 = .ok (.athrow, 1) := by decide +kernel
theorem dX11_hours_0 : decode cX11_hours 0 = .ok (.iload_n 1, 1) := by decide +kernel
theorem dX11_hours_1 : decode cX11_hours 1 = .ok (.iconst 1, 1) := by decide +kernel
theorem dX11_hours_2 : decode cX11_hours 2 = .ok (.bipush 60, 2) := by decide +kernel
theorem dX11_hours_4 : decode cX11_hours 4 = .ok (.invokestatic 234, 3) := by decide +kernel
theorem dX11_hours_7 : decode cX11_hours 7 = .ok (.aload_n 0, 1) := by decide +kernel
theorem dX11_hours_8 : decode cX11_hours 8 = .ok (.getfield 69, 3) := by decide +kernel
theorem dX11_hours_11 : decode cX11_hours 11 = .ok (.aload_n 0, 1) := by decide +kernel
theorem dX11_hours_12 : decode cX11_hours 12 = .ok (.getfield 27, 3) := by decide +kernel
theorem dX11_hours_15 : decode cX11_hours 15 = .ok (.getfield 177, 3) := by decide +kernel
theorem dX11_hours_18 : decode cX11_hours 18 = .ok (.invokevirtual 271, 3) := by decide +kernel
theorem dX11_hours_21 : decode cX11_hours 21 = .ok (.aload_n 0, 1) := by decide +kernel
theorem dX11_hours_22 : decode cX11_hours 22 = .ok (.getfield 27, 3) := by decide +kernel
theorem dX11_hours_25 : decode cX11_hours 25 = .ok (.getfield 177, 3) := by decide +kernel
theorem dX11_hours_28 : decode cX11_hours 28 = .ok (.getfield 275, 3) := by decide +kernel
theorem dX11_hours_31 : decode cX11_hours 31 = .ok (.istore_n 2, 1) := by decide +kernel
theorem dX11_hours_32 : decode cX11_hours 32 = .ok (.iconst 0, 1) := by decide +kernel
theorem dX11_hours_33 : decode cX11_hours 33 = .ok (.istore_n 3, 1) := by decide +kernel
theorem dX11_hours_34 : decode cX11_hours 34 = .ok (.iload_n 3, 1) := by decide +kernel
theorem dX11_hours_35 : decode cX11_hours 35 = .ok (.iload_n 1, 1) := by decide +kernel
theorem dX11_hours_36 : decode cX11_hours 36 = .ok (.if_icmp .ge 16, 3) := by decide +kernel
theorem dX11_hours_39 : decode cX11_hours 39 = .ok (.aload_n 0, 1) := by decide +kernel
theorem dX11_hours_40 : decode cX11_hours 40 = .ok (.getfield 27, 3) := by decide +kernel
theorem dX11_hours_43 : decode cX11_hours 43 = .ok (.invokevirtual 278, 3) := by decide +kernel
theorem dX11_hours_46 : decode cX11_hours 46 = .ok (.iinc 3 1, 3) := by decide +kernel
theorem dX11_hours_49 : decode cX11_hours 49 = .ok (.goto (-15), 3) := by decide +kernel
theorem dX11_hours_52 : decode cX11_hours 52 = .ok (.aload_n 0, 1) := by decide +kernel
theorem dX11_hours_53 : decode cX11_hours 53 = .ok (.getfield 27, 3) := by decide +kernel
theorem dX11_hours_56 : decode cX11_hours 56 = .ok (.getfield 177, 3) := by decide +kernel
theorem dX11_hours_59 : decode cX11_hours 59 = .ok (.getfield 275, 3) := by decide +kernel
theorem dX11_hours_62 : decode cX11_hours 62 = .ok (.iload_n 2, 1) := by decide +kernel
theorem dX11_hours_63 : decode cX11_hours 63 = .ok (.isub, 1) := by decide +kernel
theorem dX11_hours_64 : decode cX11_hours 64 = .ok (.ireturn, 1) := by decide +kernel
theorem dX11_shoot_0 : decode cX11_shoot 0 = .ok (.aload_n 0, 1) := by decide +kernel
theorem dX11_shoot_1 : decode cX11_shoot 1 = .ok (.iload_n 1, 1) := by decide +kernel
theorem dX11_shoot_2 : decode cX11_shoot 2 = .ok (.iload_n 2, 1) := by decide +kernel
theorem dX11_shoot_3 : decode cX11_shoot 3 = .ok (.invokevirtual 281, 3) := by decide +kernel
theorem dX11_shoot_6 : decode cX11_shoot 6 = .ok (.aload_n 0, 1) := by decide +kernel
theorem dX11_shoot_7 : decode cX11_shoot 7 = .ok (.getfield 27, 3) := by decide +kernel
theorem dX11_shoot_10 : decode cX11_shoot 10 = .ok (.iload_n 1, 1) := by decide +kernel
theorem dX11_shoot_11 : decode cX11_shoot 11 = .ok (.iload_n 2, 1) := by decide +kernel
theorem dX11_shoot_12 : decode cX11_shoot 12 = .ok (.invokevirtual 285, 3) := by decide +kernel
theorem dX11_shoot_15 : decode cX11_shoot 15 = .ok (.ifCond .ne 33, 3) := by decide +kernel
theorem dX11_shoot_18 : decode cX11_shoot 18 = .ok (.aload_n 0, 1) := by decide +kernel
theorem dX11_shoot_19 : decode cX11_shoot 19 = .ok (.getfield 27, 3) := by decide +kernel
theorem dX11_shoot_22 : decode cX11_shoot 22 = .ok (.iload_n 1, 1) := by decide +kernel
theorem dX11_shoot_23 : decode cX11_shoot 23 = .ok (.iload_n 2, 1) := by decide +kernel
theorem dX11_shoot_24 : decode cX11_shoot 24 = .ok (.invokevirtual 289, 3) := by decide +kernel
theorem dX11_shoot_27 : decode cX11_shoot 27 = .ok (.ifCond .eq 21, 3) := by decide +kernel
theorem dX11_shoot_30 : decode cX11_shoot 30 = .ok (.aload_n 0, 1) := by decide +kernel
theorem dX11_shoot_31 : decode cX11_shoot 31 = .ok (.getfield 27, 3) := by decide +kernel
theorem dX11_shoot_34 : decode cX11_shoot 34 = .ok (.getfield 177, 3) := by decide +kernel
theorem dX11_shoot_37 : decode cX11_shoot 37 = .ok (.getfield 203, 3) := by decide +kernel
theorem dX11_shoot_40 : decode cX11_shoot 40 = .ok (.iload_n 2, 1) := by decide +kernel
theorem dX11_shoot_41 : decode cX11_shoot 41 = .ok (.invokestatic 157, 3) := by decide +kernel
theorem dX11_shoot_44 : decode cX11_shoot 44 = .ok (.iconst 1, 1) := by decide +kernel
theorem dX11_shoot_45 : decode cX11_shoot 45 = .ok (.if_icmp .ge 14, 3) := by decide +kernel
theorem dX11_shoot_48 : decode cX11_shoot 48 = .ok (.new 292, 3) := by decide +kernel
theorem dX11_shoot_51 : decode cX11_shoot 51 = .ok (.dup, 1) := by decide +kernel
theorem dX11_shoot_52 : decode cX11_shoot 52 = .ok (.ldc_w 294, 3) := by decide +kernel
theorem dX11_shoot_55 : decode cX11_shoot 55 = .ok (.invokespecial 296, 3) := by decide +kernel
theorem dX11_shoot_58 : decode cX11_shoot 58 = .ok (.athrow, 1) := by decide +kernel
theorem dX11_shoot_59 : decode cX11_shoot 59 = .ok (.aload_n 0, 1) := by decide +kernel
theorem dX11_shoot_60 : decode cX11_shoot 60 = .ok (.getfield 69, 3) := by decide +kernel
theorem dX11_shoot_63 : decode cX11_shoot 63 = .ok (.aload_n 0, 1) := by decide +kernel
theorem dX11_shoot_64 : decode cX11_shoot 64 = .ok (.getfield 27, 3) := by decide +kernel
theorem dX11_shoot_67 : decode cX11_shoot 67 = .ok (.getfield 177, 3) := by decide +kernel
theorem dX11_shoot_70 : decode cX11_shoot 70 = .ok (.invokevirtual 271, 3) := by decide +kernel
theorem dX11_shoot_73 : decode cX11_shoot 73 = .ok (.aload_n 0, 1) := by decide +kernel
theorem dX11_shoot_74 : decode cX11_shoot 74 = .ok (.getfield 27, 3) := by decide +kernel
theorem dX11_shoot_77 : decode cX11_shoot 77 = .ok (.iload_n 1, 1) := by decide +kernel
theorem dX11_shoot_78 : decode cX11_shoot 78 = .ok (.iload_n 2, 1) := by decide +kernel
theorem dX11_shoot_79 : decode cX11_shoot 79 = .ok (.iload_n 3, 1) := by decide +kernel
theorem dX11_shoot_80 : decode cX11_shoot 80 = .ok (.invokevirtual 297, 3) := by decide +kernel
theorem dX11_shoot_83 : decode cX11_shoot 83 = .ok (.ireturn, 1) := by decide +kernel
theorem dX11_teach_0 : decode cX11_teach 0 = .ok (.aload_n 0, 1) := by decide +kernel
theorem dX11_teach_1 : decode cX11_teach 1 = .ok (.iload_n 1, 1) := by decide +kernel
theorem dX11_teach_2 : decode cX11_teach 2 = .ok (.invokevirtual 194, 3) := by decide +kernel
theorem dX11_teach_5 : decode cX11_teach 5 = .ok (.aload_n 0, 1) := by decide +kernel
theorem dX11_teach_6 : decode cX11_teach 6 = .ok (.iload_n 2, 1) := by decide +kernel
theorem dX11_teach_7 : decode cX11_teach 7 = .ok (.invokevirtual 194, 3) := by decide +kernel
theorem dX11_teach_10 : decode cX11_teach 10 = .ok (.aload_n 0, 1) := by decide +kernel
theorem dX11_teach_11 : decode cX11_teach 11 = .ok (.iload_n 3, 1) := by decide +kernel
theorem dX11_teach_12 : decode cX11_teach 12 = .ok (.invokevirtual 150, 3) := by decide +kernel
theorem dX11_teach_15 : decode cX11_teach 15 = .ok (.iload_n 1, 1) := by decide +kernel
theorem dX11_teach_16 : decode cX11_teach 16 = .ok (.iload_n 2, 1) := by decide +kernel
theorem dX11_teach_17 : decode cX11_teach 17 = .ok (.invokestatic 301, 3) := by decide +kernel
theorem dX11_teach_20 : decode cX11_teach 20 = .ok (.aload_n 0, 1) := by decide +kernel
theorem dX11_teach_21 : decode cX11_teach 21 = .ok (.getfield 27, 3) := by decide +kernel
theorem dX11_teach_24 : decode cX11_teach 24 = .ok (.iload_n 1, 1) := by decide +kernel
theorem dX11_teach_25 : decode cX11_teach 25 = .ok (.iload_n 2, 1) := by decide +kernel
theorem dX11_teach_26 : decode cX11_teach 26 = .ok (.invokevirtual 285, 3) := by decide +kernel
theorem dX11_teach_29 : decode cX11_teach 29 = .ok (.ifCond .eq 19, 3) := by decide +kernel
theorem dX11_teach_32 : decode cX11_teach 32 = .ok (.aload_n 0, 1) := by decide +kernel
theorem dX11_teach_33 : decode cX11_teach 33 = .ok (.getfield 27, 3) := by decide +kernel
theorem dX11_teach_36 : decode cX11_teach 36 = .ok (.iload_n 1, 1) := by decide +kernel
theorem dX11_teach_37 : decode cX11_teach 37 = .ok (.iload_n 2, 1) := by decide +kernel
theorem dX11_teach_38 : decode cX11_teach 38 = .ok (.invokevirtual 289, 3) := by decide +kernel
theorem dX11_teach_41 : decode cX11_teach 41 = .ok (.ifCond .eq 7, 3) := by decide +kernel
theorem dX11_teach_44 : decode cX11_teach 44 = .ok (.iconst 1, 1) := by decide +kernel
theorem dX11_teach_45 : decode cX11_teach 45 = .ok (.goto 4, 3) := by decide +kernel
theorem dX11_teach_48 : decode cX11_teach 48 = .ok (.iconst 0, 1) := by decide +kernel
theorem dX11_teach_49 : decode cX11_teach 49 = .ok (.istore 4, 2) := by decide +kernel
theorem dX11_teach_51 : decode cX11_teach 51 = .ok (.iload 4, 2) := by decide +kernel
theorem dX11_teach_53 : decode cX11_teach 53 = .ok (.ifCond .eq 27, 3) := by decide +kernel
theorem dX11_teach_56 : decode cX11_teach 56 = .ok (.aload_n 0, 1) := by decide +kernel
theorem dX11_teach_57 : decode cX11_teach 57 = .ok (.getfield 27, 3) := by decide +kernel
theorem dX11_teach_60 : decode cX11_teach 60 = .ok (.iload_n 2, 1) := by decide +kernel
theorem dX11_teach_61 : decode cX11_teach 61 = .ok (.iload_n 3, 1) := by decide +kernel
theorem dX11_teach_62 : decode cX11_teach 62 = .ok (.invokevirtual 304, 3) := by decide +kernel
theorem dX11_teach_65 : decode cX11_teach 65 = .ok (.ifCond .eq 15, 3) := by decide +kernel
theorem dX11_teach_68 : decode cX11_teach 68 = .ok (.aload_n 0, 1) := by decide +kernel
theorem dX11_teach_69 : decode cX11_teach 69 = .ok (.getfield 27, 3) := by decide +kernel
theorem dX11_teach_72 : decode cX11_teach 72 = .ok (.iload_n 1, 1) := by decide +kernel
theorem dX11_teach_73 : decode cX11_teach 73 = .ok (.iload_n 3, 1) := by decide +kernel
theorem dX11_teach_74 : decode cX11_teach 74 = .ok (.invokevirtual 307, 3) := by decide +kernel
theorem dX11_teach_77 : decode cX11_teach 77 = .ok (.ifCond .ne 14, 3) := by decide +kernel
theorem dX11_teach_80 : decode cX11_teach 80 = .ok (.new 292, 3) := by decide +kernel
theorem dX11_teach_83 : decode cX11_teach 83 = .ok (.dup, 1) := by decide +kernel
theorem dX11_teach_84 : decode cX11_teach 84 = .ok (.ldc_w 310, 3) := by decide +kernel
theorem dX11_teach_87 : decode cX11_teach 87 = .ok (.invokespecial 296, 3) := by decide +kernel
theorem dX11_teach_90 : decode cX11_teach 90 = .ok (.athrow, 1) := by decide +kernel
theorem dX11_teach_91 : decode cX11_teach 91 = .ok (.aload_n 0, 1) := by decide +kernel
theorem dX11_teach_92 : decode cX11_teach 92 = .ok (.getfield 69, 3) := by decide +kernel
theorem dX11_teach_95 : decode cX11_teach 95 = .ok (.aload_n 0, 1) := by decide +kernel
theorem dX11_teach_96 : decode cX11_teach 96 = .ok (.getfield 27, 3) := by decide +kernel
theorem dX11_teach_99 : decode cX11_teach 99 = .ok (.getfield 177, 3) := by decide +kernel
theorem dX11_teach_102 : decode cX11_teach 102 = .ok (.invokevirtual 271, 3) := by decide +kernel
theorem dX11_teach_105 : decode cX11_teach 105 = .ok (.aload_n 0, 1) := by decide +kernel
theorem dX11_teach_106 : decode cX11_teach 106 = .ok (.getfield 27, 3) := by decide +kernel
theorem dX11_teach_109 : decode cX11_teach 109 = .ok (.iload_n 1, 1) := by decide +kernel
theorem dX11_teach_110 : decode cX11_teach 110 = .ok (.iload_n 3, 1) := by decide +kernel
theorem dX11_teach_111 : decode cX11_teach 111 = .ok (.invokevirtual 312, 3) := by decide +kernel
theorem dX11_teach_114 : decode cX11_teach 114 = .ok (.aload_n 0, 1) := by decide +kernel
theorem dX11_teach_115 : decode cX11_teach 115 = .ok (.getfield 27, 3) := by decide +kernel
theorem dX11_teach_118 : decode cX11_teach 118 = .ok (.getfield 177, 3) := by decide +kernel
theorem dX11_teach_121 : decode cX11_teach 121 = .ok (.getfield 203, 3) := by decide +kernel
theorem dX11_teach_124 : decode cX11_teach 124 = .ok (.iload_n 1, 1) := by decide +kernel
theorem dX11_teach_125 : decode cX11_teach 125 = .ok (.invokestatic 157, 3) := by decide +kernel
theorem dX11_teach_128 : decode cX11_teach 128 = .ok (.ireturn, 1) := by decide +kernel
theorem dX11_gather_0 : decode cX11_gather 0 = .ok (.aload_n 0, 1) := by decide +kernel
theorem dX11_gather_1 : decode cX11_gather 1 = .ok (.iload_n 1, 1) := by decide +kernel
theorem dX11_gather_2 : decode cX11_gather 2 = .ok (.invokevirtual 194, 3) := by decide +kernel
theorem dX11_gather_5 : decode cX11_gather 5 = .ok (.aload_n 0, 1) := by decide +kernel
theorem dX11_gather_6 : decode cX11_gather 6 = .ok (.iload_n 2, 1) := by decide +kernel
theorem dX11_gather_7 : decode cX11_gather 7 = .ok (.invokevirtual 315, 3) := by decide +kernel
theorem dX11_gather_10 : decode cX11_gather 10 = .ok (.aload_n 0, 1) := by decide +kernel
theorem dX11_gather_11 : decode cX11_gather 11 = .ok (.getfield 27, 3) := by decide +kernel
theorem dX11_gather_14 : decode cX11_gather 14 = .ok (.getfield 177, 3) := by decide +kernel
theorem dX11_gather_17 : decode cX11_gather 17 = .ok (.getfield 318, 3) := by decide +kernel
theorem dX11_gather_20 : decode cX11_gather 20 = .ok (.iload_n 2, 1) := by decide +kernel
theorem dX11_gather_21 : decode cX11_gather 21 = .ok (.invokestatic 157, 3) := by decide +kernel
theorem dX11_gather_24 : decode cX11_gather 24 = .ok (.istore_n 3, 1) := by decide +kernel
theorem dX11_gather_25 : decode cX11_gather 25 = .ok (.aload_n 0, 1) := by decide +kernel
theorem dX11_gather_26 : decode cX11_gather 26 = .ok (.getfield 27, 3) := by decide +kernel
theorem dX11_gather_29 : decode cX11_gather 29 = .ok (.getfield 177, 3) := by decide +kernel
theorem dX11_gather_32 : decode cX11_gather 32 = .ok (.getfield 321, 3) := by decide +kernel
theorem dX11_gather_35 : decode cX11_gather 35 = .ok (.iload_n 2, 1) := by decide +kernel
theorem dX11_gather_36 : decode cX11_gather 36 = .ok (.invokestatic 157, 3) := by decide +kernel
theorem dX11_gather_39 : decode cX11_gather 39 = .ok (.aload_n 0, 1) := by decide +kernel
theorem dX11_gather_40 : decode cX11_gather 40 = .ok (.getfield 27, 3) := by decide +kernel
theorem dX11_gather_43 : decode cX11_gather 43 = .ok (.getfield 177, 3) := by decide +kernel
theorem dX11_gather_46 : decode cX11_gather 46 = .ok (.getfield 200, 3) := by decide +kernel
theorem dX11_gather_49 : decode cX11_gather 49 = .ok (.iload_n 1, 1) := by decide +kernel
theorem dX11_gather_50 : decode cX11_gather 50 = .ok (.invokestatic 157, 3) := by decide +kernel
theorem dX11_gather_53 : decode cX11_gather 53 = .ok (.if_icmp .ne 15, 3) := by decide +kernel
theorem dX11_gather_56 : decode cX11_gather 56 = .ok (.aload_n 0, 1) := by decide +kernel
theorem dX11_gather_57 : decode cX11_gather 57 = .ok (.getfield 27, 3) := by decide +kernel
theorem dX11_gather_60 : decode cX11_gather 60 = .ok (.iload_n 1, 1) := by decide +kernel
theorem dX11_gather_61 : decode cX11_gather 61 = .ok (.iload_n 3, 1) := by decide +kernel
theorem dX11_gather_62 : decode cX11_gather 62 = .ok (.invokevirtual 307, 3) := by decide +kernel
theorem dX11_gather_65 : decode cX11_gather 65 = .ok (.ifCond .ne 14, 3) := by decide +kernel
theorem dX11_gather_68 : decode cX11_gather 68 = .ok (.new 292, 3) := by decide +kernel
theorem dX11_gather_71 : decode cX11_gather 71 = .ok (.dup, 1) := by decide +kernel
theorem dX11_gather_72 : decode cX11_gather 72 = .ok (.ldc_w 324, 3) := by decide +kernel
theorem dX11_gather_75 : decode cX11_gather 75 = .ok (.invokespecial 296, 3) := by decide +kernel
theorem dX11_gather_78 : decode cX11_gather 78 = .ok (.athrow, 1) := by decide +kernel
theorem dX11_gather_79 : decode cX11_gather 79 = .ok (.aload_n 0, 1) := by decide +kernel
theorem dX11_gather_80 : decode cX11_gather 80 = .ok (.getfield 69, 3) := by decide +kernel
theorem dX11_gather_83 : decode cX11_gather 83 = .ok (.aload_n 0, 1) := by decide +kernel
theorem dX11_gather_84 : decode cX11_gather 84 = .ok (.getfield 27, 3) := by decide +kernel
theorem dX11_gather_87 : decode cX11_gather 87 = .ok (.getfield 177, 3) := by decide +kernel
theorem dX11_gather_90 : decode cX11_gather 90 = .ok (.invokevirtual 271, 3) := by decide +kernel
theorem dX11_gather_93 : decode cX11_gather 93 = .ok (.aload_n 0, 1) := by decide +kernel
theorem dX11_gather_94 : decode cX11_gather 94 = .ok (.getfield 27, 3) := by decide +kernel
theorem dX11_gather_97 : decode cX11_gather 97 = .ok (.iload_n 1, 1) := by decide +kernel
theorem dX11_gather_98 : decode cX11_gather 98 = .ok (.iload_n 3, 1) := by decide +kernel
theorem dX11_gather_99 : decode cX11_gather 99 = .ok (.invokevirtual 312, 3) := by decide +kernel
theorem dX11_gather_102 : decode cX11_gather 102 = .ok (.aload_n 0, 1) := by decide +kernel
theorem dX11_gather_103 : decode cX11_gather 103 = .ok (.getfield 27, 3) := by decide +kernel
theorem dX11_gather_106 : decode cX11_gather 106 = .ok (.getfield 177, 3) := by decide +kernel
theorem dX11_gather_109 : decode cX11_gather 109 = .ok (.iload_n 2, 1) := by decide +kernel
theorem dX11_gather_110 : decode cX11_gather 110 = .ok (.invokevirtual 326, 3) := by decide +kernel
theorem dX11_gather_113 : decode cX11_gather 113 = .ok (.iload_n 3, 1) := by decide +kernel
theorem dX11_gather_114 : decode cX11_gather 114 = .ok (.ireturn, 1) := by decide +kernel
theorem dX11_read_0 : decode cX11_read 0 = .ok (.aload_n 0, 1) := by decide +kernel
theorem dX11_read_1 : decode cX11_read 1 = .ok (.iload_n 1, 1) := by decide +kernel
theorem dX11_read_2 : decode cX11_read 2 = .ok (.invokevirtual 194, 3) := by decide +kernel
theorem dX11_read_5 : decode cX11_read 5 = .ok (.aload_n 0, 1) := by decide +kernel
theorem dX11_read_6 : decode cX11_read 6 = .ok (.getfield 27, 3) := by decide +kernel
theorem dX11_read_9 : decode cX11_read 9 = .ok (.getfield 31, 3) := by decide +kernel
theorem dX11_read_12 : decode cX11_read 12 = .ok (.getfield 212, 3) := by decide +kernel
theorem dX11_read_15 : decode cX11_read 15 = .ok (.iload_n 1, 1) := by decide +kernel
theorem dX11_read_16 : decode cX11_read 16 = .ok (.invokestatic 157, 3) := by decide +kernel
theorem dX11_read_19 : decode cX11_read 19 = .ok (.ifCond .ne 14, 3) := by decide +kernel
theorem dX11_read_22 : decode cX11_read 22 = .ok (.new 292, 3) := by decide +kernel
theorem dX11_read_25 : decode cX11_read 25 = .ok (.dup, 1) := by decide +kernel
theorem dX11_read_26 : decode cX11_read 26 = .ok (.ldc_w 329, 3) := by decide +kernel
theorem dX11_read_29 : decode cX11_read 29 = .ok (.invokespecial 296, 3) := by decide +kernel
theorem dX11_read_32 : decode cX11_read 32 = .ok (.athrow, 1) := by decide +kernel
theorem dX11_read_33 : decode cX11_read 33 = .ok (.aload_n 0, 1) := by decide +kernel
theorem dX11_read_34 : decode cX11_read 34 = .ok (.getfield 69, 3) := by decide +kernel
theorem dX11_read_37 : decode cX11_read 37 = .ok (.aload_n 0, 1) := by decide +kernel
theorem dX11_read_38 : decode cX11_read 38 = .ok (.getfield 27, 3) := by decide +kernel
theorem dX11_read_41 : decode cX11_read 41 = .ok (.getfield 177, 3) := by decide +kernel
theorem dX11_read_44 : decode cX11_read 44 = .ok (.invokevirtual 271, 3) := by decide +kernel
theorem dX11_read_47 : decode cX11_read 47 = .ok (.aload_n 0, 1) := by decide +kernel
theorem dX11_read_48 : decode cX11_read 48 = .ok (.getfield 27, 3) := by decide +kernel
theorem dX11_read_51 : decode cX11_read 51 = .ok (.iload_n 1, 1) := by decide +kernel
theorem dX11_read_52 : decode cX11_read 52 = .ok (.invokevirtual 331, 3) := by decide +kernel
theorem dX11_read_55 : decode cX11_read 55 = .ok (.ireturn, 1) := by decide +kernel
theorem dX11_field_0 : decode cX11_field 0 = .ok (.aload_n 0, 1) := by decide +kernel
theorem dX11_field_1 : decode cX11_field 1 = .ok (.iload_n 1, 1) := by decide +kernel
theorem dX11_field_2 : decode cX11_field 2 = .ok (.invokevirtual 315, 3) := by decide +kernel
theorem dX11_field_5 : decode cX11_field 5 = .ok (.iload_n 2, 1) := by decide +kernel
theorem dX11_field_6 : decode cX11_field 6 = .ok (.tableswitch 71 0 2 #[26, 41, 56], 26) := by decide +kernel
theorem dX11_field_32 : decode cX11_field 32 = .ok (.aload_n 0, 1) := by decide +kernel
theorem dX11_field_33 : decode cX11_field 33 = .ok (.getfield 27, 3) := by decide +kernel
theorem dX11_field_36 : decode cX11_field 36 = .ok (.getfield 177, 3) := by decide +kernel
theorem dX11_field_39 : decode cX11_field 39 = .ok (.getfield 318, 3) := by decide +kernel
theorem dX11_field_42 : decode cX11_field 42 = .ok (.iload_n 1, 1) := by decide +kernel
theorem dX11_field_43 : decode cX11_field 43 = .ok (.invokestatic 157, 3) := by decide +kernel
theorem dX11_field_46 : decode cX11_field 46 = .ok (.ireturn, 1) := by decide +kernel
theorem dX11_field_47 : decode cX11_field 47 = .ok (.aload_n 0, 1) := by decide +kernel
theorem dX11_field_48 : decode cX11_field 48 = .ok (.getfield 27, 3) := by decide +kernel
theorem dX11_field_51 : decode cX11_field 51 = .ok (.getfield 177, 3) := by decide +kernel
theorem dX11_field_54 : decode cX11_field 54 = .ok (.getfield 321, 3) := by decide +kernel
theorem dX11_field_57 : decode cX11_field 57 = .ok (.iload_n 1, 1) := by decide +kernel
theorem dX11_field_58 : decode cX11_field 58 = .ok (.invokestatic 157, 3) := by decide +kernel
theorem dX11_field_61 : decode cX11_field 61 = .ok (.ireturn, 1) := by decide +kernel
theorem dX11_field_62 : decode cX11_field 62 = .ok (.aload_n 0, 1) := by decide +kernel
theorem dX11_field_63 : decode cX11_field 63 = .ok (.getfield 27, 3) := by decide +kernel
theorem dX11_field_66 : decode cX11_field 66 = .ok (.getfield 177, 3) := by decide +kernel
theorem dX11_field_69 : decode cX11_field 69 = .ok (.getfield 334, 3) := by decide +kernel
theorem dX11_field_72 : decode cX11_field 72 = .ok (.iload_n 1, 1) := by decide +kernel
theorem dX11_field_73 : decode cX11_field 73 = .ok (.invokestatic 157, 3) := by decide +kernel
theorem dX11_field_76 : decode cX11_field 76 = .ok (.ireturn, 1) := by decide +kernel
theorem dX11_field_77 : decode cX11_field 77 = .ok (.new 189, 3) := by decide +kernel
theorem dX11_field_80 : decode cX11_field 80 = .ok (.dup, 1) := by decide +kernel
theorem dX11_field_81 : decode cX11_field 81 = .ok (.ldc_w 337, 3) := by decide +kernel
theorem dX11_field_84 : decode cX11_field 84 = .ok (.invokespecial 193, 3) := by decide +kernel
theorem dX11_field_87 : decode cX11_field 87 = .ok (.athrow, 1) := by decide +kernel
theorem dX11_plan_0 : decode cX11_plan 0 = .ok (.iload_n 1, 1) := by decide +kernel
theorem dX11_plan_1 : decode cX11_plan 1 = .ok (.invokestatic 339, 3) := by decide +kernel
theorem dX11_plan_4 : decode cX11_plan 4 = .ok (.aload_n 0, 1) := by decide +kernel
theorem dX11_plan_5 : decode cX11_plan 5 = .ok (.getfield 27, 3) := by decide +kernel
theorem dX11_plan_8 : decode cX11_plan 8 = .ok (.getfield 31, 3) := by decide +kernel
theorem dX11_plan_11 : decode cX11_plan 11 = .ok (.getfield 342, 3) := by decide +kernel
theorem dX11_plan_14 : decode cX11_plan 14 = .ok (.iload_n 1, 1) := by decide +kernel
theorem dX11_plan_15 : decode cX11_plan 15 = .ok (.invokestatic 157, 3) := by decide +kernel
theorem dX11_plan_18 : decode cX11_plan 18 = .ok (.istore_n 3, 1) := by decide +kernel
theorem dX11_plan_19 : decode cX11_plan 19 = .ok (.iload_n 2, 1) := by decide +kernel
theorem dX11_plan_20 : decode cX11_plan 20 = .ok (.ifCond .eq 18, 3) := by decide +kernel
theorem dX11_plan_23 : decode cX11_plan 23 = .ok (.iload_n 3, 1) := by decide +kernel
theorem dX11_plan_24 : decode cX11_plan 24 = .ok (.aload_n 0, 1) := by decide +kernel
theorem dX11_plan_25 : decode cX11_plan 25 = .ok (.getfield 27, 3) := by decide +kernel
theorem dX11_plan_28 : decode cX11_plan 28 = .ok (.iload_n 1, 1) := by decide +kernel
theorem dX11_plan_29 : decode cX11_plan 29 = .ok (.invokevirtual 345, 3) := by decide +kernel
theorem dX11_plan_32 : decode cX11_plan 32 = .ok (.iconst (-1), 1) := by decide +kernel
theorem dX11_plan_33 : decode cX11_plan 33 = .ok (.ixor, 1) := by decide +kernel
theorem dX11_plan_34 : decode cX11_plan 34 = .ok (.iand, 1) := by decide +kernel
theorem dX11_plan_35 : decode cX11_plan 35 = .ok (.goto 4, 3) := by decide +kernel
theorem dX11_plan_38 : decode cX11_plan 38 = .ok (.iload_n 3, 1) := by decide +kernel
theorem dX11_plan_39 : decode cX11_plan 39 = .ok (.ireturn, 1) := by decide +kernel
theorem dX11_shots_0 : decode cX11_shots 0 = .ok (.aload_n 0, 1) := by decide +kernel
theorem dX11_shots_1 : decode cX11_shots 1 = .ok (.iload_n 1, 1) := by decide +kernel
theorem dX11_shots_2 : decode cX11_shots 2 = .ok (.invokevirtual 194, 3) := by decide +kernel
theorem dX11_shots_5 : decode cX11_shots 5 = .ok (.aload_n 0, 1) := by decide +kernel
theorem dX11_shots_6 : decode cX11_shots 6 = .ok (.iload_n 2, 1) := by decide +kernel
theorem dX11_shots_7 : decode cX11_shots 7 = .ok (.invokevirtual 150, 3) := by decide +kernel
theorem dX11_shots_10 : decode cX11_shots 10 = .ok (.aload_n 0, 1) := by decide +kernel
theorem dX11_shots_11 : decode cX11_shots 11 = .ok (.getfield 78, 3) := by decide +kernel
theorem dX11_shots_14 : decode cX11_shots 14 = .ok (.iload_n 1, 1) := by decide +kernel
theorem dX11_shots_15 : decode cX11_shots 15 = .ok (.iload_n 2, 1) := by decide +kernel
theorem dX11_shots_16 : decode cX11_shots 16 = .ok (.iload_n 3, 1) := by decide +kernel
theorem dX11_shots_17 : decode cX11_shots 17 = .ok (.invokevirtual 348, 3) := by decide +kernel
theorem dX11_shots_20 : decode cX11_shots 20 = .ok (.ireturn, 1) := by decide +kernel
theorem dX11_outlasts_0 : decode cX11_outlasts 0 = .ok (.iload_n 1, 1) := by decide +kernel
theorem dX11_outlasts_1 : decode cX11_outlasts 1 = .ok (.invokestatic 339, 3) := by decide +kernel
theorem dX11_outlasts_4 : decode cX11_outlasts 4 = .ok (.aload_n 0, 1) := by decide +kernel
theorem dX11_outlasts_5 : decode cX11_outlasts 5 = .ok (.getfield 78, 3) := by decide +kernel
theorem dX11_outlasts_8 : decode cX11_outlasts 8 = .ok (.iload_n 1, 1) := by decide +kernel
theorem dX11_outlasts_9 : decode cX11_outlasts 9 = .ok (.iload_n 2, 1) := by decide +kernel
theorem dX11_outlasts_10 : decode cX11_outlasts 10 = .ok (.invokevirtual 351, 3) := by decide +kernel
theorem dX11_outlasts_13 : decode cX11_outlasts 13 = .ok (.istore 4, 2) := by decide +kernel
theorem dX11_outlasts_15 : decode cX11_outlasts 15 = .ok (.iload_n 3, 1) := by decide +kernel
theorem dX11_outlasts_16 : decode cX11_outlasts 16 = .ok (.ifCond .ne 9, 3) := by decide +kernel
theorem dX11_outlasts_19 : decode cX11_outlasts 19 = .ok (.iload 4, 2) := by decide +kernel
theorem dX11_outlasts_21 : decode cX11_outlasts 21 = .ok (.iconst (-1), 1) := by decide +kernel
theorem dX11_outlasts_22 : decode cX11_outlasts 22 = .ok (.if_icmp .ne 8, 3) := by decide +kernel
theorem dX11_outlasts_25 : decode cX11_outlasts 25 = .ok (.iload 4, 2) := by decide +kernel
theorem dX11_outlasts_27 : decode cX11_outlasts 27 = .ok (.goto 14, 3) := by decide +kernel
theorem dX11_outlasts_30 : decode cX11_outlasts 30 = .ok (.aload_n 0, 1) := by decide +kernel
theorem dX11_outlasts_31 : decode cX11_outlasts 31 = .ok (.getfield 78, 3) := by decide +kernel
theorem dX11_outlasts_34 : decode cX11_outlasts 34 = .ok (.iload_n 1, 1) := by decide +kernel
theorem dX11_outlasts_35 : decode cX11_outlasts 35 = .ok (.iload 4, 2) := by decide +kernel
theorem dX11_outlasts_37 : decode cX11_outlasts 37 = .ok (.iload_n 2, 1) := by decide +kernel
theorem dX11_outlasts_38 : decode cX11_outlasts 38 = .ok (.invokevirtual 355, 3) := by decide +kernel
theorem dX11_outlasts_41 : decode cX11_outlasts 41 = .ok (.ireturn, 1) := by decide +kernel
theorem dX11_reserves_0 : decode cX11_reserves 0 = .ok (.iload_n 1, 1) := by decide +kernel
theorem dX11_reserves_1 : decode cX11_reserves 1 = .ok (.invokestatic 339, 3) := by decide +kernel
theorem dX11_reserves_4 : decode cX11_reserves 4 = .ok (.iload_n 2, 1) := by decide +kernel
theorem dX11_reserves_5 : decode cX11_reserves 5 = .ok (.iconst 1, 1) := by decide +kernel
theorem dX11_reserves_6 : decode cX11_reserves 6 = .ok (.bipush 10, 2) := by decide +kernel
theorem dX11_reserves_8 : decode cX11_reserves 8 = .ok (.invokestatic 234, 3) := by decide +kernel
theorem dX11_reserves_11 : decode cX11_reserves 11 = .ok (.aload_n 0, 1) := by decide +kernel
theorem dX11_reserves_12 : decode cX11_reserves 12 = .ok (.getfield 78, 3) := by decide +kernel
theorem dX11_reserves_15 : decode cX11_reserves 15 = .ok (.iload_n 1, 1) := by decide +kernel
theorem dX11_reserves_16 : decode cX11_reserves 16 = .ok (.iload_n 2, 1) := by decide +kernel
theorem dX11_reserves_17 : decode cX11_reserves 17 = .ok (.invokevirtual 358, 3) := by decide +kernel
theorem dX11_reserves_20 : decode cX11_reserves 20 = .ok (.ireturn, 1) := by decide +kernel
theorem dX11_company_0 : decode cX11_company 0 = .ok (.iload_n 1, 1) := by decide +kernel
theorem dX11_company_1 : decode cX11_company 1 = .ok (.iconst 0, 1) := by decide +kernel
theorem dX11_company_2 : decode cX11_company 2 = .ok (.bipush 12, 2) := by decide +kernel
theorem dX11_company_4 : decode cX11_company 4 = .ok (.invokestatic 234, 3) := by decide +kernel
theorem dX11_company_7 : decode cX11_company 7 = .ok (.aload_n 0, 1) := by decide +kernel
theorem dX11_company_8 : decode cX11_company 8 = .ok (.getfield 78, 3) := by decide +kernel
theorem dX11_company_11 : decode cX11_company 11 = .ok (.iload_n 1, 1) := by decide +kernel
theorem dX11_company_12 : decode cX11_company 12 = .ok (.invokevirtual 361, 3) := by decide +kernel
theorem dX11_company_15 : decode cX11_company 15 = .ok (.ireturn, 1) := by decide +kernel
theorem dX11_drill_0 : decode cX11_drill 0 = .ok (.aload_n 0, 1) := by decide +kernel
theorem dX11_drill_1 : decode cX11_drill 1 = .ok (.getfield 78, 3) := by decide +kernel
theorem dX11_drill_4 : decode cX11_drill 4 = .ok (.invokevirtual 364, 3) := by decide +kernel
theorem dX11_drill_7 : decode cX11_drill 7 = .ok (.istore_n 2, 1) := by decide +kernel
theorem dX11_drill_8 : decode cX11_drill 8 = .ok (.iload_n 1, 1) := by decide +kernel
theorem dX11_drill_9 : decode cX11_drill 9 = .ok (.ifCond .eq 22, 3) := by decide +kernel
theorem dX11_drill_12 : decode cX11_drill 12 = .ok (.iload_n 2, 1) := by decide +kernel
theorem dX11_drill_13 : decode cX11_drill 13 = .ok (.iconst (-1), 1) := by decide +kernel
theorem dX11_drill_14 : decode cX11_drill 14 = .ok (.if_icmp .eq 17, 3) := by decide +kernel
theorem dX11_drill_17 : decode cX11_drill 17 = .ok (.aload_n 0, 1) := by decide +kernel
theorem dX11_drill_18 : decode cX11_drill 18 = .ok (.getfield 27, 3) := by decide +kernel
theorem dX11_drill_21 : decode cX11_drill 21 = .ok (.getfield 31, 3) := by decide +kernel
theorem dX11_drill_24 : decode cX11_drill 24 = .ok (.iload_n 2, 1) := by decide +kernel
theorem dX11_drill_25 : decode cX11_drill 25 = .ok (.invokevirtual 258, 3) := by decide +kernel
theorem dX11_drill_28 : decode cX11_drill 28 = .ok (.goto 4, 3) := by decide +kernel
theorem dX11_drill_31 : decode cX11_drill 31 = .ok (.iload_n 2, 1) := by decide +kernel
theorem dX11_drill_32 : decode cX11_drill 32 = .ok (.ireturn, 1) := by decide +kernel
theorem dX11_duel_0 : decode cX11_duel 0 = .ok (.aload_n 0, 1) := by decide +kernel
theorem dX11_duel_1 : decode cX11_duel 1 = .ok (.iload_n 1, 1) := by decide +kernel
theorem dX11_duel_2 : decode cX11_duel 2 = .ok (.iload_n 2, 1) := by decide +kernel
theorem dX11_duel_3 : decode cX11_duel 3 = .ok (.invokevirtual 281, 3) := by decide +kernel
theorem dX11_duel_6 : decode cX11_duel 6 = .ok (.aload_n 0, 1) := by decide +kernel
theorem dX11_duel_7 : decode cX11_duel 7 = .ok (.getfield 78, 3) := by decide +kernel
theorem dX11_duel_10 : decode cX11_duel 10 = .ok (.iload_n 1, 1) := by decide +kernel
theorem dX11_duel_11 : decode cX11_duel 11 = .ok (.iload_n 2, 1) := by decide +kernel
theorem dX11_duel_12 : decode cX11_duel 12 = .ok (.invokevirtual 367, 3) := by decide +kernel
theorem dX11_duel_15 : decode cX11_duel 15 = .ok (.ifCond .eq 6, 3) := by decide +kernel
theorem dX11_duel_18 : decode cX11_duel 18 = .ok (.bipush (-3), 2) := by decide +kernel
theorem dX11_duel_20 : decode cX11_duel 20 = .ok (.ireturn, 1) := by decide +kernel
theorem dX11_duel_21 : decode cX11_duel 21 = .ok (.aload_n 0, 1) := by decide +kernel
theorem dX11_duel_22 : decode cX11_duel 22 = .ok (.getfield 78, 3) := by decide +kernel
theorem dX11_duel_25 : decode cX11_duel 25 = .ok (.iload_n 1, 1) := by decide +kernel
theorem dX11_duel_26 : decode cX11_duel 26 = .ok (.iload_n 2, 1) := by decide +kernel
theorem dX11_duel_27 : decode cX11_duel 27 = .ok (.invokevirtual 370, 3) := by decide +kernel
theorem dX11_duel_30 : decode cX11_duel 30 = .ok (.ifCond .eq 7, 3) := by decide +kernel
theorem dX11_duel_33 : decode cX11_duel 33 = .ok (.iload_n 1, 1) := by decide +kernel
theorem dX11_duel_34 : decode cX11_duel 34 = .ok (.goto 4, 3) := by decide +kernel
theorem dX11_duel_37 : decode cX11_duel 37 = .ok (.iload_n 2, 1) := by decide +kernel
theorem dX11_duel_38 : decode cX11_duel 38 = .ok (.ireturn, 1) := by decide +kernel
theorem dX11_best_0 : decode cX11_best 0 = .ok (.aload_n 0, 1) := by decide +kernel
theorem dX11_best_1 : decode cX11_best 1 = .ok (.iload_n 1, 1) := by decide +kernel
theorem dX11_best_2 : decode cX11_best 2 = .ok (.iload_n 2, 1) := by decide +kernel
theorem dX11_best_3 : decode cX11_best 3 = .ok (.invokevirtual 281, 3) := by decide +kernel
theorem dX11_best_6 : decode cX11_best 6 = .ok (.aload_n 0, 1) := by decide +kernel
theorem dX11_best_7 : decode cX11_best 7 = .ok (.getfield 78, 3) := by decide +kernel
theorem dX11_best_10 : decode cX11_best 10 = .ok (.iload_n 1, 1) := by decide +kernel
theorem dX11_best_11 : decode cX11_best 11 = .ok (.iload_n 2, 1) := by decide +kernel
theorem dX11_best_12 : decode cX11_best 12 = .ok (.invokevirtual 367, 3) := by decide +kernel
theorem dX11_best_15 : decode cX11_best 15 = .ok (.ifCond .eq 8, 3) := by decide +kernel
theorem dX11_best_18 : decode cX11_best 18 = .ok (.bipush (-3), 2) := by decide +kernel
theorem dX11_best_20 : decode cX11_best 20 = .ok (.goto 12, 3) := by decide +kernel
theorem dX11_best_23 : decode cX11_best 23 = .ok (.aload_n 0, 1) := by decide +kernel
theorem dX11_best_24 : decode cX11_best 24 = .ok (.getfield 78, 3) := by decide +kernel
theorem dX11_best_27 : decode cX11_best 27 = .ok (.iload_n 1, 1) := by decide +kernel
theorem dX11_best_28 : decode cX11_best 28 = .ok (.iload_n 2, 1) := by decide +kernel
theorem dX11_best_29 : decode cX11_best 29 = .ok (.invokevirtual 373, 3) := by decide +kernel
theorem dX11_best_32 : decode cX11_best 32 = .ok (.ireturn, 1) := by decide +kernel
theorem dX11_spread_0 : decode cX11_spread 0 = .ok (.aload_n 0, 1) := by decide +kernel
theorem dX11_spread_1 : decode cX11_spread 1 = .ok (.iload_n 1, 1) := by decide +kernel
theorem dX11_spread_2 : decode cX11_spread 2 = .ok (.invokevirtual 150, 3) := by decide +kernel
theorem dX11_spread_5 : decode cX11_spread 5 = .ok (.iload_n 2, 1) := by decide +kernel
theorem dX11_spread_6 : decode cX11_spread 6 = .ok (.invokestatic 339, 3) := by decide +kernel
theorem dX11_spread_9 : decode cX11_spread 9 = .ok (.iload_n 3, 1) := by decide +kernel
theorem dX11_spread_10 : decode cX11_spread 10 = .ok (.iconst 0, 1) := by decide +kernel
theorem dX11_spread_11 : decode cX11_spread 11 = .ok (.bipush 60, 2) := by decide +kernel
theorem dX11_spread_13 : decode cX11_spread 13 = .ok (.invokestatic 234, 3) := by decide +kernel
theorem dX11_spread_16 : decode cX11_spread 16 = .ok (.aload_n 0, 1) := by decide +kernel
theorem dX11_spread_17 : decode cX11_spread 17 = .ok (.getfield 85, 3) := by decide +kernel
theorem dX11_spread_20 : decode cX11_spread 20 = .ok (.iload_n 2, 1) := by decide +kernel
theorem dX11_spread_21 : decode cX11_spread 21 = .ok (.iload_n 3, 1) := by decide +kernel
theorem dX11_spread_22 : decode cX11_spread 22 = .ok (.invokevirtual 376, 3) := by decide +kernel
theorem dX11_spread_25 : decode cX11_spread 25 = .ok (.aload_n 0, 1) := by decide +kernel
theorem dX11_spread_26 : decode cX11_spread 26 = .ok (.getfield 85, 3) := by decide +kernel
theorem dX11_spread_29 : decode cX11_spread 29 = .ok (.aload_n 0, 1) := by decide +kernel
theorem dX11_spread_30 : decode cX11_spread 30 = .ok (.getfield 27, 3) := by decide +kernel
theorem dX11_spread_33 : decode cX11_spread 33 = .ok (.iload_n 2, 1) := by decide +kernel
theorem dX11_spread_34 : decode cX11_spread 34 = .ok (.invokevirtual 379, 3) := by decide +kernel
theorem dX11_spread_37 : decode cX11_spread 37 = .ok (.aload_n 0, 1) := by decide +kernel
theorem dX11_spread_38 : decode cX11_spread 38 = .ok (.getfield 27, 3) := by decide +kernel
theorem dX11_spread_41 : decode cX11_spread 41 = .ok (.iload_n 1, 1) := by decide +kernel
theorem dX11_spread_42 : decode cX11_spread 42 = .ok (.invokevirtual 174, 3) := by decide +kernel
theorem dX11_spread_45 : decode cX11_spread 45 = .ok (.iand, 1) := by decide +kernel
theorem dX11_spread_46 : decode cX11_spread 46 = .ok (.iconst 0, 1) := by decide +kernel
theorem dX11_spread_47 : decode cX11_spread 47 = .ok (.iload_n 3, 1) := by decide +kernel
theorem dX11_spread_48 : decode cX11_spread 48 = .ok (.invokevirtual 382, 3) := by decide +kernel
theorem dX11_spread_51 : decode cX11_spread 51 = .ok (.ireturn, 1) := by decide +kernel
theorem dX11_soonest_0 : decode cX11_soonest 0 = .ok (.aload_n 0, 1) := by decide +kernel
theorem dX11_soonest_1 : decode cX11_soonest 1 = .ok (.iload_n 1, 1) := by decide +kernel
theorem dX11_soonest_2 : decode cX11_soonest 2 = .ok (.invokevirtual 194, 3) := by decide +kernel
theorem dX11_soonest_5 : decode cX11_soonest 5 = .ok (.aload_n 0, 1) := by decide +kernel
theorem dX11_soonest_6 : decode cX11_soonest 6 = .ok (.iload_n 2, 1) := by decide +kernel
theorem dX11_soonest_7 : decode cX11_soonest 7 = .ok (.invokevirtual 194, 3) := by decide +kernel
theorem dX11_soonest_10 : decode cX11_soonest 10 = .ok (.aload_n 0, 1) := by decide +kernel
theorem dX11_soonest_11 : decode cX11_soonest 11 = .ok (.getfield 27, 3) := by decide +kernel
theorem dX11_soonest_14 : decode cX11_soonest 14 = .ok (.iload_n 1, 1) := by decide +kernel
theorem dX11_soonest_15 : decode cX11_soonest 15 = .ok (.iload_n 2, 1) := by decide +kernel
theorem dX11_soonest_16 : decode cX11_soonest 16 = .ok (.invokevirtual 285, 3) := by decide +kernel
theorem dX11_soonest_19 : decode cX11_soonest 19 = .ok (.ifCond .ne 14, 3) := by decide +kernel
theorem dX11_soonest_22 : decode cX11_soonest 22 = .ok (.new 122, 3) := by decide +kernel
theorem dX11_soonest_25 : decode cX11_soonest 25 = .ok (.dup, 1) := by decide +kernel
theorem dX11_soonest_26 : decode cX11_soonest 26 = .ok (.ldc_w 386, 3) := by decide +kernel
theorem dX11_soonest_29 : decode cX11_soonest 29 = .ok (.invokespecial 126, 3) := by decide +kernel
theorem dX11_soonest_32 : decode cX11_soonest 32 = .ok (.athrow, 1) := by decide +kernel
theorem dX11_soonest_33 : decode cX11_soonest 33 = .ok (.aload_n 0, 1) := by decide +kernel
theorem dX11_soonest_34 : decode cX11_soonest 34 = .ok (.getfield 85, 3) := by decide +kernel
theorem dX11_soonest_37 : decode cX11_soonest 37 = .ok (.iload_n 1, 1) := by decide +kernel
theorem dX11_soonest_38 : decode cX11_soonest 38 = .ok (.iload_n 2, 1) := by decide +kernel
theorem dX11_soonest_39 : decode cX11_soonest 39 = .ok (.invokevirtual 388, 3) := by decide +kernel
theorem dX11_soonest_42 : decode cX11_soonest 42 = .ok (.ireturn, 1) := by decide +kernel
theorem dX11_mute_0 : decode cX11_mute 0 = .ok (.aload_n 0, 1) := by decide +kernel
theorem dX11_mute_1 : decode cX11_mute 1 = .ok (.iload_n 1, 1) := by decide +kernel
theorem dX11_mute_2 : decode cX11_mute 2 = .ok (.invokevirtual 150, 3) := by decide +kernel
theorem dX11_mute_5 : decode cX11_mute 5 = .ok (.iload_n 2, 1) := by decide +kernel
theorem dX11_mute_6 : decode cX11_mute 6 = .ok (.invokestatic 339, 3) := by decide +kernel
theorem dX11_mute_9 : decode cX11_mute 9 = .ok (.aload_n 0, 1) := by decide +kernel
theorem dX11_mute_10 : decode cX11_mute 10 = .ok (.getfield 85, 3) := by decide +kernel
theorem dX11_mute_13 : decode cX11_mute 13 = .ok (.iload_n 1, 1) := by decide +kernel
theorem dX11_mute_14 : decode cX11_mute 14 = .ok (.iload_n 2, 1) := by decide +kernel
theorem dX11_mute_15 : decode cX11_mute 15 = .ok (.invokevirtual 391, 3) := by decide +kernel
theorem dX11_mute_18 : decode cX11_mute 18 = .ok (.ireturn, 1) := by decide +kernel
theorem dX11_amends_0 : decode cX11_amends 0 = .ok (.aload_n 0, 1) := by decide +kernel
theorem dX11_amends_1 : decode cX11_amends 1 = .ok (.iload_n 1, 1) := by decide +kernel
theorem dX11_amends_2 : decode cX11_amends 2 = .ok (.invokevirtual 194, 3) := by decide +kernel
theorem dX11_amends_5 : decode cX11_amends 5 = .ok (.aload_n 0, 1) := by decide +kernel
theorem dX11_amends_6 : decode cX11_amends 6 = .ok (.getfield 78, 3) := by decide +kernel
theorem dX11_amends_9 : decode cX11_amends 9 = .ok (.iload_n 1, 1) := by decide +kernel
theorem dX11_amends_10 : decode cX11_amends 10 = .ok (.invokevirtual 394, 3) := by decide +kernel
theorem dX11_amends_13 : decode cX11_amends 13 = .ok (.ireturn, 1) := by decide +kernel
theorem dX11_agreed_0 : decode cX11_agreed 0 = .ok (.aload_n 0, 1) := by decide +kernel
theorem dX11_agreed_1 : decode cX11_agreed 1 = .ok (.getfield 27, 3) := by decide +kernel
theorem dX11_agreed_4 : decode cX11_agreed 4 = .ok (.iconst 0, 1) := by decide +kernel
theorem dX11_agreed_5 : decode cX11_agreed 5 = .ok (.invokevirtual 345, 3) := by decide +kernel
theorem dX11_agreed_8 : decode cX11_agreed 8 = .ok (.aload_n 0, 1) := by decide +kernel
theorem dX11_agreed_9 : decode cX11_agreed 9 = .ok (.getfield 27, 3) := by decide +kernel
theorem dX11_agreed_12 : decode cX11_agreed 12 = .ok (.iconst 1, 1) := by decide +kernel
theorem dX11_agreed_13 : decode cX11_agreed 13 = .ok (.invokevirtual 345, 3) := by decide +kernel
theorem dX11_agreed_16 : decode cX11_agreed 16 = .ok (.iand, 1) := by decide +kernel
theorem dX11_agreed_17 : decode cX11_agreed 17 = .ok (.ireturn, 1) := by decide +kernel
theorem dX11_treaty_0 : decode cX11_treaty 0 = .ok (.iload_n 1, 1) := by decide +kernel
theorem dX11_treaty_1 : decode cX11_treaty 1 = .ok (.aload_n 0, 1) := by decide +kernel
theorem dX11_treaty_2 : decode cX11_treaty 2 = .ok (.getfield 27, 3) := by decide +kernel
theorem dX11_treaty_5 : decode cX11_treaty 5 = .ok (.getfield 31, 3) := by decide +kernel
theorem dX11_treaty_8 : decode cX11_treaty 8 = .ok (.invokevirtual 397, 3) := by decide +kernel
theorem dX11_treaty_11 : decode cX11_treaty 11 = .ok (.iand, 1) := by decide +kernel
theorem dX11_treaty_12 : decode cX11_treaty 12 = .ok (.istore_n 3, 1) := by decide +kernel
theorem dX11_treaty_13 : decode cX11_treaty 13 = .ok (.iload_n 2, 1) := by decide +kernel
theorem dX11_treaty_14 : decode cX11_treaty 14 = .ok (.ifCond .eq 12, 3) := by decide +kernel
theorem dX11_treaty_17 : decode cX11_treaty 17 = .ok (.aload_n 0, 1) := by decide +kernel
theorem dX11_treaty_18 : decode cX11_treaty 18 = .ok (.getfield 78, 3) := by decide +kernel
theorem dX11_treaty_21 : decode cX11_treaty 21 = .ok (.iload_n 3, 1) := by decide +kernel
theorem dX11_treaty_22 : decode cX11_treaty 22 = .ok (.invokevirtual 400, 3) := by decide +kernel
theorem dX11_treaty_25 : decode cX11_treaty 25 = .ok (.ireturn, 1) := by decide +kernel
theorem dX11_treaty_26 : decode cX11_treaty 26 = .ok (.iload_n 3, 1) := by decide +kernel
theorem dX11_treaty_27 : decode cX11_treaty 27 = .ok (.aload_n 0, 1) := by decide +kernel
theorem dX11_treaty_28 : decode cX11_treaty 28 = .ok (.getfield 27, 3) := by decide +kernel
theorem dX11_treaty_31 : decode cX11_treaty 31 = .ok (.iconst 0, 1) := by decide +kernel
theorem dX11_treaty_32 : decode cX11_treaty 32 = .ok (.invokevirtual 345, 3) := by decide +kernel
theorem dX11_treaty_35 : decode cX11_treaty 35 = .ok (.aload_n 0, 1) := by decide +kernel
theorem dX11_treaty_36 : decode cX11_treaty 36 = .ok (.getfield 27, 3) := by decide +kernel
theorem dX11_treaty_39 : decode cX11_treaty 39 = .ok (.iconst 1, 1) := by decide +kernel
theorem dX11_treaty_40 : decode cX11_treaty 40 = .ok (.invokevirtual 345, 3) := by decide +kernel
theorem dX11_treaty_43 : decode cX11_treaty 43 = .ok (.iand, 1) := by decide +kernel
theorem dX11_treaty_44 : decode cX11_treaty 44 = .ok (.iconst (-1), 1) := by decide +kernel
theorem dX11_treaty_45 : decode cX11_treaty 45 = .ok (.ixor, 1) := by decide +kernel
theorem dX11_treaty_46 : decode cX11_treaty 46 = .ok (.iand, 1) := by decide +kernel
theorem dX11_treaty_47 : decode cX11_treaty 47 = .ok (.istore 4, 2) := by decide +kernel
theorem dX11_treaty_49 : decode cX11_treaty 49 = .ok (.iload 4, 2) := by decide +kernel
theorem dX11_treaty_51 : decode cX11_treaty 51 = .ok (.ifCond .ne 7, 3) := by decide +kernel
theorem dX11_treaty_54 : decode cX11_treaty 54 = .ok (.iconst 1, 1) := by decide +kernel
theorem dX11_treaty_55 : decode cX11_treaty 55 = .ok (.goto 4, 3) := by decide +kernel
theorem dX11_treaty_58 : decode cX11_treaty 58 = .ok (.iconst 0, 1) := by decide +kernel
theorem dX11_treaty_59 : decode cX11_treaty 59 = .ok (.ireturn, 1) := by decide +kernel
theorem dX11_matches_0 : decode cX11_matches 0 = .ok (.aload_n 0, 1) := by decide +kernel
theorem dX11_matches_1 : decode cX11_matches 1 = .ok (.getfield 10, 3) := by decide +kernel
theorem dX11_matches_4 : decode cX11_matches 4 = .ok (.getfield 104, 3) := by decide +kernel
theorem dX11_matches_7 : decode cX11_matches 7 = .ok (.istore_n 3, 1) := by decide +kernel
theorem dX11_matches_8 : decode cX11_matches 8 = .ok (.aload_n 0, 1) := by decide +kernel
theorem dX11_matches_9 : decode cX11_matches 9 = .ok (.getfield 92, 3) := by decide +kernel
theorem dX11_matches_12 : decode cX11_matches 12 = .ok (.aload_n 0, 1) := by decide +kernel
theorem dX11_matches_13 : decode cX11_matches 13 = .ok (.getfield 10, 3) := by decide +kernel
theorem dX11_matches_16 : decode cX11_matches 16 = .ok (.invokevirtual 403, 3) := by decide +kernel
theorem dX11_matches_19 : decode cX11_matches 19 = .ok (.istore 4, 2) := by decide +kernel
theorem dX11_matches_21 : decode cX11_matches 21 = .ok (.aload_n 0, 1) := by decide +kernel
theorem dX11_matches_22 : decode cX11_matches 22 = .ok (.getfield 10, 3) := by decide +kernel
theorem dX11_matches_25 : decode cX11_matches 25 = .ok (.iconst 0, 1) := by decide +kernel
theorem dX11_matches_26 : decode cX11_matches 26 = .ok (.putfield 104, 3) := by decide +kernel
theorem dX11_matches_29 : decode cX11_matches 29 = .ok (.iload_n 1, 1) := by decide +kernel
theorem dX11_matches_30 : decode cX11_matches 30 = .ok (.ifCond .lt 9, 3) := by decide +kernel
theorem dX11_matches_33 : decode cX11_matches 33 = .ok (.iload_n 1, 1) := by decide +kernel
theorem dX11_matches_34 : decode cX11_matches 34 = .ok (.bipush 8, 2) := by decide +kernel
theorem dX11_matches_36 : decode cX11_matches 36 = .ok (.if_icmp .lt 14, 3) := by decide +kernel
theorem dX11_matches_39 : decode cX11_matches 39 = .ok (.new 247, 3) := by decide +kernel
theorem dX11_matches_42 : decode cX11_matches 42 = .ok (.dup, 1) := by decide +kernel
theorem dX11_matches_43 : decode cX11_matches 43 = .ok (.ldc_w 407, 3) := by decide +kernel
theorem dX11_matches_46 : decode cX11_matches 46 = .ok (.invokespecial 251, 3) := by decide +kernel
theorem dX11_matches_49 : decode cX11_matches 49 = .ok (.athrow, 1) := by decide +kernel
theorem dX11_matches_50 : decode cX11_matches 50 = .ok (.iload 4, 2) := by decide +kernel
theorem dX11_matches_52 : decode cX11_matches 52 = .ok (.ifCond .eq 13, 3) := by decide +kernel
theorem dX11_matches_55 : decode cX11_matches 55 = .ok (.iload_n 2, 1) := by decide +kernel
theorem dX11_matches_56 : decode cX11_matches 56 = .ok (.iconst (-1), 1) := by decide +kernel
theorem dX11_matches_57 : decode cX11_matches 57 = .ok (.if_icmp .lt 8, 3) := by decide +kernel
theorem dX11_matches_60 : decode cX11_matches 60 = .ok (.iload_n 2, 1) := by decide +kernel
theorem dX11_matches_61 : decode cX11_matches 61 = .ok (.iload_n 3, 1) := by decide +kernel
theorem dX11_matches_62 : decode cX11_matches 62 = .ok (.if_icmp .lt 14, 3) := by decide +kernel
theorem dX11_matches_65 : decode cX11_matches 65 = .ok (.new 122, 3) := by decide +kernel
theorem dX11_matches_68 : decode cX11_matches 68 = .ok (.dup, 1) := by decide +kernel
theorem dX11_matches_69 : decode cX11_matches 69 = .ok (.ldc_w 409, 3) := by decide +kernel
theorem dX11_matches_72 : decode cX11_matches 72 = .ok (.invokespecial 126, 3) := by decide +kernel
theorem dX11_matches_75 : decode cX11_matches 75 = .ok (.athrow, 1) := by decide +kernel
theorem dX11_matches_76 : decode cX11_matches 76 = .ok (.aload_n 0, 1) := by decide +kernel
theorem dX11_matches_77 : decode cX11_matches 77 = .ok (.getfield 92, 3) := by decide +kernel
theorem dX11_matches_80 : decode cX11_matches 80 = .ok (.iload_n 1, 1) := by decide +kernel
theorem dX11_matches_81 : decode cX11_matches 81 = .ok (.invokevirtual 411, 3) := by decide +kernel
theorem dX11_matches_84 : decode cX11_matches 84 = .ok (.iload_n 2, 1) := by decide +kernel
theorem dX11_matches_85 : decode cX11_matches 85 = .ok (.iconst (-1), 1) := by decide +kernel
theorem dX11_matches_86 : decode cX11_matches 86 = .ok (.if_icmp .ne 13, 3) := by decide +kernel
theorem dX11_matches_89 : decode cX11_matches 89 = .ok (.aload_n 0, 1) := by decide +kernel
theorem dX11_matches_90 : decode cX11_matches 90 = .ok (.getfield 92, 3) := by decide +kernel
theorem dX11_matches_93 : decode cX11_matches 93 = .ok (.invokevirtual 414, 3) := by decide +kernel
theorem dX11_matches_96 : decode cX11_matches 96 = .ok (.goto 11, 3) := by decide +kernel
theorem dX11_matches_99 : decode cX11_matches 99 = .ok (.aload_n 0, 1) := by decide +kernel
theorem dX11_matches_100 : decode cX11_matches 100 = .ok (.getfield 92, 3) := by decide +kernel
theorem dX11_matches_103 : decode cX11_matches 103 = .ok (.iload_n 2, 1) := by decide +kernel
theorem dX11_matches_104 : decode cX11_matches 104 = .ok (.invokevirtual 417, 3) := by decide +kernel
theorem dX11_matches_107 : decode cX11_matches 107 = .ok (.ireturn, 1) := by decide +kernel
theorem dX11_trial_0 : decode cX11_trial 0 = .ok (.iload_n 1, 1) := by decide +kernel
theorem dX11_trial_1 : decode cX11_trial 1 = .ok (.iconst 0, 1) := by decide +kernel
theorem dX11_trial_2 : decode cX11_trial 2 = .ok (.bipush 60, 2) := by decide +kernel
theorem dX11_trial_4 : decode cX11_trial 4 = .ok (.invokestatic 234, 3) := by decide +kernel
theorem dX11_trial_7 : decode cX11_trial 7 = .ok (.iload_n 2, 1) := by decide +kernel
theorem dX11_trial_8 : decode cX11_trial 8 = .ok (.ifCond .lt 8, 3) := by decide +kernel
theorem dX11_trial_11 : decode cX11_trial 11 = .ok (.iload_n 2, 1) := by decide +kernel
theorem dX11_trial_12 : decode cX11_trial 12 = .ok (.iconst 3, 1) := by decide +kernel
theorem dX11_trial_13 : decode cX11_trial 13 = .ok (.if_icmp .le 14, 3) := by decide +kernel
theorem dX11_trial_16 : decode cX11_trial 16 = .ok (.new 189, 3) := by decide +kernel
theorem dX11_trial_19 : decode cX11_trial 19 = .ok (.dup, 1) := by decide +kernel
theorem dX11_trial_20 : decode cX11_trial 20 = .ok (.ldc_w 420, 3) := by decide +kernel
theorem dX11_trial_23 : decode cX11_trial 23 = .ok (.invokespecial 193, 3) := by decide +kernel
theorem dX11_trial_26 : decode cX11_trial 26 = .ok (.athrow, 1) := by decide +kernel
theorem dX11_trial_27 : decode cX11_trial 27 = .ok (.aload_n 0, 1) := by decide +kernel
theorem dX11_trial_28 : decode cX11_trial 28 = .ok (.getfield 27, 3) := by decide +kernel
theorem dX11_trial_31 : decode cX11_trial 31 = .ok (.invokevirtual 224, 3) := by decide +kernel
theorem dX11_trial_34 : decode cX11_trial 34 = .ok (.istore_n 3, 1) := by decide +kernel
theorem dX11_trial_35 : decode cX11_trial 35 = .ok (.iconst (-1), 1) := by decide +kernel
theorem dX11_trial_36 : decode cX11_trial 36 = .ok (.istore 4, 2) := by decide +kernel
theorem dX11_trial_38 : decode cX11_trial 38 = .ok (.aload_n 0, 1) := by decide +kernel
theorem dX11_trial_39 : decode cX11_trial 39 = .ok (.getfield 39, 3) := by decide +kernel
theorem dX11_trial_42 : decode cX11_trial 42 = .ok (.getfield 177, 3) := by decide +kernel
theorem dX11_trial_45 : decode cX11_trial 45 = .ok (.aload_n 0, 1) := by decide +kernel
theorem dX11_trial_46 : decode cX11_trial 46 = .ok (.getfield 27, 3) := by decide +kernel
theorem dX11_trial_49 : decode cX11_trial 49 = .ok (.getfield 177, 3) := by decide +kernel
theorem dX11_trial_52 : decode cX11_trial 52 = .ok (.invokevirtual 422, 3) := by decide +kernel
theorem dX11_trial_55 : decode cX11_trial 55 = .ok (.iconst 1, 1) := by decide +kernel
theorem dX11_trial_56 : decode cX11_trial 56 = .ok (.istore 5, 2) := by decide +kernel
theorem dX11_trial_58 : decode cX11_trial 58 = .ok (.iload 5, 2) := by decide +kernel
theorem dX11_trial_60 : decode cX11_trial 60 = .ok (.iload_n 1, 1) := by decide +kernel
theorem dX11_trial_61 : decode cX11_trial 61 = .ok (.if_icmp .gt 40, 3) := by decide +kernel
theorem dX11_trial_64 : decode cX11_trial 64 = .ok (.aload_n 0, 1) := by decide +kernel
theorem dX11_trial_65 : decode cX11_trial 65 = .ok (.getfield 39, 3) := by decide +kernel
theorem dX11_trial_68 : decode cX11_trial 68 = .ok (.invokevirtual 278, 3) := by decide +kernel
theorem dX11_trial_71 : decode cX11_trial 71 = .ok (.iload 4, 2) := by decide +kernel
theorem dX11_trial_73 : decode cX11_trial 73 = .ok (.iconst (-1), 1) := by decide +kernel
theorem dX11_trial_74 : decode cX11_trial 74 = .ok (.if_icmp .ne 21, 3) := by decide +kernel
theorem dX11_trial_77 : decode cX11_trial 77 = .ok (.iload_n 3, 1) := by decide +kernel
theorem dX11_trial_78 : decode cX11_trial 78 = .ok (.aload_n 0, 1) := by decide +kernel
theorem dX11_trial_79 : decode cX11_trial 79 = .ok (.getfield 39, 3) := by decide +kernel
theorem dX11_trial_82 : decode cX11_trial 82 = .ok (.invokevirtual 224, 3) := by decide +kernel
theorem dX11_trial_85 : decode cX11_trial 85 = .ok (.iconst (-1), 1) := by decide +kernel
theorem dX11_trial_86 : decode cX11_trial 86 = .ok (.ixor, 1) := by decide +kernel
theorem dX11_trial_87 : decode cX11_trial 87 = .ok (.iand, 1) := by decide +kernel
theorem dX11_trial_88 : decode cX11_trial 88 = .ok (.ifCond .eq 7, 3) := by decide +kernel
theorem dX11_trial_91 : decode cX11_trial 91 = .ok (.iload 5, 2) := by decide +kernel
theorem dX11_trial_93 : decode cX11_trial 93 = .ok (.istore 4, 2) := by decide +kernel
theorem dX11_trial_95 : decode cX11_trial 95 = .ok (.iinc 5 1, 3) := by decide +kernel
theorem dX11_trial_98 : decode cX11_trial 98 = .ok (.goto (-40), 3) := by decide +kernel
theorem dX11_trial_101 : decode cX11_trial 101 = .ok (.iload_n 2, 1) := by decide +kernel
theorem dX11_trial_102 : decode cX11_trial 102 = .ok (.tableswitch 60 0 2 #[26, 34, 52], 26) := by decide +kernel
theorem dX11_trial_128 : decode cX11_trial 128 = .ok (.aload_n 0, 1) := by decide +kernel
theorem dX11_trial_129 : decode cX11_trial 129 = .ok (.getfield 39, 3) := by decide +kernel
theorem dX11_trial_132 : decode cX11_trial 132 = .ok (.invokevirtual 424, 3) := by decide +kernel
theorem dX11_trial_135 : decode cX11_trial 135 = .ok (.ireturn, 1) := by decide +kernel
theorem dX11_trial_136 : decode cX11_trial 136 = .ok (.aload_n 0, 1) := by decide +kernel
theorem dX11_trial_137 : decode cX11_trial 137 = .ok (.getfield 39, 3) := by decide +kernel
theorem dX11_trial_140 : decode cX11_trial 140 = .ok (.iconst 0, 1) := by decide +kernel
theorem dX11_trial_141 : decode cX11_trial 141 = .ok (.invokevirtual 427, 3) := by decide +kernel
theorem dX11_trial_144 : decode cX11_trial 144 = .ok (.aload_n 0, 1) := by decide +kernel
theorem dX11_trial_145 : decode cX11_trial 145 = .ok (.getfield 39, 3) := by decide +kernel
theorem dX11_trial_148 : decode cX11_trial 148 = .ok (.iconst 1, 1) := by decide +kernel
theorem dX11_trial_149 : decode cX11_trial 149 = .ok (.invokevirtual 427, 3) := by decide +kernel
theorem dX11_trial_152 : decode cX11_trial 152 = .ok (.iadd, 1) := by decide +kernel
theorem dX11_trial_153 : decode cX11_trial 153 = .ok (.ireturn, 1) := by decide +kernel
theorem dX11_trial_154 : decode cX11_trial 154 = .ok (.aload_n 0, 1) := by decide +kernel
theorem dX11_trial_155 : decode cX11_trial 155 = .ok (.getfield 39, 3) := by decide +kernel
theorem dX11_trial_158 : decode cX11_trial 158 = .ok (.invokevirtual 224, 3) := by decide +kernel
theorem dX11_trial_161 : decode cX11_trial 161 = .ok (.ireturn, 1) := by decide +kernel
theorem dX11_trial_162 : decode cX11_trial 162 = .ok (.iload 4, 2) := by decide +kernel
theorem dX11_trial_164 : decode cX11_trial 164 = .ok (.ireturn, 1) := by decide +kernel
theorem dX11_span_0 : decode cX11_span 0 = .ok (.iload_n 1, 1) := by decide +kernel
theorem dX11_span_1 : decode cX11_span 1 = .ok (.invokestatic 339, 3) := by decide +kernel
theorem dX11_span_4 : decode cX11_span 4 = .ok (.iload_n 2, 1) := by decide +kernel
theorem dX11_span_5 : decode cX11_span 5 = .ok (.iconst 0, 1) := by decide +kernel
theorem dX11_span_6 : decode cX11_span 6 = .ok (.bipush 24, 2) := by decide +kernel
theorem dX11_span_8 : decode cX11_span 8 = .ok (.invokestatic 234, 3) := by decide +kernel
theorem dX11_span_11 : decode cX11_span 11 = .ok (.bipush 120, 2) := by decide +kernel
theorem dX11_span_13 : decode cX11_span 13 = .ok (.istore 4, 2) := by decide +kernel
theorem dX11_span_15 : decode cX11_span 15 = .ok (.iconst 0, 1) := by decide +kernel
theorem dX11_span_16 : decode cX11_span 16 = .ok (.istore 5, 2) := by decide +kernel
theorem dX11_span_18 : decode cX11_span 18 = .ok (.iconst 1, 1) := by decide +kernel
theorem dX11_span_19 : decode cX11_span 19 = .ok (.istore 6, 2) := by decide +kernel
theorem dX11_span_21 : decode cX11_span 21 = .ok (.iload 6, 2) := by decide +kernel
theorem dX11_span_23 : decode cX11_span 23 = .ok (.bipush 6, 2) := by decide +kernel
theorem dX11_span_25 : decode cX11_span 25 = .ok (.if_icmp .gt 90, 3) := by decide +kernel
theorem dX11_span_28 : decode cX11_span 28 = .ok (.aload_n 0, 1) := by decide +kernel
theorem dX11_span_29 : decode cX11_span 29 = .ok (.getfield 39, 3) := by decide +kernel
theorem dX11_span_32 : decode cX11_span 32 = .ok (.getfield 177, 3) := by decide +kernel
theorem dX11_span_35 : decode cX11_span 35 = .ok (.aload_n 0, 1) := by decide +kernel
theorem dX11_span_36 : decode cX11_span 36 = .ok (.getfield 27, 3) := by decide +kernel
theorem dX11_span_39 : decode cX11_span 39 = .ok (.getfield 177, 3) := by decide +kernel
theorem dX11_span_42 : decode cX11_span 42 = .ok (.invokevirtual 422, 3) := by decide +kernel
theorem dX11_span_45 : decode cX11_span 45 = .ok (.aload_n 0, 1) := by decide +kernel
theorem dX11_span_46 : decode cX11_span 46 = .ok (.getfield 39, 3) := by decide +kernel
theorem dX11_span_49 : decode cX11_span 49 = .ok (.getfield 177, 3) := by decide +kernel
theorem dX11_span_52 : decode cX11_span 52 = .ok (.iload 6, 2) := by decide +kernel
theorem dX11_span_54 : decode cX11_span 54 = .ok (.putfield 430, 3) := by decide +kernel
theorem dX11_span_57 : decode cX11_span 57 = .ok (.iconst 0, 1) := by decide +kernel
theorem dX11_span_58 : decode cX11_span 58 = .ok (.istore 7, 2) := by decide +kernel
theorem dX11_span_60 : decode cX11_span 60 = .ok (.iload 7, 2) := by decide +kernel
theorem dX11_span_62 : decode cX11_span 62 = .ok (.iload_n 2, 1) := by decide +kernel
theorem dX11_span_63 : decode cX11_span 63 = .ok (.if_icmp .ge 16, 3) := by decide +kernel
theorem dX11_span_66 : decode cX11_span 66 = .ok (.aload_n 0, 1) := by decide +kernel
theorem dX11_span_67 : decode cX11_span 67 = .ok (.getfield 39, 3) := by decide +kernel
theorem dX11_span_70 : decode cX11_span 70 = .ok (.invokevirtual 278, 3) := by decide +kernel
theorem dX11_span_73 : decode cX11_span 73 = .ok (.iinc 7 1, 3) := by decide +kernel
theorem dX11_span_76 : decode cX11_span 76 = .ok (.goto (-16), 3) := by decide +kernel
theorem dX11_span_79 : decode cX11_span 79 = .ok (.iload 4, 2) := by decide +kernel
theorem dX11_span_81 : decode cX11_span 81 = .ok (.aload_n 0, 1) := by decide +kernel
theorem dX11_span_82 : decode cX11_span 82 = .ok (.getfield 39, 3) := by decide +kernel
theorem dX11_span_85 : decode cX11_span 85 = .ok (.iload_n 1, 1) := by decide +kernel
theorem dX11_span_86 : decode cX11_span 86 = .ok (.invokevirtual 427, 3) := by decide +kernel
theorem dX11_span_89 : decode cX11_span 89 = .ok (.invokestatic 433, 3) := by decide +kernel
theorem dX11_span_92 : decode cX11_span 92 = .ok (.istore 4, 2) := by decide +kernel
theorem dX11_span_94 : decode cX11_span 94 = .ok (.iload 5, 2) := by decide +kernel
theorem dX11_span_96 : decode cX11_span 96 = .ok (.aload_n 0, 1) := by decide +kernel
theorem dX11_span_97 : decode cX11_span 97 = .ok (.getfield 39, 3) := by decide +kernel
theorem dX11_span_100 : decode cX11_span 100 = .ok (.iload_n 1, 1) := by decide +kernel
theorem dX11_span_101 : decode cX11_span 101 = .ok (.invokevirtual 427, 3) := by decide +kernel
theorem dX11_span_104 : decode cX11_span 104 = .ok (.invokestatic 438, 3) := by decide +kernel
theorem dX11_span_107 : decode cX11_span 107 = .ok (.istore 5, 2) := by decide +kernel
theorem dX11_span_109 : decode cX11_span 109 = .ok (.iinc 6 1, 3) := by decide +kernel
theorem dX11_span_112 : decode cX11_span 112 = .ok (.goto (-91), 3) := by decide +kernel
theorem dX11_span_115 : decode cX11_span 115 = .ok (.iload_n 3, 1) := by decide +kernel
theorem dX11_span_116 : decode cX11_span 116 = .ok (.ifCond .eq 8, 3) := by decide +kernel
theorem dX11_span_119 : decode cX11_span 119 = .ok (.iload 5, 2) := by decide +kernel
theorem dX11_span_121 : decode cX11_span 121 = .ok (.goto 5, 3) := by decide +kernel
theorem dX11_span_124 : decode cX11_span 124 = .ok (.iload 4, 2) := by decide +kernel
theorem dX11_span_126 : decode cX11_span 126 = .ok (.ireturn, 1) := by decide +kernel
theorem dX11_meets_0 : decode cX11_meets 0 = .ok (.aload_n 0, 1) := by decide +kernel
theorem dX11_meets_1 : decode cX11_meets 1 = .ok (.iload_n 1, 1) := by decide +kernel
theorem dX11_meets_2 : decode cX11_meets 2 = .ok (.iload_n 2, 1) := by decide +kernel
theorem dX11_meets_3 : decode cX11_meets 3 = .ok (.invokevirtual 281, 3) := by decide +kernel
theorem dX11_meets_6 : decode cX11_meets 6 = .ok (.iconst 0, 1) := by decide +kernel
theorem dX11_meets_7 : decode cX11_meets 7 = .ok (.istore_n 3, 1) := by decide +kernel
theorem dX11_meets_8 : decode cX11_meets 8 = .ok (.iload_n 3, 1) := by decide +kernel
theorem dX11_meets_9 : decode cX11_meets 9 = .ok (.sipush 144, 3) := by decide +kernel
theorem dX11_meets_12 : decode cX11_meets 12 = .ok (.if_icmp .gt 43, 3) := by decide +kernel
theorem dX11_meets_15 : decode cX11_meets 15 = .ok (.aload_n 0, 1) := by decide +kernel
theorem dX11_meets_16 : decode cX11_meets 16 = .ok (.getfield 27, 3) := by decide +kernel
theorem dX11_meets_19 : decode cX11_meets 19 = .ok (.iload_n 1, 1) := by decide +kernel
theorem dX11_meets_20 : decode cX11_meets 20 = .ok (.iload_n 3, 1) := by decide +kernel
theorem dX11_meets_21 : decode cX11_meets 21 = .ok (.invokevirtual 238, 3) := by decide +kernel
theorem dX11_meets_24 : decode cX11_meets 24 = .ok (.aload_n 0, 1) := by decide +kernel
theorem dX11_meets_25 : decode cX11_meets 25 = .ok (.getfield 27, 3) := by decide +kernel
theorem dX11_meets_28 : decode cX11_meets 28 = .ok (.iload_n 2, 1) := by decide +kernel
theorem dX11_meets_29 : decode cX11_meets 29 = .ok (.iload_n 3, 1) := by decide +kernel
theorem dX11_meets_30 : decode cX11_meets 30 = .ok (.invokevirtual 238, 3) := by decide +kernel
theorem dX11_meets_33 : decode cX11_meets 33 = .ok (.if_icmp .ne 16, 3) := by decide +kernel
theorem dX11_meets_36 : decode cX11_meets 36 = .ok (.aload_n 0, 1) := by decide +kernel
theorem dX11_meets_37 : decode cX11_meets 37 = .ok (.getfield 27, 3) := by decide +kernel
theorem dX11_meets_40 : decode cX11_meets 40 = .ok (.getfield 177, 3) := by decide +kernel
theorem dX11_meets_43 : decode cX11_meets 43 = .ok (.getfield 441, 3) := by decide +kernel
theorem dX11_meets_46 : decode cX11_meets 46 = .ok (.iload_n 3, 1) := by decide +kernel
theorem dX11_meets_47 : decode cX11_meets 47 = .ok (.iadd, 1) := by decide +kernel
theorem dX11_meets_48 : decode cX11_meets 48 = .ok (.ireturn, 1) := by decide +kernel
theorem dX11_meets_49 : decode cX11_meets 49 = .ok (.iinc 3 1, 3) := by decide +kernel
theorem dX11_meets_52 : decode cX11_meets 52 = .ok (.goto (-44), 3) := by decide +kernel
theorem dX11_meets_55 : decode cX11_meets 55 = .ok (.iconst (-1), 1) := by decide +kernel
theorem dX11_meets_56 : decode cX11_meets 56 = .ok (.ireturn, 1) := by decide +kernel
theorem dX11_log_0 : decode cX11_log 0 = .ok (.iload_n 2, 1) := by decide +kernel
theorem dX11_log_1 : decode cX11_log 1 = .ok (.ifCond .lt 8, 3) := by decide +kernel
theorem dX11_log_4 : decode cX11_log 4 = .ok (.iload_n 2, 1) := by decide +kernel
theorem dX11_log_5 : decode cX11_log 5 = .ok (.iconst 4, 1) := by decide +kernel
theorem dX11_log_6 : decode cX11_log 6 = .ok (.if_icmp .le 14, 3) := by decide +kernel
theorem dX11_log_9 : decode cX11_log 9 = .ok (.new 189, 3) := by decide +kernel
theorem dX11_log_12 : decode cX11_log 12 = .ok (.dup, 1) := by decide +kernel
theorem dX11_log_13 : decode cX11_log 13 = .ok (.ldc_w 444, 3) := by decide +kernel
theorem dX11_log_16 : decode cX11_log 16 = .ok (.invokespecial 193, 3) := by decide +kernel
theorem dX11_log_19 : decode cX11_log 19 = .ok (.athrow, 1) := by decide +kernel
theorem dX11_log_20 : decode cX11_log 20 = .ok (.aload_n 0, 1) := by decide +kernel
theorem dX11_log_21 : decode cX11_log 21 = .ok (.getfield 27, 3) := by decide +kernel
theorem dX11_log_24 : decode cX11_log 24 = .ok (.getfield 177, 3) := by decide +kernel
theorem dX11_log_27 : decode cX11_log 27 = .ok (.iload_n 1, 1) := by decide +kernel
theorem dX11_log_28 : decode cX11_log 28 = .ok (.invokevirtual 446, 3) := by decide +kernel
theorem dX11_log_31 : decode cX11_log 31 = .ok (.istore_n 3, 1) := by decide +kernel
theorem dX11_log_32 : decode cX11_log 32 = .ok (.iload_n 3, 1) := by decide +kernel
theorem dX11_log_33 : decode cX11_log 33 = .ok (.iconst (-1), 1) := by decide +kernel
theorem dX11_log_34 : decode cX11_log 34 = .ok (.if_icmp .ne 5, 3) := by decide +kernel
theorem dX11_log_37 : decode cX11_log 37 = .ok (.iconst (-1), 1) := by decide +kernel
theorem dX11_log_38 : decode cX11_log 38 = .ok (.ireturn, 1) := by decide +kernel
theorem dX11_log_39 : decode cX11_log 39 = .ok (.iload_n 2, 1) := by decide +kernel
theorem dX11_log_40 : decode cX11_log 40 = .ok (.tableswitch 92 0 3 #[32, 47, 62, 77], 32) := by decide +kernel
theorem dX11_log_72 : decode cX11_log 72 = .ok (.aload_n 0, 1) := by decide +kernel
theorem dX11_log_73 : decode cX11_log 73 = .ok (.getfield 27, 3) := by decide +kernel
theorem dX11_log_76 : decode cX11_log 76 = .ok (.getfield 177, 3) := by decide +kernel
theorem dX11_log_79 : decode cX11_log 79 = .ok (.getfield 449, 3) := by decide +kernel
theorem dX11_log_82 : decode cX11_log 82 = .ok (.iload_n 3, 1) := by decide +kernel
theorem dX11_log_83 : decode cX11_log 83 = .ok (.invokestatic 157, 3) := by decide +kernel
theorem dX11_log_86 : decode cX11_log 86 = .ok (.ireturn, 1) := by decide +kernel
theorem dX11_log_87 : decode cX11_log 87 = .ok (.aload_n 0, 1) := by decide +kernel
theorem dX11_log_88 : decode cX11_log 88 = .ok (.getfield 27, 3) := by decide +kernel
theorem dX11_log_91 : decode cX11_log 91 = .ok (.getfield 177, 3) := by decide +kernel
theorem dX11_log_94 : decode cX11_log 94 = .ok (.getfield 452, 3) := by decide +kernel
theorem dX11_log_97 : decode cX11_log 97 = .ok (.iload_n 3, 1) := by decide +kernel
theorem dX11_log_98 : decode cX11_log 98 = .ok (.invokestatic 157, 3) := by decide +kernel
theorem dX11_log_101 : decode cX11_log 101 = .ok (.ireturn, 1) := by decide +kernel
theorem dX11_log_102 : decode cX11_log 102 = .ok (.aload_n 0, 1) := by decide +kernel
theorem dX11_log_103 : decode cX11_log 103 = .ok (.getfield 27, 3) := by decide +kernel
theorem dX11_log_106 : decode cX11_log 106 = .ok (.getfield 177, 3) := by decide +kernel
theorem dX11_log_109 : decode cX11_log 109 = .ok (.getfield 455, 3) := by decide +kernel
theorem dX11_log_112 : decode cX11_log 112 = .ok (.iload_n 3, 1) := by decide +kernel
theorem dX11_log_113 : decode cX11_log 113 = .ok (.invokestatic 157, 3) := by decide +kernel
theorem dX11_log_116 : decode cX11_log 116 = .ok (.ireturn, 1) := by decide +kernel
theorem dX11_log_117 : decode cX11_log 117 = .ok (.aload_n 0, 1) := by decide +kernel
theorem dX11_log_118 : decode cX11_log 118 = .ok (.getfield 27, 3) := by decide +kernel
theorem dX11_log_121 : decode cX11_log 121 = .ok (.getfield 177, 3) := by decide +kernel
theorem dX11_log_124 : decode cX11_log 124 = .ok (.getfield 458, 3) := by decide +kernel
theorem dX11_log_127 : decode cX11_log 127 = .ok (.iload_n 3, 1) := by decide +kernel
theorem dX11_log_128 : decode cX11_log 128 = .ok (.invokestatic 157, 3) := by decide +kernel
theorem dX11_log_131 : decode cX11_log 131 = .ok (.ireturn, 1) := by decide +kernel
theorem dX11_log_132 : decode cX11_log 132 = .ok (.aload_n 0, 1) := by decide +kernel
theorem dX11_log_133 : decode cX11_log 133 = .ok (.getfield 27, 3) := by decide +kernel
theorem dX11_log_136 : decode cX11_log 136 = .ok (.getfield 177, 3) := by decide +kernel
theorem dX11_log_139 : decode cX11_log 139 = .ok (.getfield 461, 3) := by decide +kernel
theorem dX11_log_142 : decode cX11_log 142 = .ok (.iload_n 3, 1) := by decide +kernel
theorem dX11_log_143 : decode cX11_log 143 = .ok (.invokestatic 157, 3) := by decide +kernel
theorem dX11_log_146 : decode cX11_log 146 = .ok (.ireturn, 1) := by decide +kernel
theorem dX11_led_0 : decode cX11_led 0 = .ok (.aload_n 0, 1) := by decide +kernel
theorem dX11_led_1 : decode cX11_led 1 = .ok (.iload_n 1, 1) := by decide +kernel
theorem dX11_led_2 : decode cX11_led 2 = .ok (.invokevirtual 194, 3) := by decide +kernel
theorem dX11_led_5 : decode cX11_led 5 = .ok (.aload_n 0, 1) := by decide +kernel
theorem dX11_led_6 : decode cX11_led 6 = .ok (.iload_n 2, 1) := by decide +kernel
theorem dX11_led_7 : decode cX11_led 7 = .ok (.invokevirtual 150, 3) := by decide +kernel
theorem dX11_led_10 : decode cX11_led 10 = .ok (.aload_n 0, 1) := by decide +kernel
theorem dX11_led_11 : decode cX11_led 11 = .ok (.getfield 27, 3) := by decide +kernel
theorem dX11_led_14 : decode cX11_led 14 = .ok (.getfield 177, 3) := by decide +kernel
theorem dX11_led_17 : decode cX11_led 17 = .ok (.iload_n 1, 1) := by decide +kernel
theorem dX11_led_18 : decode cX11_led 18 = .ok (.iload_n 2, 1) := by decide +kernel
theorem dX11_led_19 : decode cX11_led 19 = .ok (.invokevirtual 464, 3) := by decide +kernel
theorem dX11_led_22 : decode cX11_led 22 = .ok (.ireturn, 1) := by decide +kernel
theorem dX11_hitter_0 : decode cX11_hitter 0 = .ok (.aload_n 0, 1) := by decide +kernel
theorem dX11_hitter_1 : decode cX11_hitter 1 = .ok (.getfield 78, 3) := by decide +kernel
theorem dX11_hitter_4 : decode cX11_hitter 4 = .ok (.invokevirtual 467, 3) := by decide +kernel
theorem dX11_hitter_7 : decode cX11_hitter 7 = .ok (.ireturn, 1) := by decide +kernel
theorem dX11_seed_0 : decode cX11_seed 0 = .ok (.aload_n 0, 1) := by decide +kernel
theorem dX11_seed_1 : decode cX11_seed 1 = .ok (.getfield 27, 3) := by decide +kernel
theorem dX11_seed_4 : decode cX11_seed 4 = .ok (.getfield 177, 3) := by decide +kernel
theorem dX11_seed_7 : decode cX11_seed 7 = .ok (.getfield 430, 3) := by decide +kernel
theorem dX11_seed_10 : decode cX11_seed 10 = .ok (.istore_n 2, 1) := by decide +kernel
theorem dX11_seed_11 : decode cX11_seed 11 = .ok (.aload_n 0, 1) := by decide +kernel
theorem dX11_seed_12 : decode cX11_seed 12 = .ok (.getfield 27, 3) := by decide +kernel
theorem dX11_seed_15 : decode cX11_seed 15 = .ok (.getfield 177, 3) := by decide +kernel
theorem dX11_seed_18 : decode cX11_seed 18 = .ok (.iload_n 1, 1) := by decide +kernel
theorem dX11_seed_19 : decode cX11_seed 19 = .ok (.putfield 430, 3) := by decide +kernel
theorem dX11_seed_22 : decode cX11_seed 22 = .ok (.iload_n 2, 1) := by decide +kernel
theorem dX11_seed_23 : decode cX11_seed 23 = .ok (.ireturn, 1) := by decide +kernel
theorem dX11_undo_0 : decode cX11_undo 0 = .ok (.aload_n 0, 1) := by decide +kernel
theorem dX11_undo_1 : decode cX11_undo 1 = .ok (.getfield 69, 3) := by decide +kernel
theorem dX11_undo_4 : decode cX11_undo 4 = .ok (.aload_n 0, 1) := by decide +kernel
theorem dX11_undo_5 : decode cX11_undo 5 = .ok (.getfield 27, 3) := by decide +kernel
theorem dX11_undo_8 : decode cX11_undo 8 = .ok (.getfield 177, 3) := by decide +kernel
theorem dX11_undo_11 : decode cX11_undo 11 = .ok (.invokevirtual 470, 3) := by decide +kernel
theorem dX11_undo_14 : decode cX11_undo 14 = .ok (.ireturn, 1) := by decide +kernel
theorem dX11_image_0 : decode cX11_image 0 = .ok (.aload_n 0, 1) := by decide +kernel
theorem dX11_image_1 : decode cX11_image 1 = .ok (.getfield 45, 3) := by decide +kernel
theorem dX11_image_4 : decode cX11_image 4 = .ok (.aload_n 0, 1) := by decide +kernel
theorem dX11_image_5 : decode cX11_image 5 = .ok (.getfield 27, 3) := by decide +kernel
theorem dX11_image_8 : decode cX11_image 8 = .ok (.invokevirtual 111, 3) := by decide +kernel
theorem dX11_image_11 : decode cX11_image 11 = .ok (.aload_n 0, 1) := by decide +kernel
theorem dX11_image_12 : decode cX11_image 12 = .ok (.iconst 1, 1) := by decide +kernel
theorem dX11_image_13 : decode cX11_image 13 = .ok (.putfield 96, 3) := by decide +kernel
theorem dX11_image_16 : decode cX11_image 16 = .ok (.return_, 1) := by decide +kernel
theorem dX11_back_0 : decode cX11_back 0 = .ok (.aload_n 0, 1) := by decide +kernel
theorem dX11_back_1 : decode cX11_back 1 = .ok (.getfield 96, 3) := by decide +kernel
theorem dX11_back_4 : decode cX11_back 4 = .ok (.ifCond .ne 5, 3) := by decide +kernel
theorem dX11_back_7 : decode cX11_back 7 = .ok (.iconst 0, 1) := by decide +kernel
theorem dX11_back_8 : decode cX11_back 8 = .ok (.ireturn, 1) := by decide +kernel
theorem dX11_back_9 : decode cX11_back 9 = .ok (.aload_n 0, 1) := by decide +kernel
theorem dX11_back_10 : decode cX11_back 10 = .ok (.getfield 27, 3) := by decide +kernel
theorem dX11_back_13 : decode cX11_back 13 = .ok (.aload_n 0, 1) := by decide +kernel
theorem dX11_back_14 : decode cX11_back 14 = .ok (.getfield 45, 3) := by decide +kernel
theorem dX11_back_17 : decode cX11_back 17 = .ok (.invokevirtual 111, 3) := by decide +kernel
theorem dX11_back_20 : decode cX11_back 20 = .ok (.aload_n 0, 1) := by decide +kernel
theorem dX11_back_21 : decode cX11_back 21 = .ok (.getfield 69, 3) := by decide +kernel
theorem dX11_back_24 : decode cX11_back 24 = .ok (.iconst 0, 1) := by decide +kernel
theorem dX11_back_25 : decode cX11_back 25 = .ok (.putfield 137, 3) := by decide +kernel
theorem dX11_back_28 : decode cX11_back 28 = .ok (.iconst 1, 1) := by decide +kernel
theorem dX11_back_29 : decode cX11_back 29 = .ok (.ireturn, 1) := by decide +kernel
theorem dX11_count_0 : decode cX11_count 0 = .ok (.iload_n 1, 1) := by decide +kernel
theorem dX11_count_1 : decode cX11_count 1 = .ok (.tableswitch 211 0 12 #[67, 78, 89, 100, 111, 122, 133, 144, 152, 170, 181, 192, 203], 67) := by decide +kernel
theorem dX11_count_68 : decode cX11_count 68 = .ok (.aload_n 0, 1) := by decide +kernel
theorem dX11_count_69 : decode cX11_count 69 = .ok (.getfield 27, 3) := by decide +kernel
theorem dX11_count_72 : decode cX11_count 72 = .ok (.getfield 31, 3) := by decide +kernel
theorem dX11_count_75 : decode cX11_count 75 = .ok (.getfield 474, 3) := by decide +kernel
theorem dX11_count_78 : decode cX11_count 78 = .ok (.ireturn, 1) := by decide +kernel
theorem dX11_count_79 : decode cX11_count 79 = .ok (.aload_n 0, 1) := by decide +kernel
theorem dX11_count_80 : decode cX11_count 80 = .ok (.getfield 27, 3) := by decide +kernel
theorem dX11_count_83 : decode cX11_count 83 = .ok (.getfield 31, 3) := by decide +kernel
theorem dX11_count_86 : decode cX11_count 86 = .ok (.getfield 477, 3) := by decide +kernel
theorem dX11_count_89 : decode cX11_count 89 = .ok (.ireturn, 1) := by decide +kernel
theorem dX11_count_90 : decode cX11_count 90 = .ok (.aload_n 0, 1) := by decide +kernel
theorem dX11_count_91 : decode cX11_count 91 = .ok (.getfield 27, 3) := by decide +kernel
theorem dX11_count_94 : decode cX11_count 94 = .ok (.getfield 31, 3) := by decide +kernel
theorem dX11_count_97 : decode cX11_count 97 = .ok (.getfield 244, 3) := by decide +kernel
theorem dX11_count_100 : decode cX11_count 100 = .ok (.ireturn, 1) := by decide +kernel
theorem dX11_count_101 : decode cX11_count 101 = .ok (.aload_n 0, 1) := by decide +kernel
theorem dX11_count_102 : decode cX11_count 102 = .ok (.getfield 27, 3) := by decide +kernel
theorem dX11_count_105 : decode cX11_count 105 = .ok (.getfield 31, 3) := by decide +kernel
theorem dX11_count_108 : decode cX11_count 108 = .ok (.getfield 129, 3) := by decide +kernel
theorem dX11_count_111 : decode cX11_count 111 = .ok (.ireturn, 1) := by decide +kernel
theorem dX11_count_112 : decode cX11_count 112 = .ok (.aload_n 0, 1) := by decide +kernel
theorem dX11_count_113 : decode cX11_count 113 = .ok (.getfield 27, 3) := by decide +kernel
theorem dX11_count_116 : decode cX11_count 116 = .ok (.getfield 35, 3) := by decide +kernel
theorem dX11_count_119 : decode cX11_count 119 = .ok (.getfield 144, 3) := by decide +kernel
theorem dX11_count_122 : decode cX11_count 122 = .ok (.ireturn, 1) := by decide +kernel
theorem dX11_count_123 : decode cX11_count 123 = .ok (.aload_n 0, 1) := by decide +kernel
theorem dX11_count_124 : decode cX11_count 124 = .ok (.getfield 27, 3) := by decide +kernel
theorem dX11_count_127 : decode cX11_count 127 = .ok (.getfield 177, 3) := by decide +kernel
theorem dX11_count_130 : decode cX11_count 130 = .ok (.getfield 441, 3) := by decide +kernel
theorem dX11_count_133 : decode cX11_count 133 = .ok (.ireturn, 1) := by decide +kernel
theorem dX11_count_134 : decode cX11_count 134 = .ok (.aload_n 0, 1) := by decide +kernel
theorem dX11_count_135 : decode cX11_count 135 = .ok (.getfield 27, 3) := by decide +kernel
theorem dX11_count_138 : decode cX11_count 138 = .ok (.getfield 177, 3) := by decide +kernel
theorem dX11_count_141 : decode cX11_count 141 = .ok (.getfield 480, 3) := by decide +kernel
theorem dX11_count_144 : decode cX11_count 144 = .ok (.ireturn, 1) := by decide +kernel
theorem dX11_count_145 : decode cX11_count 145 = .ok (.aload_n 0, 1) := by decide +kernel
theorem dX11_count_146 : decode cX11_count 146 = .ok (.getfield 27, 3) := by decide +kernel
theorem dX11_count_149 : decode cX11_count 149 = .ok (.invokevirtual 424, 3) := by decide +kernel
theorem dX11_count_152 : decode cX11_count 152 = .ok (.ireturn, 1) := by decide +kernel
theorem dX11_count_153 : decode cX11_count 153 = .ok (.aload_n 0, 1) := by decide +kernel
theorem dX11_count_154 : decode cX11_count 154 = .ok (.getfield 27, 3) := by decide +kernel
theorem dX11_count_157 : decode cX11_count 157 = .ok (.iconst 0, 1) := by decide +kernel
theorem dX11_count_158 : decode cX11_count 158 = .ok (.invokevirtual 427, 3) := by decide +kernel
theorem dX11_count_161 : decode cX11_count 161 = .ok (.aload_n 0, 1) := by decide +kernel
theorem dX11_count_162 : decode cX11_count 162 = .ok (.getfield 27, 3) := by decide +kernel
theorem dX11_count_165 : decode cX11_count 165 = .ok (.iconst 1, 1) := by decide +kernel
theorem dX11_count_166 : decode cX11_count 166 = .ok (.invokevirtual 427, 3) := by decide +kernel
theorem dX11_count_169 : decode cX11_count 169 = .ok (.iadd, 1) := by decide +kernel
theorem dX11_count_170 : decode cX11_count 170 = .ok (.ireturn, 1) := by decide +kernel
theorem dX11_count_171 : decode cX11_count 171 = .ok (.aload_n 0, 1) := by decide +kernel
theorem dX11_count_172 : decode cX11_count 172 = .ok (.getfield 27, 3) := by decide +kernel
theorem dX11_count_175 : decode cX11_count 175 = .ok (.getfield 177, 3) := by decide +kernel
theorem dX11_count_178 : decode cX11_count 178 = .ok (.getfield 275, 3) := by decide +kernel
theorem dX11_count_181 : decode cX11_count 181 = .ok (.ireturn, 1) := by decide +kernel
theorem dX11_count_182 : decode cX11_count 182 = .ok (.aload_n 0, 1) := by decide +kernel
theorem dX11_count_183 : decode cX11_count 183 = .ok (.getfield 27, 3) := by decide +kernel
theorem dX11_count_186 : decode cX11_count 186 = .ok (.getfield 177, 3) := by decide +kernel
theorem dX11_count_189 : decode cX11_count 189 = .ok (.getfield 483, 3) := by decide +kernel
theorem dX11_count_192 : decode cX11_count 192 = .ok (.ireturn, 1) := by decide +kernel
theorem dX11_count_193 : decode cX11_count 193 = .ok (.aload_n 0, 1) := by decide +kernel
theorem dX11_count_194 : decode cX11_count 194 = .ok (.getfield 27, 3) := by decide +kernel
theorem dX11_count_197 : decode cX11_count 197 = .ok (.getfield 177, 3) := by decide +kernel
theorem dX11_count_200 : decode cX11_count 200 = .ok (.invokevirtual 486, 3) := by decide +kernel
theorem dX11_count_203 : decode cX11_count 203 = .ok (.ireturn, 1) := by decide +kernel
theorem dX11_count_204 : decode cX11_count 204 = .ok (.aload_n 0, 1) := by decide +kernel
theorem dX11_count_205 : decode cX11_count 205 = .ok (.getfield 69, 3) := by decide +kernel
theorem dX11_count_208 : decode cX11_count 208 = .ok (.getfield 137, 3) := by decide +kernel
theorem dX11_count_211 : decode cX11_count 211 = .ok (.ireturn, 1) := by decide +kernel
theorem dX11_count_212 : decode cX11_count 212 = .ok (.iconst (-1), 1) := by decide +kernel
theorem dX11_count_213 : decode cX11_count 213 = .ok (.ireturn, 1) := by decide +kernel
theorem dX11_needMemory_0 : decode cX11_needMemory 0 = .ok (.iload_n 1, 1) := by decide +kernel
theorem dX11_needMemory_1 : decode cX11_needMemory 1 = .ok (.ifCond .lt 17, 3) := by decide +kernel
theorem dX11_needMemory_4 : decode cX11_needMemory 4 = .ok (.iload_n 1, 1) := by decide +kernel
theorem dX11_needMemory_5 : decode cX11_needMemory 5 = .ok (.aload_n 0, 1) := by decide +kernel
theorem dX11_needMemory_6 : decode cX11_needMemory 6 = .ok (.getfield 27, 3) := by decide +kernel
theorem dX11_needMemory_9 : decode cX11_needMemory 9 = .ok (.getfield 31, 3) := by decide +kernel
theorem dX11_needMemory_12 : decode cX11_needMemory 12 = .ok (.getfield 474, 3) := by decide +kernel
theorem dX11_needMemory_15 : decode cX11_needMemory 15 = .ok (.if_icmp .lt 14, 3) := by decide +kernel
theorem dX11_needMemory_18 : decode cX11_needMemory 18 = .ok (.new 247, 3) := by decide +kernel
theorem dX11_needMemory_21 : decode cX11_needMemory 21 = .ok (.dup, 1) := by decide +kernel
theorem dX11_needMemory_22 : decode cX11_needMemory 22 = .ok (.ldc_w 489, 3) := by decide +kernel
theorem dX11_needMemory_25 : decode cX11_needMemory 25 = .ok (.invokespecial 251, 3) := by decide +kernel
theorem dX11_needMemory_28 : decode cX11_needMemory 28 = .ok (.athrow, 1) := by decide +kernel
theorem dX11_needMemory_29 : decode cX11_needMemory 29 = .ok (.return_, 1) := by decide +kernel
theorem dX11_needSoldier_0 : decode cX11_needSoldier 0 = .ok (.iload_n 1, 1) := by decide +kernel
theorem dX11_needSoldier_1 : decode cX11_needSoldier 1 = .ok (.ifCond .lt 17, 3) := by decide +kernel
theorem dX11_needSoldier_4 : decode cX11_needSoldier 4 = .ok (.iload_n 1, 1) := by decide +kernel
theorem dX11_needSoldier_5 : decode cX11_needSoldier 5 = .ok (.aload_n 0, 1) := by decide +kernel
theorem dX11_needSoldier_6 : decode cX11_needSoldier 6 = .ok (.getfield 27, 3) := by decide +kernel
theorem dX11_needSoldier_9 : decode cX11_needSoldier 9 = .ok (.getfield 31, 3) := by decide +kernel
theorem dX11_needSoldier_12 : decode cX11_needSoldier 12 = .ok (.getfield 477, 3) := by decide +kernel
theorem dX11_needSoldier_15 : decode cX11_needSoldier 15 = .ok (.if_icmp .lt 14, 3) := by decide +kernel
theorem dX11_needSoldier_18 : decode cX11_needSoldier 18 = .ok (.new 247, 3) := by decide +kernel
theorem dX11_needSoldier_21 : decode cX11_needSoldier 21 = .ok (.dup, 1) := by decide +kernel
theorem dX11_needSoldier_22 : decode cX11_needSoldier 22 = .ok (.ldc_w 491, 3) := by decide +kernel
theorem dX11_needSoldier_25 : decode cX11_needSoldier 25 = .ok (.invokespecial 251, 3) := by decide +kernel
theorem dX11_needSoldier_28 : decode cX11_needSoldier 28 = .ok (.athrow, 1) := by decide +kernel
theorem dX11_needSoldier_29 : decode cX11_needSoldier 29 = .ok (.return_, 1) := by decide +kernel
theorem dX11_needTwo_0 : decode cX11_needTwo 0 = .ok (.aload_n 0, 1) := by decide +kernel
theorem dX11_needTwo_1 : decode cX11_needTwo 1 = .ok (.iload_n 1, 1) := by decide +kernel
theorem dX11_needTwo_2 : decode cX11_needTwo 2 = .ok (.invokevirtual 194, 3) := by decide +kernel
theorem dX11_needTwo_5 : decode cX11_needTwo 5 = .ok (.aload_n 0, 1) := by decide +kernel
theorem dX11_needTwo_6 : decode cX11_needTwo 6 = .ok (.iload_n 2, 1) := by decide +kernel
theorem dX11_needTwo_7 : decode cX11_needTwo 7 = .ok (.invokevirtual 194, 3) := by decide +kernel
theorem dX11_needTwo_10 : decode cX11_needTwo 10 = .ok (.iload_n 1, 1) := by decide +kernel
theorem dX11_needTwo_11 : decode cX11_needTwo 11 = .ok (.iload_n 2, 1) := by decide +kernel
theorem dX11_needTwo_12 : decode cX11_needTwo 12 = .ok (.invokestatic 301, 3) := by decide +kernel
theorem dX11_needTwo_15 : decode cX11_needTwo 15 = .ok (.return_, 1) := by decide +kernel
theorem dX11_needUnlike_0 : decode cX11_needUnlike 0 = .ok (.iload_n 0, 1) := by decide +kernel
theorem dX11_needUnlike_1 : decode cX11_needUnlike 1 = .ok (.iload_n 1, 1) := by decide +kernel
theorem dX11_needUnlike_2 : decode cX11_needUnlike 2 = .ok (.if_icmp .ne 14, 3) := by decide +kernel
theorem dX11_needUnlike_5 : decode cX11_needUnlike 5 = .ok (.new 122, 3) := by decide +kernel
theorem dX11_needUnlike_8 : decode cX11_needUnlike 8 = .ok (.dup, 1) := by decide +kernel
theorem dX11_needUnlike_9 : decode cX11_needUnlike 9 = .ok (.ldc_w 493, 3) := by decide +kernel
theorem dX11_needUnlike_12 : decode cX11_needUnlike 12 = .ok (.invokespecial 126, 3) := by decide +kernel
theorem dX11_needUnlike_15 : decode cX11_needUnlike 15 = .ok (.athrow, 1) := by decide +kernel
theorem dX11_needUnlike_16 : decode cX11_needUnlike 16 = .ok (.return_, 1) := by decide +kernel
theorem dX11_needSide_0 : decode cX11_needSide 0 = .ok (.iload_n 0, 1) := by decide +kernel
theorem dX11_needSide_1 : decode cX11_needSide 1 = .ok (.ifCond .lt 8, 3) := by decide +kernel
theorem dX11_needSide_4 : decode cX11_needSide 4 = .ok (.iload_n 0, 1) := by decide +kernel
theorem dX11_needSide_5 : decode cX11_needSide 5 = .ok (.iconst 1, 1) := by decide +kernel
theorem dX11_needSide_6 : decode cX11_needSide 6 = .ok (.if_icmp .le 14, 3) := by decide +kernel
theorem dX11_needSide_9 : decode cX11_needSide 9 = .ok (.new 247, 3) := by decide +kernel
theorem dX11_needSide_12 : decode cX11_needSide 12 = .ok (.dup, 1) := by decide +kernel
theorem dX11_needSide_13 : decode cX11_needSide 13 = .ok (.ldc_w 495, 3) := by decide +kernel
theorem dX11_needSide_16 : decode cX11_needSide 16 = .ok (.invokespecial 251, 3) := by decide +kernel
theorem dX11_needSide_19 : decode cX11_needSide 19 = .ok (.athrow, 1) := by decide +kernel
theorem dX11_needSide_20 : decode cX11_needSide 20 = .ok (.return_, 1) := by decide +kernel
theorem dX11_needThing_0 : decode cX11_needThing 0 = .ok (.iload_n 1, 1) := by decide +kernel
theorem dX11_needThing_1 : decode cX11_needThing 1 = .ok (.ifCond .lt 17, 3) := by decide +kernel
theorem dX11_needThing_4 : decode cX11_needThing 4 = .ok (.iload_n 1, 1) := by decide +kernel
theorem dX11_needThing_5 : decode cX11_needThing 5 = .ok (.aload_n 0, 1) := by decide +kernel
theorem dX11_needThing_6 : decode cX11_needThing 6 = .ok (.getfield 27, 3) := by decide +kernel
theorem dX11_needThing_9 : decode cX11_needThing 9 = .ok (.getfield 177, 3) := by decide +kernel
theorem dX11_needThing_12 : decode cX11_needThing 12 = .ok (.getfield 480, 3) := by decide +kernel
theorem dX11_needThing_15 : decode cX11_needThing 15 = .ok (.if_icmp .lt 14, 3) := by decide +kernel
theorem dX11_needThing_18 : decode cX11_needThing 18 = .ok (.new 247, 3) := by decide +kernel
theorem dX11_needThing_21 : decode cX11_needThing 21 = .ok (.dup, 1) := by decide +kernel
theorem dX11_needThing_22 : decode cX11_needThing 22 = .ok (.ldc_w 497, 3) := by decide +kernel
theorem dX11_needThing_25 : decode cX11_needThing 25 = .ok (.invokespecial 251, 3) := by decide +kernel
theorem dX11_needThing_28 : decode cX11_needThing 28 = .ok (.athrow, 1) := by decide +kernel
theorem dX11_needThing_29 : decode cX11_needThing 29 = .ok (.return_, 1) := by decide +kernel
theorem dX11_needNumber_0 : decode cX11_needNumber 0 = .ok (.iload_n 0, 1) := by decide +kernel
theorem dX11_needNumber_1 : decode cX11_needNumber 1 = .ok (.iload_n 1, 1) := by decide +kernel
theorem dX11_needNumber_2 : decode cX11_needNumber 2 = .ok (.if_icmp .lt 8, 3) := by decide +kernel
theorem dX11_needNumber_5 : decode cX11_needNumber 5 = .ok (.iload_n 0, 1) := by decide +kernel
theorem dX11_needNumber_6 : decode cX11_needNumber 6 = .ok (.iload_n 2, 1) := by decide +kernel
theorem dX11_needNumber_7 : decode cX11_needNumber 7 = .ok (.if_icmp .le 14, 3) := by decide +kernel
theorem dX11_needNumber_10 : decode cX11_needNumber 10 = .ok (.new 122, 3) := by decide +kernel
theorem dX11_needNumber_13 : decode cX11_needNumber 13 = .ok (.dup, 1) := by decide +kernel
theorem dX11_needNumber_14 : decode cX11_needNumber 14 = .ok (.ldc_w 499, 3) := by decide +kernel
theorem dX11_needNumber_17 : decode cX11_needNumber 17 = .ok (.invokespecial 126, 3) := by decide +kernel
theorem dX11_needNumber_20 : decode cX11_needNumber 20 = .ok (.athrow, 1) := by decide +kernel
theorem dX11_needNumber_21 : decode cX11_needNumber 21 = .ok (.return_, 1) := by decide +kernel
theorem dX11_copyRow_0 : decode cX11_copyRow 0 = .ok (.aload_n 0, 1) := by decide +kernel
theorem dX11_copyRow_1 : decode cX11_copyRow 1 = .ok (.iconst 0, 1) := by decide +kernel
theorem dX11_copyRow_2 : decode cX11_copyRow 2 = .ok (.aload_n 1, 1) := by decide +kernel
theorem dX11_copyRow_3 : decode cX11_copyRow 3 = .ok (.iconst 0, 1) := by decide +kernel
theorem dX11_copyRow_4 : decode cX11_copyRow 4 = .ok (.aload_n 0, 1) := by decide +kernel
theorem dX11_copyRow_5 : decode cX11_copyRow 5 = .ok (.arraylength, 1) := by decide +kernel
theorem dX11_copyRow_6 : decode cX11_copyRow 6 = .ok (.aload_n 1, 1) := by decide +kernel
theorem dX11_copyRow_7 : decode cX11_copyRow 7 = .ok (.arraylength, 1) := by decide +kernel
theorem dX11_copyRow_8 : decode cX11_copyRow 8 = .ok (.invokestatic 433, 3) := by decide +kernel
theorem dX11_copyRow_11 : decode cX11_copyRow 11 = .ok (.invokestatic 501, 3) := by decide +kernel
theorem dX11_copyRow_14 : decode cX11_copyRow 14 = .ok (.return_, 1) := by decide +kernel
theorem dX11_pick_0 : decode cX11_pick 0 = .ok (.iload_n 1, 1) := by decide +kernel
theorem dX11_pick_1 : decode cX11_pick 1 = .ok (.ifCond .lt 15, 3) := by decide +kernel
theorem dX11_pick_4 : decode cX11_pick 4 = .ok (.iload_n 1, 1) := by decide +kernel
theorem dX11_pick_5 : decode cX11_pick 5 = .ok (.aload_n 0, 1) := by decide +kernel
theorem dX11_pick_6 : decode cX11_pick 6 = .ok (.arraylength, 1) := by decide +kernel
theorem dX11_pick_7 : decode cX11_pick 7 = .ok (.if_icmp .ge 9, 3) := by decide +kernel
theorem dX11_pick_10 : decode cX11_pick 10 = .ok (.aload_n 0, 1) := by decide +kernel
theorem dX11_pick_11 : decode cX11_pick 11 = .ok (.iload_n 1, 1) := by decide +kernel
theorem dX11_pick_12 : decode cX11_pick 12 = .ok (.iaload, 1) := by decide +kernel
theorem dX11_pick_13 : decode cX11_pick 13 = .ok (.goto 4, 3) := by decide +kernel
theorem dX11_pick_16 : decode cX11_pick 16 = .ok (.iconst 0, 1) := by decide +kernel
theorem dX11_pick_17 : decode cX11_pick 17 = .ok (.ireturn, 1) := by decide +kernel
theorem dX11_put_0 : decode cX11_put 0 = .ok (.iload_n 1, 1) := by decide +kernel
theorem dX11_put_1 : decode cX11_put 1 = .ok (.ifCond .lt 13, 3) := by decide +kernel
theorem dX11_put_4 : decode cX11_put 4 = .ok (.iload_n 1, 1) := by decide +kernel
theorem dX11_put_5 : decode cX11_put 5 = .ok (.aload_n 0, 1) := by decide +kernel
theorem dX11_put_6 : decode cX11_put 6 = .ok (.arraylength, 1) := by decide +kernel
theorem dX11_put_7 : decode cX11_put 7 = .ok (.if_icmp .ge 7, 3) := by decide +kernel
theorem dX11_put_10 : decode cX11_put 10 = .ok (.aload_n 0, 1) := by decide +kernel
theorem dX11_put_11 : decode cX11_put 11 = .ok (.iload_n 1, 1) := by decide +kernel
theorem dX11_put_12 : decode cX11_put 12 = .ok (.iload_n 2, 1) := by decide +kernel
theorem dX11_put_13 : decode cX11_put 13 = .ok (.iastore, 1) := by decide +kernel
theorem dX11_put_14 : decode cX11_put 14 = .ok (.return_, 1) := by decide +kernel
theorem dX11_has_0 : decode cX11_has 0 = .ok (.iload_n 0, 1) := by decide +kernel
theorem dX11_has_1 : decode cX11_has 1 = .ok (.iload_n 1, 1) := by decide +kernel
theorem dX11_has_2 : decode cX11_has 2 = .ok (.ishr, 1) := by decide +kernel
theorem dX11_has_3 : decode cX11_has 3 = .ok (.iconst 1, 1) := by decide +kernel
theorem dX11_has_4 : decode cX11_has 4 = .ok (.iand, 1) := by decide +kernel
theorem dX11_has_5 : decode cX11_has 5 = .ok (.ifCond .eq 7, 3) := by decide +kernel
theorem dX11_has_8 : decode cX11_has 8 = .ok (.iconst 1, 1) := by decide +kernel
theorem dX11_has_9 : decode cX11_has 9 = .ok (.goto 4, 3) := by decide +kernel
theorem dX11_has_12 : decode cX11_has 12 = .ok (.iconst 0, 1) := by decide +kernel
theorem dX11_has_13 : decode cX11_has 13 = .ok (.ireturn, 1) := by decide +kernel
