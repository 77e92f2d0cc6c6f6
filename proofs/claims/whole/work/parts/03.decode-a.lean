theorem dX0_init_0 : decode cX0_init 0 = .ok (.aload_n 0, 1) := by decide +kernel
theorem dX0_init_1 : decode cX0_init 1 = .ok (.invokespecial 3, 3) := by decide +kernel
theorem dX0_init_4 : decode cX0_init 4 = .ok (.aload_n 0, 1) := by decide +kernel
theorem dX0_init_5 : decode cX0_init 5 = .ok (.aload_n 1, 1) := by decide +kernel
theorem dX0_init_6 : decode cX0_init 6 = .ok (.putfield 9, 3) := by decide +kernel
theorem dX0_init_9 : decode cX0_init 9 = .ok (.aload_n 0, 1) := by decide +kernel
theorem dX0_init_10 : decode cX0_init 10 = .ok (.new 15, 3) := by decide +kernel
theorem dX0_init_13 : decode cX0_init 13 = .ok (.dup, 1) := by decide +kernel
theorem dX0_init_14 : decode cX0_init 14 = .ok (.aload_n 1, 1) := by decide +kernel
theorem dX0_init_15 : decode cX0_init 15 = .ok (.invokespecial 17, 3) := by decide +kernel
theorem dX0_init_18 : decode cX0_init 18 = .ok (.putfield 20, 3) := by decide +kernel
theorem dX0_init_21 : decode cX0_init 21 = .ok (.aload_n 0, 1) := by decide +kernel
theorem dX0_init_22 : decode cX0_init 22 = .ok (.new 24, 3) := by decide +kernel
theorem dX0_init_25 : decode cX0_init 25 = .ok (.dup, 1) := by decide +kernel
theorem dX0_init_26 : decode cX0_init 26 = .ok (.aload_n 1, 1) := by decide +kernel
theorem dX0_init_27 : decode cX0_init 27 = .ok (.invokespecial 26, 3) := by decide +kernel
theorem dX0_init_30 : decode cX0_init 30 = .ok (.putfield 27, 3) := by decide +kernel
theorem dX0_init_33 : decode cX0_init 33 = .ok (.aload_n 0, 1) := by decide +kernel
theorem dX0_init_34 : decode cX0_init 34 = .ok (.new 31, 3) := by decide +kernel
theorem dX0_init_37 : decode cX0_init 37 = .ok (.dup, 1) := by decide +kernel
theorem dX0_init_38 : decode cX0_init 38 = .ok (.aload_n 1, 1) := by decide +kernel
theorem dX0_init_39 : decode cX0_init 39 = .ok (.invokespecial 33, 3) := by decide +kernel
theorem dX0_init_42 : decode cX0_init 42 = .ok (.putfield 34, 3) := by decide +kernel
theorem dX0_init_45 : decode cX0_init 45 = .ok (.aload_n 0, 1) := by decide +kernel
theorem dX0_init_46 : decode cX0_init 46 = .ok (.bipush 8, 2) := by decide +kernel
theorem dX0_init_48 : decode cX0_init 48 = .ok (.newarray .int, 2) := by decide +kernel
theorem dX0_init_50 : decode cX0_init 50 = .ok (.putfield 38, 3) := by decide +kernel
theorem dX0_init_53 : decode cX0_init 53 = .ok (.return_, 1) := by decide +kernel
theorem dX0_become_0 : decode cX0_become 0 = .ok (.aload_n 1, 1) := by decide +kernel
theorem dX0_become_1 : decode cX0_become 1 = .ok (.iconst 0, 1) := by decide +kernel
theorem dX0_become_2 : decode cX0_become 2 = .ok (.aload_n 0, 1) := by decide +kernel
theorem dX0_become_3 : decode cX0_become 3 = .ok (.getfield 9, 3) := by decide +kernel
theorem dX0_become_6 : decode cX0_become 6 = .ok (.iconst 0, 1) := by decide +kernel
theorem dX0_become_7 : decode cX0_become 7 = .ok (.sipush 773, 3) := by decide +kernel
theorem dX0_become_10 : decode cX0_become 10 = .ok (.invokestatic 41, 3) := by decide +kernel
theorem dX0_become_13 : decode cX0_become 13 = .ok (.aload_n 0, 1) := by decide +kernel
theorem dX0_become_14 : decode cX0_become 14 = .ok (.iconst 0, 1) := by decide +kernel
theorem dX0_become_15 : decode cX0_become 15 = .ok (.putfield 47, 3) := by decide +kernel
theorem dX0_become_18 : decode cX0_become 18 = .ok (.aload_n 0, 1) := by decide +kernel
theorem dX0_become_19 : decode cX0_become 19 = .ok (.iconst 0, 1) := by decide +kernel
theorem dX0_become_20 : decode cX0_become 20 = .ok (.putfield 51, 3) := by decide +kernel
theorem dX0_become_23 : decode cX0_become 23 = .ok (.aload_n 0, 1) := by decide +kernel
theorem dX0_become_24 : decode cX0_become 24 = .ok (.iconst 0, 1) := by decide +kernel
theorem dX0_become_25 : decode cX0_become 25 = .ok (.putfield 54, 3) := by decide +kernel
theorem dX0_become_28 : decode cX0_become 28 = .ok (.return_, 1) := by decide +kernel
theorem dX0_time_0 : decode cX0_time 0 = .ok (.aload_n 0, 1) := by decide +kernel
theorem dX0_time_1 : decode cX0_time 1 = .ok (.getfield 9, 3) := by decide +kernel
theorem dX0_time_4 : decode cX0_time 4 = .ok (.iconst 0, 1) := by decide +kernel
theorem dX0_time_5 : decode cX0_time 5 = .ok (.iaload, 1) := by decide +kernel
theorem dX0_time_6 : decode cX0_time 6 = .ok (.ireturn, 1) := by decide +kernel
theorem dX0_hasWokenAt_0 : decode cX0_hasWokenAt 0 = .ok (.aload_n 0, 1) := by decide +kernel
theorem dX0_hasWokenAt_1 : decode cX0_hasWokenAt 1 = .ok (.getfield 51, 3) := by decide +kernel
theorem dX0_hasWokenAt_4 : decode cX0_hasWokenAt 4 = .ok (.iconst 1, 1) := by decide +kernel
theorem dX0_hasWokenAt_5 : decode cX0_hasWokenAt 5 = .ok (.iload_n 1, 1) := by decide +kernel
theorem dX0_hasWokenAt_6 : decode cX0_hasWokenAt 6 = .ok (.ishl, 1) := by decide +kernel
theorem dX0_hasWokenAt_7 : decode cX0_hasWokenAt 7 = .ok (.iand, 1) := by decide +kernel
theorem dX0_hasWokenAt_8 : decode cX0_hasWokenAt 8 = .ok (.ifCond .eq 7, 3) := by decide +kernel
theorem dX0_hasWokenAt_11 : decode cX0_hasWokenAt 11 = .ok (.iconst 1, 1) := by decide +kernel
theorem dX0_hasWokenAt_12 : decode cX0_hasWokenAt 12 = .ok (.goto 4, 3) := by decide +kernel
theorem dX0_hasWokenAt_15 : decode cX0_hasWokenAt 15 = .ok (.iconst 0, 1) := by decide +kernel
theorem dX0_hasWokenAt_16 : decode cX0_hasWokenAt 16 = .ok (.ireturn, 1) := by decide +kernel
theorem dX0_calledHandles_0 : decode cX0_calledHandles 0 = .ok (.iconst 0, 1) := by decide +kernel
theorem dX0_calledHandles_1 : decode cX0_calledHandles 1 = .ok (.istore_n 1, 1) := by decide +kernel
theorem dX0_calledHandles_2 : decode cX0_calledHandles 2 = .ok (.bipush 15, 2) := by decide +kernel
theorem dX0_calledHandles_4 : decode cX0_calledHandles 4 = .ok (.istore_n 2, 1) := by decide +kernel
theorem dX0_calledHandles_5 : decode cX0_calledHandles 5 = .ok (.iload_n 2, 1) := by decide +kernel
theorem dX0_calledHandles_6 : decode cX0_calledHandles 6 = .ok (.ifCond .lt 51, 3) := by decide +kernel
theorem dX0_calledHandles_9 : decode cX0_calledHandles 9 = .ok (.aload_n 0, 1) := by decide +kernel
theorem dX0_calledHandles_10 : decode cX0_calledHandles 10 = .ok (.getfield 9, 3) := by decide +kernel
theorem dX0_calledHandles_13 : decode cX0_calledHandles 13 = .ok (.iconst 3, 1) := by decide +kernel
theorem dX0_calledHandles_14 : decode cX0_calledHandles 14 = .ok (.iload_n 2, 1) := by decide +kernel
theorem dX0_calledHandles_15 : decode cX0_calledHandles 15 = .ok (.iadd, 1) := by decide +kernel
theorem dX0_calledHandles_16 : decode cX0_calledHandles 16 = .ok (.iaload, 1) := by decide +kernel
theorem dX0_calledHandles_17 : decode cX0_calledHandles 17 = .ok (.istore_n 3, 1) := by decide +kernel
theorem dX0_calledHandles_18 : decode cX0_calledHandles 18 = .ok (.iload_n 3, 1) := by decide +kernel
theorem dX0_calledHandles_19 : decode cX0_calledHandles 19 = .ok (.ifCond .lt 32, 3) := by decide +kernel
theorem dX0_calledHandles_22 : decode cX0_calledHandles 22 = .ok (.aload_n 0, 1) := by decide +kernel
theorem dX0_calledHandles_23 : decode cX0_calledHandles 23 = .ok (.getfield 47, 3) := by decide +kernel
theorem dX0_calledHandles_26 : decode cX0_calledHandles 26 = .ok (.iconst 1, 1) := by decide +kernel
theorem dX0_calledHandles_27 : decode cX0_calledHandles 27 = .ok (.iload_n 3, 1) := by decide +kernel
theorem dX0_calledHandles_28 : decode cX0_calledHandles 28 = .ok (.ishl, 1) := by decide +kernel
theorem dX0_calledHandles_29 : decode cX0_calledHandles 29 = .ok (.iand, 1) := by decide +kernel
theorem dX0_calledHandles_30 : decode cX0_calledHandles 30 = .ok (.ifCond .eq 21, 3) := by decide +kernel
theorem dX0_calledHandles_33 : decode cX0_calledHandles 33 = .ok (.aload_n 0, 1) := by decide +kernel
theorem dX0_calledHandles_34 : decode cX0_calledHandles 34 = .ok (.getfield 20, 3) := by decide +kernel
theorem dX0_calledHandles_37 : decode cX0_calledHandles 37 = .ok (.iload_n 3, 1) := by decide +kernel
theorem dX0_calledHandles_38 : decode cX0_calledHandles 38 = .ok (.invokevirtual 57, 3) := by decide +kernel
theorem dX0_calledHandles_41 : decode cX0_calledHandles 41 = .ok (.iload_n 2, 1) := by decide +kernel
theorem dX0_calledHandles_42 : decode cX0_calledHandles 42 = .ok (.if_icmp .ne 9, 3) := by decide +kernel
theorem dX0_calledHandles_45 : decode cX0_calledHandles 45 = .ok (.iload_n 1, 1) := by decide +kernel
theorem dX0_calledHandles_46 : decode cX0_calledHandles 46 = .ok (.iconst 1, 1) := by decide +kernel
theorem dX0_calledHandles_47 : decode cX0_calledHandles 47 = .ok (.iload_n 2, 1) := by decide +kernel
theorem dX0_calledHandles_48 : decode cX0_calledHandles 48 = .ok (.ishl, 1) := by decide +kernel
theorem dX0_calledHandles_49 : decode cX0_calledHandles 49 = .ok (.ior, 1) := by decide +kernel
theorem dX0_calledHandles_50 : decode cX0_calledHandles 50 = .ok (.istore_n 1, 1) := by decide +kernel
theorem dX0_calledHandles_51 : decode cX0_calledHandles 51 = .ok (.iinc 2 (-1), 3) := by decide +kernel
theorem dX0_calledHandles_54 : decode cX0_calledHandles 54 = .ok (.goto (-49), 3) := by decide +kernel
theorem dX0_calledHandles_57 : decode cX0_calledHandles 57 = .ok (.iload_n 1, 1) := by decide +kernel
theorem dX0_calledHandles_58 : decode cX0_calledHandles 58 = .ok (.ireturn, 1) := by decide +kernel
theorem dX0_makeNamed_0 : decode cX0_makeNamed 0 = .ok (.aload_n 0, 1) := by decide +kernel
theorem dX0_makeNamed_1 : decode cX0_makeNamed 1 = .ok (.getfield 20, 3) := by decide +kernel
theorem dX0_makeNamed_4 : decode cX0_makeNamed 4 = .ok (.invokevirtual 61, 3) := by decide +kernel
theorem dX0_makeNamed_7 : decode cX0_makeNamed 7 = .ok (.istore_n 2, 1) := by decide +kernel
theorem dX0_makeNamed_8 : decode cX0_makeNamed 8 = .ok (.iload_n 2, 1) := by decide +kernel
theorem dX0_makeNamed_9 : decode cX0_makeNamed 9 = .ok (.ifCond .ge 7, 3) := by decide +kernel
theorem dX0_makeNamed_12 : decode cX0_makeNamed 12 = .ok (.iconst (-1), 1) := by decide +kernel
theorem dX0_makeNamed_13 : decode cX0_makeNamed 13 = .ok (.goto 11, 3) := by decide +kernel
theorem dX0_makeNamed_16 : decode cX0_makeNamed 16 = .ok (.aload_n 0, 1) := by decide +kernel
theorem dX0_makeNamed_17 : decode cX0_makeNamed 17 = .ok (.getfield 20, 3) := by decide +kernel
theorem dX0_makeNamed_20 : decode cX0_makeNamed 20 = .ok (.iload_n 1, 1) := by decide +kernel
theorem dX0_makeNamed_21 : decode cX0_makeNamed 21 = .ok (.invokevirtual 65, 3) := by decide +kernel
theorem dX0_makeNamed_24 : decode cX0_makeNamed 24 = .ok (.istore_n 3, 1) := by decide +kernel
theorem dX0_makeNamed_25 : decode cX0_makeNamed 25 = .ok (.iload_n 3, 1) := by decide +kernel
theorem dX0_makeNamed_26 : decode cX0_makeNamed 26 = .ok (.ifCond .ge 5, 3) := by decide +kernel
theorem dX0_makeNamed_29 : decode cX0_makeNamed 29 = .ok (.iconst (-1), 1) := by decide +kernel
theorem dX0_makeNamed_30 : decode cX0_makeNamed 30 = .ok (.ireturn, 1) := by decide +kernel
theorem dX0_makeNamed_31 : decode cX0_makeNamed 31 = .ok (.aload_n 0, 1) := by decide +kernel
theorem dX0_makeNamed_32 : decode cX0_makeNamed 32 = .ok (.getfield 20, 3) := by decide +kernel
theorem dX0_makeNamed_35 : decode cX0_makeNamed 35 = .ok (.iload_n 2, 1) := by decide +kernel
theorem dX0_makeNamed_36 : decode cX0_makeNamed 36 = .ok (.iload_n 3, 1) := by decide +kernel
theorem dX0_makeNamed_37 : decode cX0_makeNamed 37 = .ok (.invokevirtual 68, 3) := by decide +kernel
theorem dX0_makeNamed_40 : decode cX0_makeNamed 40 = .ok (.iload_n 2, 1) := by decide +kernel
theorem dX0_makeNamed_41 : decode cX0_makeNamed 41 = .ok (.ireturn, 1) := by decide +kernel
theorem dX0_makePipe_0 : decode cX0_makePipe 0 = .ok (.iload_n 1, 1) := by decide +kernel
theorem dX0_makePipe_1 : decode cX0_makePipe 1 = .ok (.iconst 1, 1) := by decide +kernel
theorem dX0_makePipe_2 : decode cX0_makePipe 2 = .ok (.bipush 100, 2) := by decide +kernel
theorem dX0_makePipe_4 : decode cX0_makePipe 4 = .ok (.invokestatic 72, 3) := by decide +kernel
theorem dX0_makePipe_7 : decode cX0_makePipe 7 = .ok (.ifCond .eq 14, 3) := by decide +kernel
theorem dX0_makePipe_10 : decode cX0_makePipe 10 = .ok (.aload_n 0, 1) := by decide +kernel
theorem dX0_makePipe_11 : decode cX0_makePipe 11 = .ok (.getfield 20, 3) := by decide +kernel
theorem dX0_makePipe_14 : decode cX0_makePipe 14 = .ok (.invokevirtual 76, 3) := by decide +kernel
theorem dX0_makePipe_17 : decode cX0_makePipe 17 = .ok (.iconst 2, 1) := by decide +kernel
theorem dX0_makePipe_18 : decode cX0_makePipe 18 = .ok (.if_icmp .ge 5, 3) := by decide +kernel
theorem dX0_makePipe_21 : decode cX0_makePipe 21 = .ok (.iconst (-1), 1) := by decide +kernel
theorem dX0_makePipe_22 : decode cX0_makePipe 22 = .ok (.ireturn, 1) := by decide +kernel
theorem dX0_makePipe_23 : decode cX0_makePipe 23 = .ok (.aload_n 0, 1) := by decide +kernel
theorem dX0_makePipe_24 : decode cX0_makePipe 24 = .ok (.getfield 20, 3) := by decide +kernel
theorem dX0_makePipe_27 : decode cX0_makePipe 27 = .ok (.iload_n 1, 1) := by decide +kernel
theorem dX0_makePipe_28 : decode cX0_makePipe 28 = .ok (.invokevirtual 79, 3) := by decide +kernel
theorem dX0_makePipe_31 : decode cX0_makePipe 31 = .ok (.istore_n 2, 1) := by decide +kernel
theorem dX0_makePipe_32 : decode cX0_makePipe 32 = .ok (.iload_n 2, 1) := by decide +kernel
theorem dX0_makePipe_33 : decode cX0_makePipe 33 = .ok (.ifCond .ge 5, 3) := by decide +kernel
theorem dX0_makePipe_36 : decode cX0_makePipe 36 = .ok (.iconst (-1), 1) := by decide +kernel
theorem dX0_makePipe_37 : decode cX0_makePipe 37 = .ok (.ireturn, 1) := by decide +kernel
theorem dX0_makePipe_38 : decode cX0_makePipe 38 = .ok (.aload_n 0, 1) := by decide +kernel
theorem dX0_makePipe_39 : decode cX0_makePipe 39 = .ok (.getfield 20, 3) := by decide +kernel
theorem dX0_makePipe_42 : decode cX0_makePipe 42 = .ok (.invokevirtual 61, 3) := by decide +kernel
theorem dX0_makePipe_45 : decode cX0_makePipe 45 = .ok (.istore_n 3, 1) := by decide +kernel
theorem dX0_makePipe_46 : decode cX0_makePipe 46 = .ok (.aload_n 0, 1) := by decide +kernel
theorem dX0_makePipe_47 : decode cX0_makePipe 47 = .ok (.getfield 20, 3) := by decide +kernel
theorem dX0_makePipe_50 : decode cX0_makePipe 50 = .ok (.iload_n 3, 1) := by decide +kernel
theorem dX0_makePipe_51 : decode cX0_makePipe 51 = .ok (.iload_n 2, 1) := by decide +kernel
theorem dX0_makePipe_52 : decode cX0_makePipe 52 = .ok (.invokevirtual 68, 3) := by decide +kernel
theorem dX0_makePipe_55 : decode cX0_makePipe 55 = .ok (.aload_n 0, 1) := by decide +kernel
theorem dX0_makePipe_56 : decode cX0_makePipe 56 = .ok (.getfield 20, 3) := by decide +kernel
theorem dX0_makePipe_59 : decode cX0_makePipe 59 = .ok (.aload_n 0, 1) := by decide +kernel
theorem dX0_makePipe_60 : decode cX0_makePipe 60 = .ok (.getfield 20, 3) := by decide +kernel
theorem dX0_makePipe_63 : decode cX0_makePipe 63 = .ok (.invokevirtual 61, 3) := by decide +kernel
theorem dX0_makePipe_66 : decode cX0_makePipe 66 = .ok (.aload_n 0, 1) := by decide +kernel
theorem dX0_makePipe_67 : decode cX0_makePipe 67 = .ok (.getfield 9, 3) := by decide +kernel
theorem dX0_makePipe_70 : decode cX0_makePipe 70 = .ok (.sipush 131, 3) := by decide +kernel
theorem dX0_makePipe_73 : decode cX0_makePipe 73 = .ok (.iload_n 2, 1) := by decide +kernel
theorem dX0_makePipe_74 : decode cX0_makePipe 74 = .ok (.iadd, 1) := by decide +kernel
theorem dX0_makePipe_75 : decode cX0_makePipe 75 = .ok (.iaload, 1) := by decide +kernel
theorem dX0_makePipe_76 : decode cX0_makePipe 76 = .ok (.invokevirtual 68, 3) := by decide +kernel
theorem dX0_makePipe_79 : decode cX0_makePipe 79 = .ok (.iload_n 3, 1) := by decide +kernel
theorem dX0_makePipe_80 : decode cX0_makePipe 80 = .ok (.ireturn, 1) := by decide +kernel
theorem dX0_connectTo_0 : decode cX0_connectTo 0 = .ok (.aload_n 0, 1) := by decide +kernel
theorem dX0_connectTo_1 : decode cX0_connectTo 1 = .ok (.getfield 20, 3) := by decide +kernel
theorem dX0_connectTo_4 : decode cX0_connectTo 4 = .ok (.iload_n 1, 1) := by decide +kernel
theorem dX0_connectTo_5 : decode cX0_connectTo 5 = .ok (.iconst 5, 1) := by decide +kernel
theorem dX0_connectTo_6 : decode cX0_connectTo 6 = .ok (.invokevirtual 82, 3) := by decide +kernel
theorem dX0_connectTo_9 : decode cX0_connectTo 9 = .ok (.istore_n 2, 1) := by decide +kernel
theorem dX0_connectTo_10 : decode cX0_connectTo 10 = .ok (.aload_n 0, 1) := by decide +kernel
theorem dX0_connectTo_11 : decode cX0_connectTo 11 = .ok (.getfield 20, 3) := by decide +kernel
theorem dX0_connectTo_14 : decode cX0_connectTo 14 = .ok (.invokevirtual 61, 3) := by decide +kernel
theorem dX0_connectTo_17 : decode cX0_connectTo 17 = .ok (.istore_n 3, 1) := by decide +kernel
theorem dX0_connectTo_18 : decode cX0_connectTo 18 = .ok (.iload_n 2, 1) := by decide +kernel
theorem dX0_connectTo_19 : decode cX0_connectTo 19 = .ok (.ifCond .lt 7, 3) := by decide +kernel
theorem dX0_connectTo_22 : decode cX0_connectTo 22 = .ok (.iload_n 3, 1) := by decide +kernel
theorem dX0_connectTo_23 : decode cX0_connectTo 23 = .ok (.ifCond .ge 5, 3) := by decide +kernel
theorem dX0_connectTo_26 : decode cX0_connectTo 26 = .ok (.iconst (-1), 1) := by decide +kernel
theorem dX0_connectTo_27 : decode cX0_connectTo 27 = .ok (.ireturn, 1) := by decide +kernel
theorem dX0_connectTo_28 : decode cX0_connectTo 28 = .ok (.aload_n 0, 1) := by decide +kernel
theorem dX0_connectTo_29 : decode cX0_connectTo 29 = .ok (.getfield 9, 3) := by decide +kernel
theorem dX0_connectTo_32 : decode cX0_connectTo 32 = .ok (.bipush 47, 2) := by decide +kernel
theorem dX0_connectTo_34 : decode cX0_connectTo 34 = .ok (.iload_n 2, 1) := by decide +kernel
theorem dX0_connectTo_35 : decode cX0_connectTo 35 = .ok (.iadd, 1) := by decide +kernel
theorem dX0_connectTo_36 : decode cX0_connectTo 36 = .ok (.iaload, 1) := by decide +kernel
theorem dX0_connectTo_37 : decode cX0_connectTo 37 = .ok (.aload_n 0, 1) := by decide +kernel
theorem dX0_connectTo_38 : decode cX0_connectTo 38 = .ok (.getfield 9, 3) := by decide +kernel
theorem dX0_connectTo_41 : decode cX0_connectTo 41 = .ok (.sipush 215, 3) := by decide +kernel
theorem dX0_connectTo_44 : decode cX0_connectTo 44 = .ok (.iload_n 2, 1) := by decide +kernel
theorem dX0_connectTo_45 : decode cX0_connectTo 45 = .ok (.iadd, 1) := by decide +kernel
theorem dX0_connectTo_46 : decode cX0_connectTo 46 = .ok (.iaload, 1) := by decide +kernel
theorem dX0_connectTo_47 : decode cX0_connectTo 47 = .ok (.if_icmp .ge 15, 3) := by decide +kernel
theorem dX0_connectTo_50 : decode cX0_connectTo 50 = .ok (.aload_n 0, 1) := by decide +kernel
theorem dX0_connectTo_51 : decode cX0_connectTo 51 = .ok (.getfield 20, 3) := by decide +kernel
theorem dX0_connectTo_54 : decode cX0_connectTo 54 = .ok (.invokevirtual 86, 3) := by decide +kernel
theorem dX0_connectTo_57 : decode cX0_connectTo 57 = .ok (.bipush 12, 2) := by decide +kernel
theorem dX0_connectTo_59 : decode cX0_connectTo 59 = .ok (.if_icmp .lt 6, 3) := by decide +kernel
theorem dX0_connectTo_62 : decode cX0_connectTo 62 = .ok (.bipush (-2), 2) := by decide +kernel
theorem dX0_connectTo_64 : decode cX0_connectTo 64 = .ok (.ireturn, 1) := by decide +kernel
theorem dX0_connectTo_65 : decode cX0_connectTo 65 = .ok (.aload_n 0, 1) := by decide +kernel
theorem dX0_connectTo_66 : decode cX0_connectTo 66 = .ok (.getfield 20, 3) := by decide +kernel
theorem dX0_connectTo_69 : decode cX0_connectTo 69 = .ok (.aload_n 0, 1) := by decide +kernel
theorem dX0_connectTo_70 : decode cX0_connectTo 70 = .ok (.getfield 9, 3) := by decide +kernel
theorem dX0_connectTo_73 : decode cX0_connectTo 73 = .ok (.bipush 75, 2) := by decide +kernel
theorem dX0_connectTo_75 : decode cX0_connectTo 75 = .ok (.iload_n 2, 1) := by decide +kernel
theorem dX0_connectTo_76 : decode cX0_connectTo 76 = .ok (.iadd, 1) := by decide +kernel
theorem dX0_connectTo_77 : decode cX0_connectTo 77 = .ok (.iaload, 1) := by decide +kernel
theorem dX0_connectTo_78 : decode cX0_connectTo 78 = .ok (.invokevirtual 79, 3) := by decide +kernel
theorem dX0_connectTo_81 : decode cX0_connectTo 81 = .ok (.istore 4, 2) := by decide +kernel
theorem dX0_connectTo_83 : decode cX0_connectTo 83 = .ok (.iload 4, 2) := by decide +kernel
theorem dX0_connectTo_85 : decode cX0_connectTo 85 = .ok (.ifCond .ge 5, 3) := by decide +kernel
theorem dX0_connectTo_88 : decode cX0_connectTo 88 = .ok (.iconst (-1), 1) := by decide +kernel
theorem dX0_connectTo_89 : decode cX0_connectTo 89 = .ok (.ireturn, 1) := by decide +kernel
theorem dX0_connectTo_90 : decode cX0_connectTo 90 = .ok (.aload_n 0, 1) := by decide +kernel
theorem dX0_connectTo_91 : decode cX0_connectTo 91 = .ok (.getfield 9, 3) := by decide +kernel
theorem dX0_connectTo_94 : decode cX0_connectTo 94 = .ok (.sipush 243, 3) := by decide +kernel
theorem dX0_connectTo_97 : decode cX0_connectTo 97 = .ok (.iload 4, 2) := by decide +kernel
theorem dX0_connectTo_99 : decode cX0_connectTo 99 = .ok (.iadd, 1) := by decide +kernel
theorem dX0_connectTo_100 : decode cX0_connectTo 100 = .ok (.iload_n 2, 1) := by decide +kernel
theorem dX0_connectTo_101 : decode cX0_connectTo 101 = .ok (.iastore, 1) := by decide +kernel
theorem dX0_connectTo_102 : decode cX0_connectTo 102 = .ok (.aload_n 0, 1) := by decide +kernel
theorem dX0_connectTo_103 : decode cX0_connectTo 103 = .ok (.getfield 9, 3) := by decide +kernel
theorem dX0_connectTo_106 : decode cX0_connectTo 106 = .ok (.sipush 271, 3) := by decide +kernel
theorem dX0_connectTo_109 : decode cX0_connectTo 109 = .ok (.iload 4, 2) := by decide +kernel
theorem dX0_connectTo_111 : decode cX0_connectTo 111 = .ok (.iadd, 1) := by decide +kernel
theorem dX0_connectTo_112 : decode cX0_connectTo 112 = .ok (.aload_n 0, 1) := by decide +kernel
theorem dX0_connectTo_113 : decode cX0_connectTo 113 = .ok (.getfield 9, 3) := by decide +kernel
theorem dX0_connectTo_116 : decode cX0_connectTo 116 = .ok (.iconst 1, 1) := by decide +kernel
theorem dX0_connectTo_117 : decode cX0_connectTo 117 = .ok (.dup2, 1) := by decide +kernel
theorem dX0_connectTo_118 : decode cX0_connectTo 118 = .ok (.iaload, 1) := by decide +kernel
theorem dX0_connectTo_119 : decode cX0_connectTo 119 = .ok (.dup_x2, 1) := by decide +kernel
theorem dX0_connectTo_120 : decode cX0_connectTo 120 = .ok (.iconst 1, 1) := by decide +kernel
theorem dX0_connectTo_121 : decode cX0_connectTo 121 = .ok (.iadd, 1) := by decide +kernel
theorem dX0_connectTo_122 : decode cX0_connectTo 122 = .ok (.iastore, 1) := by decide +kernel
theorem dX0_connectTo_123 : decode cX0_connectTo 123 = .ok (.iastore, 1) := by decide +kernel
theorem dX0_connectTo_124 : decode cX0_connectTo 124 = .ok (.aload_n 0, 1) := by decide +kernel
theorem dX0_connectTo_125 : decode cX0_connectTo 125 = .ok (.getfield 9, 3) := by decide +kernel
theorem dX0_connectTo_128 : decode cX0_connectTo 128 = .ok (.bipush 47, 2) := by decide +kernel
theorem dX0_connectTo_130 : decode cX0_connectTo 130 = .ok (.iload_n 2, 1) := by decide +kernel
theorem dX0_connectTo_131 : decode cX0_connectTo 131 = .ok (.iadd, 1) := by decide +kernel
theorem dX0_connectTo_132 : decode cX0_connectTo 132 = .ok (.dup2, 1) := by decide +kernel
theorem dX0_connectTo_133 : decode cX0_connectTo 133 = .ok (.iaload, 1) := by decide +kernel
theorem dX0_connectTo_134 : decode cX0_connectTo 134 = .ok (.iconst 1, 1) := by decide +kernel
theorem dX0_connectTo_135 : decode cX0_connectTo 135 = .ok (.iadd, 1) := by decide +kernel
theorem dX0_connectTo_136 : decode cX0_connectTo 136 = .ok (.iastore, 1) := by decide +kernel
theorem dX0_connectTo_137 : decode cX0_connectTo 137 = .ok (.aload_n 0, 1) := by decide +kernel
theorem dX0_connectTo_138 : decode cX0_connectTo 138 = .ok (.getfield 20, 3) := by decide +kernel
theorem dX0_connectTo_141 : decode cX0_connectTo 141 = .ok (.iload_n 3, 1) := by decide +kernel
theorem dX0_connectTo_142 : decode cX0_connectTo 142 = .ok (.aload_n 0, 1) := by decide +kernel
theorem dX0_connectTo_143 : decode cX0_connectTo 143 = .ok (.getfield 9, 3) := by decide +kernel
theorem dX0_connectTo_146 : decode cX0_connectTo 146 = .ok (.sipush 131, 3) := by decide +kernel
theorem dX0_connectTo_149 : decode cX0_connectTo 149 = .ok (.iload 4, 2) := by decide +kernel
theorem dX0_connectTo_151 : decode cX0_connectTo 151 = .ok (.iadd, 1) := by decide +kernel
theorem dX0_connectTo_152 : decode cX0_connectTo 152 = .ok (.iaload, 1) := by decide +kernel
theorem dX0_connectTo_153 : decode cX0_connectTo 153 = .ok (.invokevirtual 68, 3) := by decide +kernel
theorem dX0_connectTo_156 : decode cX0_connectTo 156 = .ok (.aload_n 0, 1) := by decide +kernel
theorem dX0_connectTo_157 : decode cX0_connectTo 157 = .ok (.iload_n 2, 1) := by decide +kernel
theorem dX0_connectTo_158 : decode cX0_connectTo 158 = .ok (.iconst 1, 1) := by decide +kernel
theorem dX0_connectTo_159 : decode cX0_connectTo 159 = .ok (.iconst 0, 1) := by decide +kernel
theorem dX0_connectTo_160 : decode cX0_connectTo 160 = .ok (.invokevirtual 89, 3) := by decide +kernel
theorem dX0_connectTo_163 : decode cX0_connectTo 163 = .ok (.iload_n 3, 1) := by decide +kernel
theorem dX0_connectTo_164 : decode cX0_connectTo 164 = .ok (.ireturn, 1) := by decide +kernel
theorem dX0_acceptFrom_0 : decode cX0_acceptFrom 0 = .ok (.aload_n 0, 1) := by decide +kernel
theorem dX0_acceptFrom_1 : decode cX0_acceptFrom 1 = .ok (.getfield 20, 3) := by decide +kernel
theorem dX0_acceptFrom_4 : decode cX0_acceptFrom 4 = .ok (.iload_n 1, 1) := by decide +kernel
theorem dX0_acceptFrom_5 : decode cX0_acceptFrom 5 = .ok (.iconst 5, 1) := by decide +kernel
theorem dX0_acceptFrom_6 : decode cX0_acceptFrom 6 = .ok (.invokevirtual 82, 3) := by decide +kernel
theorem dX0_acceptFrom_9 : decode cX0_acceptFrom 9 = .ok (.istore_n 2, 1) := by decide +kernel
theorem dX0_acceptFrom_10 : decode cX0_acceptFrom 10 = .ok (.aload_n 0, 1) := by decide +kernel
theorem dX0_acceptFrom_11 : decode cX0_acceptFrom 11 = .ok (.getfield 20, 3) := by decide +kernel
theorem dX0_acceptFrom_14 : decode cX0_acceptFrom 14 = .ok (.invokevirtual 61, 3) := by decide +kernel
theorem dX0_acceptFrom_17 : decode cX0_acceptFrom 17 = .ok (.istore_n 3, 1) := by decide +kernel
theorem dX0_acceptFrom_18 : decode cX0_acceptFrom 18 = .ok (.iload_n 2, 1) := by decide +kernel
theorem dX0_acceptFrom_19 : decode cX0_acceptFrom 19 = .ok (.ifCond .lt 7, 3) := by decide +kernel
theorem dX0_acceptFrom_22 : decode cX0_acceptFrom 22 = .ok (.iload_n 3, 1) := by decide +kernel
theorem dX0_acceptFrom_23 : decode cX0_acceptFrom 23 = .ok (.ifCond .ge 5, 3) := by decide +kernel
theorem dX0_acceptFrom_26 : decode cX0_acceptFrom 26 = .ok (.iconst (-1), 1) := by decide +kernel
theorem dX0_acceptFrom_27 : decode cX0_acceptFrom 27 = .ok (.ireturn, 1) := by decide +kernel
theorem dX0_acceptFrom_28 : decode cX0_acceptFrom 28 = .ok (.aload_n 0, 1) := by decide +kernel
theorem dX0_acceptFrom_29 : decode cX0_acceptFrom 29 = .ok (.getfield 20, 3) := by decide +kernel
theorem dX0_acceptFrom_32 : decode cX0_acceptFrom 32 = .ok (.iload_n 2, 1) := by decide +kernel
theorem dX0_acceptFrom_33 : decode cX0_acceptFrom 33 = .ok (.invokevirtual 93, 3) := by decide +kernel
theorem dX0_acceptFrom_36 : decode cX0_acceptFrom 36 = .ok (.istore 4, 2) := by decide +kernel
theorem dX0_acceptFrom_38 : decode cX0_acceptFrom 38 = .ok (.iload 4, 2) := by decide +kernel
theorem dX0_acceptFrom_40 : decode cX0_acceptFrom 40 = .ok (.ifCond .ge 6, 3) := by decide +kernel
theorem dX0_acceptFrom_43 : decode cX0_acceptFrom 43 = .ok (.bipush (-2), 2) := by decide +kernel
theorem dX0_acceptFrom_45 : decode cX0_acceptFrom 45 = .ok (.ireturn, 1) := by decide +kernel
theorem dX0_acceptFrom_46 : decode cX0_acceptFrom 46 = .ok (.aload_n 0, 1) := by decide +kernel
theorem dX0_acceptFrom_47 : decode cX0_acceptFrom 47 = .ok (.getfield 9, 3) := by decide +kernel
theorem dX0_acceptFrom_50 : decode cX0_acceptFrom 50 = .ok (.sipush 243, 3) := by decide +kernel
theorem dX0_acceptFrom_53 : decode cX0_acceptFrom 53 = .ok (.iload 4, 2) := by decide +kernel
theorem dX0_acceptFrom_55 : decode cX0_acceptFrom 55 = .ok (.iadd, 1) := by decide +kernel
theorem dX0_acceptFrom_56 : decode cX0_acceptFrom 56 = .ok (.iconst (-1), 1) := by decide +kernel
theorem dX0_acceptFrom_57 : decode cX0_acceptFrom 57 = .ok (.iastore, 1) := by decide +kernel
theorem dX0_acceptFrom_58 : decode cX0_acceptFrom 58 = .ok (.aload_n 0, 1) := by decide +kernel
theorem dX0_acceptFrom_59 : decode cX0_acceptFrom 59 = .ok (.getfield 9, 3) := by decide +kernel
theorem dX0_acceptFrom_62 : decode cX0_acceptFrom 62 = .ok (.bipush 47, 2) := by decide +kernel
theorem dX0_acceptFrom_64 : decode cX0_acceptFrom 64 = .ok (.iload_n 2, 1) := by decide +kernel
theorem dX0_acceptFrom_65 : decode cX0_acceptFrom 65 = .ok (.iadd, 1) := by decide +kernel
theorem dX0_acceptFrom_66 : decode cX0_acceptFrom 66 = .ok (.dup2, 1) := by decide +kernel
theorem dX0_acceptFrom_67 : decode cX0_acceptFrom 67 = .ok (.iaload, 1) := by decide +kernel
theorem dX0_acceptFrom_68 : decode cX0_acceptFrom 68 = .ok (.iconst 1, 1) := by decide +kernel
theorem dX0_acceptFrom_69 : decode cX0_acceptFrom 69 = .ok (.isub, 1) := by decide +kernel
theorem dX0_acceptFrom_70 : decode cX0_acceptFrom 70 = .ok (.iastore, 1) := by decide +kernel
theorem dX0_acceptFrom_71 : decode cX0_acceptFrom 71 = .ok (.aload_n 0, 1) := by decide +kernel
theorem dX0_acceptFrom_72 : decode cX0_acceptFrom 72 = .ok (.getfield 20, 3) := by decide +kernel
theorem dX0_acceptFrom_75 : decode cX0_acceptFrom 75 = .ok (.iload_n 3, 1) := by decide +kernel
theorem dX0_acceptFrom_76 : decode cX0_acceptFrom 76 = .ok (.iload 4, 2) := by decide +kernel
theorem dX0_acceptFrom_78 : decode cX0_acceptFrom 78 = .ok (.invokevirtual 68, 3) := by decide +kernel
theorem dX0_acceptFrom_81 : decode cX0_acceptFrom 81 = .ok (.iload_n 3, 1) := by decide +kernel
theorem dX0_acceptFrom_82 : decode cX0_acceptFrom 82 = .ok (.ireturn, 1) := by decide +kernel
theorem dX0_closeHandle_0 : decode cX0_closeHandle 0 = .ok (.aload_n 0, 1) := by decide +kernel
theorem dX0_closeHandle_1 : decode cX0_closeHandle 1 = .ok (.getfield 20, 3) := by decide +kernel
theorem dX0_closeHandle_4 : decode cX0_closeHandle 4 = .ok (.iload_n 1, 1) := by decide +kernel
theorem dX0_closeHandle_5 : decode cX0_closeHandle 5 = .ok (.invokevirtual 96, 3) := by decide +kernel
theorem dX0_closeHandle_8 : decode cX0_closeHandle 8 = .ok (.istore_n 2, 1) := by decide +kernel
theorem dX0_closeHandle_9 : decode cX0_closeHandle 9 = .ok (.iload_n 2, 1) := by decide +kernel
theorem dX0_closeHandle_10 : decode cX0_closeHandle 10 = .ok (.ifCond .ge 5, 3) := by decide +kernel
theorem dX0_closeHandle_13 : decode cX0_closeHandle 13 = .ok (.iconst 0, 1) := by decide +kernel
theorem dX0_closeHandle_14 : decode cX0_closeHandle 14 = .ok (.ireturn, 1) := by decide +kernel
theorem dX0_closeHandle_15 : decode cX0_closeHandle 15 = .ok (.aload_n 0, 1) := by decide +kernel
theorem dX0_closeHandle_16 : decode cX0_closeHandle 16 = .ok (.getfield 20, 3) := by decide +kernel
theorem dX0_closeHandle_19 : decode cX0_closeHandle 19 = .ok (.iload_n 1, 1) := by decide +kernel
theorem dX0_closeHandle_20 : decode cX0_closeHandle 20 = .ok (.iconst (-1), 1) := by decide +kernel
theorem dX0_closeHandle_21 : decode cX0_closeHandle 21 = .ok (.invokevirtual 68, 3) := by decide +kernel
theorem dX0_closeHandle_24 : decode cX0_closeHandle 24 = .ok (.aload_n 0, 1) := by decide +kernel
theorem dX0_closeHandle_25 : decode cX0_closeHandle 25 = .ok (.getfield 20, 3) := by decide +kernel
theorem dX0_closeHandle_28 : decode cX0_closeHandle 28 = .ok (.iload_n 2, 1) := by decide +kernel
theorem dX0_closeHandle_29 : decode cX0_closeHandle 29 = .ok (.invokevirtual 57, 3) := by decide +kernel
theorem dX0_closeHandle_32 : decode cX0_closeHandle 32 = .ok (.ifCond .lt 5, 3) := by decide +kernel
theorem dX0_closeHandle_35 : decode cX0_closeHandle 35 = .ok (.iconst 1, 1) := by decide +kernel
theorem dX0_closeHandle_36 : decode cX0_closeHandle 36 = .ok (.ireturn, 1) := by decide +kernel
theorem dX0_closeHandle_37 : decode cX0_closeHandle 37 = .ok (.aload_n 0, 1) := by decide +kernel
theorem dX0_closeHandle_38 : decode cX0_closeHandle 38 = .ok (.getfield 9, 3) := by decide +kernel
theorem dX0_closeHandle_41 : decode cX0_closeHandle 41 = .ok (.bipush 19, 2) := by decide +kernel
theorem dX0_closeHandle_43 : decode cX0_closeHandle 43 = .ok (.iload_n 2, 1) := by decide +kernel
theorem dX0_closeHandle_44 : decode cX0_closeHandle 44 = .ok (.iadd, 1) := by decide +kernel
theorem dX0_closeHandle_45 : decode cX0_closeHandle 45 = .ok (.iaload, 1) := by decide +kernel
theorem dX0_closeHandle_46 : decode cX0_closeHandle 46 = .ok (.istore_n 3, 1) := by decide +kernel
theorem dX0_closeHandle_47 : decode cX0_closeHandle 47 = .ok (.aload_n 0, 1) := by decide +kernel
theorem dX0_closeHandle_48 : decode cX0_closeHandle 48 = .ok (.getfield 9, 3) := by decide +kernel
theorem dX0_closeHandle_51 : decode cX0_closeHandle 51 = .ok (.sipush 131, 3) := by decide +kernel
theorem dX0_closeHandle_54 : decode cX0_closeHandle 54 = .ok (.iload_n 2, 1) := by decide +kernel
theorem dX0_closeHandle_55 : decode cX0_closeHandle 55 = .ok (.iadd, 1) := by decide +kernel
theorem dX0_closeHandle_56 : decode cX0_closeHandle 56 = .ok (.iaload, 1) := by decide +kernel
theorem dX0_closeHandle_57 : decode cX0_closeHandle 57 = .ok (.istore 4, 2) := by decide +kernel
theorem dX0_closeHandle_59 : decode cX0_closeHandle 59 = .ok (.aload_n 0, 1) := by decide +kernel
theorem dX0_closeHandle_60 : decode cX0_closeHandle 60 = .ok (.getfield 27, 3) := by decide +kernel
theorem dX0_closeHandle_63 : decode cX0_closeHandle 63 = .ok (.iload_n 2, 1) := by decide +kernel
theorem dX0_closeHandle_64 : decode cX0_closeHandle 64 = .ok (.invokevirtual 99, 3) := by decide +kernel
theorem dX0_closeHandle_67 : decode cX0_closeHandle 67 = .ok (.aload_n 0, 1) := by decide +kernel
theorem dX0_closeHandle_68 : decode cX0_closeHandle 68 = .ok (.getfield 34, 3) := by decide +kernel
theorem dX0_closeHandle_71 : decode cX0_closeHandle 71 = .ok (.iload_n 2, 1) := by decide +kernel
theorem dX0_closeHandle_72 : decode cX0_closeHandle 72 = .ok (.invokevirtual 103, 3) := by decide +kernel
theorem dX0_closeHandle_75 : decode cX0_closeHandle 75 = .ok (.iconst 0, 1) := by decide +kernel
theorem dX0_closeHandle_76 : decode cX0_closeHandle 76 = .ok (.istore 5, 2) := by decide +kernel
theorem dX0_closeHandle_78 : decode cX0_closeHandle 78 = .ok (.iload 5, 2) := by decide +kernel
theorem dX0_closeHandle_80 : decode cX0_closeHandle 80 = .ok (.bipush 12, 2) := by decide +kernel
theorem dX0_closeHandle_82 : decode cX0_closeHandle 82 = .ok (.if_icmp .ge 63, 3) := by decide +kernel
theorem dX0_closeHandle_85 : decode cX0_closeHandle 85 = .ok (.iload_n 3, 1) := by decide +kernel
theorem dX0_closeHandle_86 : decode cX0_closeHandle 86 = .ok (.iconst 5, 1) := by decide +kernel
theorem dX0_closeHandle_87 : decode cX0_closeHandle 87 = .ok (.if_icmp .ne 58, 3) := by decide +kernel
theorem dX0_closeHandle_90 : decode cX0_closeHandle 90 = .ok (.aload_n 0, 1) := by decide +kernel
theorem dX0_closeHandle_91 : decode cX0_closeHandle 91 = .ok (.getfield 20, 3) := by decide +kernel
theorem dX0_closeHandle_94 : decode cX0_closeHandle 94 = .ok (.iload_n 2, 1) := by decide +kernel
theorem dX0_closeHandle_95 : decode cX0_closeHandle 95 = .ok (.invokevirtual 93, 3) := by decide +kernel
theorem dX0_closeHandle_98 : decode cX0_closeHandle 98 = .ok (.istore 6, 2) := by decide +kernel
theorem dX0_closeHandle_100 : decode cX0_closeHandle 100 = .ok (.iload 6, 2) := by decide +kernel
theorem dX0_closeHandle_102 : decode cX0_closeHandle 102 = .ok (.ifCond .ge 6, 3) := by decide +kernel
theorem dX0_closeHandle_105 : decode cX0_closeHandle 105 = .ok (.goto 40, 3) := by decide +kernel
theorem dX0_closeHandle_108 : decode cX0_closeHandle 108 = .ok (.aload_n 0, 1) := by decide +kernel
theorem dX0_closeHandle_109 : decode cX0_closeHandle 109 = .ok (.getfield 9, 3) := by decide +kernel
theorem dX0_closeHandle_112 : decode cX0_closeHandle 112 = .ok (.sipush 131, 3) := by decide +kernel
theorem dX0_closeHandle_115 : decode cX0_closeHandle 115 = .ok (.iload 6, 2) := by decide +kernel
theorem dX0_closeHandle_117 : decode cX0_closeHandle 117 = .ok (.iadd, 1) := by decide +kernel
theorem dX0_closeHandle_118 : decode cX0_closeHandle 118 = .ok (.iaload, 1) := by decide +kernel
theorem dX0_closeHandle_119 : decode cX0_closeHandle 119 = .ok (.istore 7, 2) := by decide +kernel
theorem dX0_closeHandle_121 : decode cX0_closeHandle 121 = .ok (.aload_n 0, 1) := by decide +kernel
theorem dX0_closeHandle_122 : decode cX0_closeHandle 122 = .ok (.getfield 20, 3) := by decide +kernel
theorem dX0_closeHandle_125 : decode cX0_closeHandle 125 = .ok (.iload 6, 2) := by decide +kernel
theorem dX0_closeHandle_127 : decode cX0_closeHandle 127 = .ok (.invokevirtual 106, 3) := by decide +kernel
theorem dX0_closeHandle_130 : decode cX0_closeHandle 130 = .ok (.aload_n 0, 1) := by decide +kernel
theorem dX0_closeHandle_131 : decode cX0_closeHandle 131 = .ok (.iload 7, 2) := by decide +kernel
theorem dX0_closeHandle_133 : decode cX0_closeHandle 133 = .ok (.bipush 8, 2) := by decide +kernel
theorem dX0_closeHandle_135 : decode cX0_closeHandle 135 = .ok (.iconst 0, 1) := by decide +kernel
theorem dX0_closeHandle_136 : decode cX0_closeHandle 136 = .ok (.invokevirtual 89, 3) := by decide +kernel
theorem dX0_closeHandle_139 : decode cX0_closeHandle 139 = .ok (.iinc 5 1, 3) := by decide +kernel
theorem dX0_closeHandle_142 : decode cX0_closeHandle 142 = .ok (.goto (-64), 3) := by decide +kernel
theorem dX0_closeHandle_145 : decode cX0_closeHandle 145 = .ok (.aload_n 0, 1) := by decide +kernel
theorem dX0_closeHandle_146 : decode cX0_closeHandle 146 = .ok (.getfield 20, 3) := by decide +kernel
theorem dX0_closeHandle_149 : decode cX0_closeHandle 149 = .ok (.iload_n 2, 1) := by decide +kernel
theorem dX0_closeHandle_150 : decode cX0_closeHandle 150 = .ok (.invokevirtual 106, 3) := by decide +kernel
theorem dX0_closeHandle_153 : decode cX0_closeHandle 153 = .ok (.aload_n 0, 1) := by decide +kernel
theorem dX0_closeHandle_154 : decode cX0_closeHandle 154 = .ok (.iload 4, 2) := by decide +kernel
theorem dX0_closeHandle_156 : decode cX0_closeHandle 156 = .ok (.iload_n 3, 1) := by decide +kernel
theorem dX0_closeHandle_157 : decode cX0_closeHandle 157 = .ok (.iconst 1, 1) := by decide +kernel
theorem dX0_closeHandle_158 : decode cX0_closeHandle 158 = .ok (.if_icmp .ne 7, 3) := by decide +kernel
theorem dX0_closeHandle_161 : decode cX0_closeHandle 161 = .ok (.iconst 4, 1) := by decide +kernel
theorem dX0_closeHandle_162 : decode cX0_closeHandle 162 = .ok (.goto 5, 3) := by decide +kernel
theorem dX0_closeHandle_165 : decode cX0_closeHandle 165 = .ok (.bipush 8, 2) := by decide +kernel
theorem dX0_closeHandle_167 : decode cX0_closeHandle 167 = .ok (.iconst 0, 1) := by decide +kernel
theorem dX0_closeHandle_168 : decode cX0_closeHandle 168 = .ok (.invokevirtual 89, 3) := by decide +kernel
theorem dX0_closeHandle_171 : decode cX0_closeHandle 171 = .ok (.iconst 1, 1) := by decide +kernel
theorem dX0_closeHandle_172 : decode cX0_closeHandle 172 = .ok (.ireturn, 1) := by decide +kernel
theorem dX0_writeTo_0 : decode cX0_writeTo 0 = .ok (.aload_n 0, 1) := by decide +kernel
theorem dX0_writeTo_1 : decode cX0_writeTo 1 = .ok (.getfield 20, 3) := by decide +kernel
theorem dX0_writeTo_4 : decode cX0_writeTo 4 = .ok (.iload_n 1, 1) := by decide +kernel
theorem dX0_writeTo_5 : decode cX0_writeTo 5 = .ok (.invokevirtual 96, 3) := by decide +kernel
theorem dX0_writeTo_8 : decode cX0_writeTo 8 = .ok (.istore_n 3, 1) := by decide +kernel
theorem dX0_writeTo_9 : decode cX0_writeTo 9 = .ok (.iload_n 3, 1) := by decide +kernel
theorem dX0_writeTo_10 : decode cX0_writeTo 10 = .ok (.ifCond .lt 13, 3) := by decide +kernel
theorem dX0_writeTo_13 : decode cX0_writeTo 13 = .ok (.iload_n 2, 1) := by decide +kernel
theorem dX0_writeTo_14 : decode cX0_writeTo 14 = .ok (.iconst 1, 1) := by decide +kernel
theorem dX0_writeTo_15 : decode cX0_writeTo 15 = .ok (.bipush 100, 2) := by decide +kernel
theorem dX0_writeTo_17 : decode cX0_writeTo 17 = .ok (.invokestatic 72, 3) := by decide +kernel
theorem dX0_writeTo_20 : decode cX0_writeTo 20 = .ok (.ifCond .ne 5, 3) := by decide +kernel
theorem dX0_writeTo_23 : decode cX0_writeTo 23 = .ok (.iconst (-1), 1) := by decide +kernel
theorem dX0_writeTo_24 : decode cX0_writeTo 24 = .ok (.ireturn, 1) := by decide +kernel
theorem dX0_writeTo_25 : decode cX0_writeTo 25 = .ok (.aload_n 0, 1) := by decide +kernel
theorem dX0_writeTo_26 : decode cX0_writeTo 26 = .ok (.getfield 9, 3) := by decide +kernel
theorem dX0_writeTo_29 : decode cX0_writeTo 29 = .ok (.bipush 47, 2) := by decide +kernel
theorem dX0_writeTo_31 : decode cX0_writeTo 31 = .ok (.iload_n 3, 1) := by decide +kernel
theorem dX0_writeTo_32 : decode cX0_writeTo 32 = .ok (.iadd, 1) := by decide +kernel
theorem dX0_writeTo_33 : decode cX0_writeTo 33 = .ok (.iaload, 1) := by decide +kernel
theorem dX0_writeTo_34 : decode cX0_writeTo 34 = .ok (.istore 4, 2) := by decide +kernel
theorem dX0_writeTo_36 : decode cX0_writeTo 36 = .ok (.aload_n 0, 1) := by decide +kernel
theorem dX0_writeTo_37 : decode cX0_writeTo 37 = .ok (.getfield 9, 3) := by decide +kernel
theorem dX0_writeTo_40 : decode cX0_writeTo 40 = .ok (.bipush 19, 2) := by decide +kernel
theorem dX0_writeTo_42 : decode cX0_writeTo 42 = .ok (.iload_n 3, 1) := by decide +kernel
theorem dX0_writeTo_43 : decode cX0_writeTo 43 = .ok (.iadd, 1) := by decide +kernel
theorem dX0_writeTo_44 : decode cX0_writeTo 44 = .ok (.iaload, 1) := by decide +kernel
theorem dX0_writeTo_45 : decode cX0_writeTo 45 = .ok (.iconst 2, 1) := by decide +kernel
theorem dX0_writeTo_46 : decode cX0_writeTo 46 = .ok (.if_icmp .ne 37, 3) := by decide +kernel
theorem dX0_writeTo_49 : decode cX0_writeTo 49 = .ok (.iload 4, 2) := by decide +kernel
theorem dX0_writeTo_51 : decode cX0_writeTo 51 = .ok (.iload_n 2, 1) := by decide +kernel
theorem dX0_writeTo_52 : decode cX0_writeTo 52 = .ok (.iadd, 1) := by decide +kernel
theorem dX0_writeTo_53 : decode cX0_writeTo 53 = .ok (.sipush 1000, 3) := by decide +kernel
theorem dX0_writeTo_56 : decode cX0_writeTo 56 = .ok (.if_icmp .le 5, 3) := by decide +kernel
theorem dX0_writeTo_59 : decode cX0_writeTo 59 = .ok (.iconst 0, 1) := by decide +kernel
theorem dX0_writeTo_60 : decode cX0_writeTo 60 = .ok (.ireturn, 1) := by decide +kernel
theorem dX0_writeTo_61 : decode cX0_writeTo 61 = .ok (.aload_n 0, 1) := by decide +kernel
theorem dX0_writeTo_62 : decode cX0_writeTo 62 = .ok (.getfield 9, 3) := by decide +kernel
theorem dX0_writeTo_65 : decode cX0_writeTo 65 = .ok (.bipush 47, 2) := by decide +kernel
theorem dX0_writeTo_67 : decode cX0_writeTo 67 = .ok (.iload_n 3, 1) := by decide +kernel
theorem dX0_writeTo_68 : decode cX0_writeTo 68 = .ok (.iadd, 1) := by decide +kernel
theorem dX0_writeTo_69 : decode cX0_writeTo 69 = .ok (.iload 4, 2) := by decide +kernel
theorem dX0_writeTo_71 : decode cX0_writeTo 71 = .ok (.iload_n 2, 1) := by decide +kernel
theorem dX0_writeTo_72 : decode cX0_writeTo 72 = .ok (.iadd, 1) := by decide +kernel
theorem dX0_writeTo_73 : decode cX0_writeTo 73 = .ok (.iastore, 1) := by decide +kernel
theorem dX0_writeTo_74 : decode cX0_writeTo 74 = .ok (.aload_n 0, 1) := by decide +kernel
theorem dX0_writeTo_75 : decode cX0_writeTo 75 = .ok (.iload_n 3, 1) := by decide +kernel
theorem dX0_writeTo_76 : decode cX0_writeTo 76 = .ok (.iconst 1, 1) := by decide +kernel
theorem dX0_writeTo_77 : decode cX0_writeTo 77 = .ok (.iconst 0, 1) := by decide +kernel
theorem dX0_writeTo_78 : decode cX0_writeTo 78 = .ok (.invokevirtual 89, 3) := by decide +kernel
theorem dX0_writeTo_81 : decode cX0_writeTo 81 = .ok (.iload_n 2, 1) := by decide +kernel
theorem dX0_writeTo_82 : decode cX0_writeTo 82 = .ok (.ireturn, 1) := by decide +kernel
theorem dX0_writeTo_83 : decode cX0_writeTo 83 = .ok (.aload_n 0, 1) := by decide +kernel
theorem dX0_writeTo_84 : decode cX0_writeTo 84 = .ok (.getfield 9, 3) := by decide +kernel
theorem dX0_writeTo_87 : decode cX0_writeTo 87 = .ok (.bipush 19, 2) := by decide +kernel
theorem dX0_writeTo_89 : decode cX0_writeTo 89 = .ok (.iload_n 3, 1) := by decide +kernel
theorem dX0_writeTo_90 : decode cX0_writeTo 90 = .ok (.iadd, 1) := by decide +kernel
theorem dX0_writeTo_91 : decode cX0_writeTo 91 = .ok (.iaload, 1) := by decide +kernel
theorem dX0_writeTo_92 : decode cX0_writeTo 92 = .ok (.iconst 1, 1) := by decide +kernel
theorem dX0_writeTo_93 : decode cX0_writeTo 93 = .ok (.if_icmp .eq 5, 3) := by decide +kernel
theorem dX0_writeTo_96 : decode cX0_writeTo 96 = .ok (.iconst (-1), 1) := by decide +kernel
theorem dX0_writeTo_97 : decode cX0_writeTo 97 = .ok (.ireturn, 1) := by decide +kernel
theorem dX0_writeTo_98 : decode cX0_writeTo 98 = .ok (.aload_n 0, 1) := by decide +kernel
theorem dX0_writeTo_99 : decode cX0_writeTo 99 = .ok (.getfield 9, 3) := by decide +kernel
theorem dX0_writeTo_102 : decode cX0_writeTo 102 = .ok (.sipush 131, 3) := by decide +kernel
theorem dX0_writeTo_105 : decode cX0_writeTo 105 = .ok (.iload_n 3, 1) := by decide +kernel
theorem dX0_writeTo_106 : decode cX0_writeTo 106 = .ok (.iadd, 1) := by decide +kernel
theorem dX0_writeTo_107 : decode cX0_writeTo 107 = .ok (.iaload, 1) := by decide +kernel
theorem dX0_writeTo_108 : decode cX0_writeTo 108 = .ok (.ifCond .ge 6, 3) := by decide +kernel
theorem dX0_writeTo_111 : decode cX0_writeTo 111 = .ok (.bipush (-2), 2) := by decide +kernel
theorem dX0_writeTo_113 : decode cX0_writeTo 113 = .ok (.ireturn, 1) := by decide +kernel
theorem dX0_writeTo_114 : decode cX0_writeTo 114 = .ok (.iload_n 2, 1) := by decide +kernel
theorem dX0_writeTo_115 : decode cX0_writeTo 115 = .ok (.aload_n 0, 1) := by decide +kernel
theorem dX0_writeTo_116 : decode cX0_writeTo 116 = .ok (.getfield 9, 3) := by decide +kernel
theorem dX0_writeTo_119 : decode cX0_writeTo 119 = .ok (.bipush 75, 2) := by decide +kernel
theorem dX0_writeTo_121 : decode cX0_writeTo 121 = .ok (.iload_n 3, 1) := by decide +kernel
theorem dX0_writeTo_122 : decode cX0_writeTo 122 = .ok (.iadd, 1) := by decide +kernel
theorem dX0_writeTo_123 : decode cX0_writeTo 123 = .ok (.iaload, 1) := by decide +kernel
theorem dX0_writeTo_124 : decode cX0_writeTo 124 = .ok (.iload 4, 2) := by decide +kernel
theorem dX0_writeTo_126 : decode cX0_writeTo 126 = .ok (.isub, 1) := by decide +kernel
theorem dX0_writeTo_127 : decode cX0_writeTo 127 = .ok (.invokestatic 109, 3) := by decide +kernel
theorem dX0_writeTo_130 : decode cX0_writeTo 130 = .ok (.istore 5, 2) := by decide +kernel
theorem dX0_writeTo_132 : decode cX0_writeTo 132 = .ok (.iload 5, 2) := by decide +kernel
theorem dX0_writeTo_134 : decode cX0_writeTo 134 = .ok (.ifCond .gt 5, 3) := by decide +kernel
theorem dX0_writeTo_137 : decode cX0_writeTo 137 = .ok (.iconst 0, 1) := by decide +kernel
theorem dX0_writeTo_138 : decode cX0_writeTo 138 = .ok (.ireturn, 1) := by decide +kernel
theorem dX0_writeTo_139 : decode cX0_writeTo 139 = .ok (.aload_n 0, 1) := by decide +kernel
theorem dX0_writeTo_140 : decode cX0_writeTo 140 = .ok (.getfield 20, 3) := by decide +kernel
theorem dX0_writeTo_143 : decode cX0_writeTo 143 = .ok (.iload_n 3, 1) := by decide +kernel
theorem dX0_writeTo_144 : decode cX0_writeTo 144 = .ok (.iload 4, 2) := by decide +kernel
theorem dX0_writeTo_146 : decode cX0_writeTo 146 = .ok (.iload 5, 2) := by decide +kernel
theorem dX0_writeTo_148 : decode cX0_writeTo 148 = .ok (.iadd, 1) := by decide +kernel
theorem dX0_writeTo_149 : decode cX0_writeTo 149 = .ok (.invokevirtual 114, 3) := by decide +kernel
theorem dX0_writeTo_152 : decode cX0_writeTo 152 = .ok (.aload_n 0, 1) := by decide +kernel
theorem dX0_writeTo_153 : decode cX0_writeTo 153 = .ok (.aload_n 0, 1) := by decide +kernel
theorem dX0_writeTo_154 : decode cX0_writeTo 154 = .ok (.getfield 9, 3) := by decide +kernel
theorem dX0_writeTo_157 : decode cX0_writeTo 157 = .ok (.sipush 131, 3) := by decide +kernel
theorem dX0_writeTo_160 : decode cX0_writeTo 160 = .ok (.iload_n 3, 1) := by decide +kernel
theorem dX0_writeTo_161 : decode cX0_writeTo 161 = .ok (.iadd, 1) := by decide +kernel
theorem dX0_writeTo_162 : decode cX0_writeTo 162 = .ok (.iaload, 1) := by decide +kernel
theorem dX0_writeTo_163 : decode cX0_writeTo 163 = .ok (.iconst 1, 1) := by decide +kernel
theorem dX0_writeTo_164 : decode cX0_writeTo 164 = .ok (.iconst 0, 1) := by decide +kernel
theorem dX0_writeTo_165 : decode cX0_writeTo 165 = .ok (.invokevirtual 89, 3) := by decide +kernel
theorem dX0_writeTo_168 : decode cX0_writeTo 168 = .ok (.iload 5, 2) := by decide +kernel
theorem dX0_writeTo_170 : decode cX0_writeTo 170 = .ok (.ireturn, 1) := by decide +kernel
theorem dX0_readFrom_0 : decode cX0_readFrom 0 = .ok (.aload_n 0, 1) := by decide +kernel
theorem dX0_readFrom_1 : decode cX0_readFrom 1 = .ok (.getfield 20, 3) := by decide +kernel
theorem dX0_readFrom_4 : decode cX0_readFrom 4 = .ok (.iload_n 1, 1) := by decide +kernel
theorem dX0_readFrom_5 : decode cX0_readFrom 5 = .ok (.invokevirtual 96, 3) := by decide +kernel
theorem dX0_readFrom_8 : decode cX0_readFrom 8 = .ok (.istore_n 3, 1) := by decide +kernel
theorem dX0_readFrom_9 : decode cX0_readFrom 9 = .ok (.iload_n 3, 1) := by decide +kernel
theorem dX0_readFrom_10 : decode cX0_readFrom 10 = .ok (.ifCond .ge 7, 3) := by decide +kernel
theorem dX0_readFrom_13 : decode cX0_readFrom 13 = .ok (.iconst (-1), 1) := by decide +kernel
theorem dX0_readFrom_14 : decode cX0_readFrom 14 = .ok (.goto 12, 3) := by decide +kernel
theorem dX0_readFrom_17 : decode cX0_readFrom 17 = .ok (.aload_n 0, 1) := by decide +kernel
theorem dX0_readFrom_18 : decode cX0_readFrom 18 = .ok (.getfield 9, 3) := by decide +kernel
theorem dX0_readFrom_21 : decode cX0_readFrom 21 = .ok (.bipush 19, 2) := by decide +kernel
theorem dX0_readFrom_23 : decode cX0_readFrom 23 = .ok (.iload_n 3, 1) := by decide +kernel
theorem dX0_readFrom_24 : decode cX0_readFrom 24 = .ok (.iadd, 1) := by decide +kernel
theorem dX0_readFrom_25 : decode cX0_readFrom 25 = .ok (.iaload, 1) := by decide +kernel
theorem dX0_readFrom_26 : decode cX0_readFrom 26 = .ok (.istore 4, 2) := by decide +kernel
theorem dX0_readFrom_28 : decode cX0_readFrom 28 = .ok (.iload_n 2, 1) := by decide +kernel
theorem dX0_readFrom_29 : decode cX0_readFrom 29 = .ok (.iconst 1, 1) := by decide +kernel
theorem dX0_readFrom_30 : decode cX0_readFrom 30 = .ok (.bipush 100, 2) := by decide +kernel
theorem dX0_readFrom_32 : decode cX0_readFrom 32 = .ok (.invokestatic 72, 3) := by decide +kernel
theorem dX0_readFrom_35 : decode cX0_readFrom 35 = .ok (.ifCond .eq 20, 3) := by decide +kernel
theorem dX0_readFrom_38 : decode cX0_readFrom 38 = .ok (.iload 4, 2) := by decide +kernel
theorem dX0_readFrom_40 : decode cX0_readFrom 40 = .ok (.ifCond .eq 17, 3) := by decide +kernel
theorem dX0_readFrom_43 : decode cX0_readFrom 43 = .ok (.iload 4, 2) := by decide +kernel
theorem dX0_readFrom_45 : decode cX0_readFrom 45 = .ok (.iconst 2, 1) := by decide +kernel
theorem dX0_readFrom_46 : decode cX0_readFrom 46 = .ok (.if_icmp .eq 11, 3) := by decide +kernel
theorem dX0_readFrom_49 : decode cX0_readFrom 49 = .ok (.iload 4, 2) := by decide +kernel
theorem dX0_readFrom_51 : decode cX0_readFrom 51 = .ok (.iconst 3, 1) := by decide +kernel
theorem dX0_readFrom_52 : decode cX0_readFrom 52 = .ok (.if_icmp .eq 5, 3) := by decide +kernel
theorem dX0_readFrom_55 : decode cX0_readFrom 55 = .ok (.iconst (-1), 1) := by decide +kernel
theorem dX0_readFrom_56 : decode cX0_readFrom 56 = .ok (.ireturn, 1) := by decide +kernel
theorem dX0_readFrom_57 : decode cX0_readFrom 57 = .ok (.aload_n 0, 1) := by decide +kernel
theorem dX0_readFrom_58 : decode cX0_readFrom 58 = .ok (.getfield 9, 3) := by decide +kernel
theorem dX0_readFrom_61 : decode cX0_readFrom 61 = .ok (.sipush 131, 3) := by decide +kernel
theorem dX0_readFrom_64 : decode cX0_readFrom 64 = .ok (.iload_n 3, 1) := by decide +kernel
theorem dX0_readFrom_65 : decode cX0_readFrom 65 = .ok (.iadd, 1) := by decide +kernel
theorem dX0_readFrom_66 : decode cX0_readFrom 66 = .ok (.iaload, 1) := by decide +kernel
theorem dX0_readFrom_67 : decode cX0_readFrom 67 = .ok (.istore 5, 2) := by decide +kernel
theorem dX0_readFrom_69 : decode cX0_readFrom 69 = .ok (.aload_n 0, 1) := by decide +kernel
theorem dX0_readFrom_70 : decode cX0_readFrom 70 = .ok (.getfield 9, 3) := by decide +kernel
theorem dX0_readFrom_73 : decode cX0_readFrom 73 = .ok (.bipush 47, 2) := by decide +kernel
theorem dX0_readFrom_75 : decode cX0_readFrom 75 = .ok (.iload_n 3, 1) := by decide +kernel
theorem dX0_readFrom_76 : decode cX0_readFrom 76 = .ok (.iadd, 1) := by decide +kernel
theorem dX0_readFrom_77 : decode cX0_readFrom 77 = .ok (.iaload, 1) := by decide +kernel
theorem dX0_readFrom_78 : decode cX0_readFrom 78 = .ok (.istore 6, 2) := by decide +kernel
theorem dX0_readFrom_80 : decode cX0_readFrom 80 = .ok (.iload 4, 2) := by decide +kernel
theorem dX0_readFrom_82 : decode cX0_readFrom 82 = .ok (.ifCond .ne 7, 3) := by decide +kernel
theorem dX0_readFrom_85 : decode cX0_readFrom 85 = .ok (.iload_n 2, 1) := by decide +kernel
theorem dX0_readFrom_86 : decode cX0_readFrom 86 = .ok (.goto 22, 3) := by decide +kernel
theorem dX0_readFrom_89 : decode cX0_readFrom 89 = .ok (.aload_n 0, 1) := by decide +kernel
theorem dX0_readFrom_90 : decode cX0_readFrom 90 = .ok (.getfield 9, 3) := by decide +kernel
theorem dX0_readFrom_93 : decode cX0_readFrom 93 = .ok (.bipush 103, 2) := by decide +kernel
theorem dX0_readFrom_95 : decode cX0_readFrom 95 = .ok (.iload_n 3, 1) := by decide +kernel
theorem dX0_readFrom_96 : decode cX0_readFrom 96 = .ok (.iadd, 1) := by decide +kernel
theorem dX0_readFrom_97 : decode cX0_readFrom 97 = .ok (.iaload, 1) := by decide +kernel
theorem dX0_readFrom_98 : decode cX0_readFrom 98 = .ok (.ifCond .eq 7, 3) := by decide +kernel
theorem dX0_readFrom_101 : decode cX0_readFrom 101 = .ok (.iconst 1, 1) := by decide +kernel
theorem dX0_readFrom_102 : decode cX0_readFrom 102 = .ok (.goto 6, 3) := by decide +kernel
theorem dX0_readFrom_105 : decode cX0_readFrom 105 = .ok (.sipush 1000, 3) := by decide +kernel
theorem dX0_readFrom_108 : decode cX0_readFrom 108 = .ok (.istore 7, 2) := by decide +kernel
theorem dX0_readFrom_110 : decode cX0_readFrom 110 = .ok (.iload 7, 2) := by decide +kernel
theorem dX0_readFrom_112 : decode cX0_readFrom 112 = .ok (.iload 6, 2) := by decide +kernel
theorem dX0_readFrom_114 : decode cX0_readFrom 114 = .ok (.invokestatic 109, 3) := by decide +kernel
theorem dX0_readFrom_117 : decode cX0_readFrom 117 = .ok (.istore 8, 2) := by decide +kernel
theorem dX0_readFrom_119 : decode cX0_readFrom 119 = .ok (.iload 8, 2) := by decide +kernel
theorem dX0_readFrom_121 : decode cX0_readFrom 121 = .ok (.ifCond .gt 20, 3) := by decide +kernel
theorem dX0_readFrom_124 : decode cX0_readFrom 124 = .ok (.iload 4, 2) := by decide +kernel
theorem dX0_readFrom_126 : decode cX0_readFrom 126 = .ok (.ifCond .ne 13, 3) := by decide +kernel
theorem dX0_readFrom_129 : decode cX0_readFrom 129 = .ok (.iload 5, 2) := by decide +kernel
theorem dX0_readFrom_131 : decode cX0_readFrom 131 = .ok (.ifCond .ge 8, 3) := by decide +kernel
theorem dX0_readFrom_134 : decode cX0_readFrom 134 = .ok (.bipush (-2), 2) := by decide +kernel
theorem dX0_readFrom_136 : decode cX0_readFrom 136 = .ok (.goto 4, 3) := by decide +kernel
theorem dX0_readFrom_139 : decode cX0_readFrom 139 = .ok (.iconst 0, 1) := by decide +kernel
theorem dX0_readFrom_140 : decode cX0_readFrom 140 = .ok (.ireturn, 1) := by decide +kernel
theorem dX0_readFrom_141 : decode cX0_readFrom 141 = .ok (.aload_n 0, 1) := by decide +kernel
theorem dX0_readFrom_142 : decode cX0_readFrom 142 = .ok (.getfield 20, 3) := by decide +kernel
theorem dX0_readFrom_145 : decode cX0_readFrom 145 = .ok (.iload_n 3, 1) := by decide +kernel
theorem dX0_readFrom_146 : decode cX0_readFrom 146 = .ok (.iload 6, 2) := by decide +kernel
theorem dX0_readFrom_148 : decode cX0_readFrom 148 = .ok (.iload 8, 2) := by decide +kernel
theorem dX0_readFrom_150 : decode cX0_readFrom 150 = .ok (.isub, 1) := by decide +kernel
theorem dX0_readFrom_151 : decode cX0_readFrom 151 = .ok (.invokevirtual 114, 3) := by decide +kernel
theorem dX0_readFrom_154 : decode cX0_readFrom 154 = .ok (.iload 4, 2) := by decide +kernel
theorem dX0_readFrom_156 : decode cX0_readFrom 156 = .ok (.ifCond .ne 14, 3) := by decide +kernel
theorem dX0_readFrom_159 : decode cX0_readFrom 159 = .ok (.aload_n 0, 1) := by decide +kernel
theorem dX0_readFrom_160 : decode cX0_readFrom 160 = .ok (.iload 5, 2) := by decide +kernel
theorem dX0_readFrom_162 : decode cX0_readFrom 162 = .ok (.iconst 2, 1) := by decide +kernel
theorem dX0_readFrom_163 : decode cX0_readFrom 163 = .ok (.iconst 0, 1) := by decide +kernel
theorem dX0_readFrom_164 : decode cX0_readFrom 164 = .ok (.invokevirtual 89, 3) := by decide +kernel
theorem dX0_readFrom_167 : decode cX0_readFrom 167 = .ok (.goto 16, 3) := by decide +kernel
theorem dX0_readFrom_170 : decode cX0_readFrom 170 = .ok (.iload 4, 2) := by decide +kernel
theorem dX0_readFrom_172 : decode cX0_readFrom 172 = .ok (.iconst 2, 1) := by decide +kernel
theorem dX0_readFrom_173 : decode cX0_readFrom 173 = .ok (.if_icmp .ne 10, 3) := by decide +kernel
theorem dX0_readFrom_176 : decode cX0_readFrom 176 = .ok (.aload_n 0, 1) := by decide +kernel
theorem dX0_readFrom_177 : decode cX0_readFrom 177 = .ok (.iload_n 3, 1) := by decide +kernel
theorem dX0_readFrom_178 : decode cX0_readFrom 178 = .ok (.iconst 2, 1) := by decide +kernel
theorem dX0_readFrom_179 : decode cX0_readFrom 179 = .ok (.iconst 0, 1) := by decide +kernel
theorem dX0_readFrom_180 : decode cX0_readFrom 180 = .ok (.invokevirtual 89, 3) := by decide +kernel
theorem dX0_readFrom_183 : decode cX0_readFrom 183 = .ok (.iload 8, 2) := by decide +kernel
theorem dX0_readFrom_185 : decode cX0_readFrom 185 = .ok (.ireturn, 1) := by decide +kernel
theorem dX0_armTimer_0 : decode cX0_armTimer 0 = .ok (.aload_n 0, 1) := by decide +kernel
theorem dX0_armTimer_1 : decode cX0_armTimer 1 = .ok (.getfield 20, 3) := by decide +kernel
theorem dX0_armTimer_4 : decode cX0_armTimer 4 = .ok (.iload_n 1, 1) := by decide +kernel
theorem dX0_armTimer_5 : decode cX0_armTimer 5 = .ok (.iconst 3, 1) := by decide +kernel
theorem dX0_armTimer_6 : decode cX0_armTimer 6 = .ok (.invokevirtual 82, 3) := by decide +kernel
theorem dX0_armTimer_9 : decode cX0_armTimer 9 = .ok (.istore 4, 2) := by decide +kernel
theorem dX0_armTimer_11 : decode cX0_armTimer 11 = .ok (.iload 4, 2) := by decide +kernel
theorem dX0_armTimer_13 : decode cX0_armTimer 13 = .ok (.ifCond .lt 25, 3) := by decide +kernel
theorem dX0_armTimer_16 : decode cX0_armTimer 16 = .ok (.iload_n 2, 1) := by decide +kernel
theorem dX0_armTimer_17 : decode cX0_armTimer 17 = .ok (.iconst 0, 1) := by decide +kernel
theorem dX0_armTimer_18 : decode cX0_armTimer 18 = .ok (.sipush 1000, 3) := by decide +kernel
theorem dX0_armTimer_21 : decode cX0_armTimer 21 = .ok (.invokestatic 72, 3) := by decide +kernel
theorem dX0_armTimer_24 : decode cX0_armTimer 24 = .ok (.ifCond .eq 14, 3) := by decide +kernel
theorem dX0_armTimer_27 : decode cX0_armTimer 27 = .ok (.iload_n 3, 1) := by decide +kernel
theorem dX0_armTimer_28 : decode cX0_armTimer 28 = .ok (.iconst 0, 1) := by decide +kernel
theorem dX0_armTimer_29 : decode cX0_armTimer 29 = .ok (.sipush 1000, 3) := by decide +kernel
theorem dX0_armTimer_32 : decode cX0_armTimer 32 = .ok (.invokestatic 72, 3) := by decide +kernel
theorem dX0_armTimer_35 : decode cX0_armTimer 35 = .ok (.ifCond .ne 5, 3) := by decide +kernel
theorem dX0_armTimer_38 : decode cX0_armTimer 38 = .ok (.iconst 0, 1) := by decide +kernel
theorem dX0_armTimer_39 : decode cX0_armTimer 39 = .ok (.ireturn, 1) := by decide +kernel
theorem dX0_armTimer_40 : decode cX0_armTimer 40 = .ok (.aload_n 0, 1) := by decide +kernel
theorem dX0_armTimer_41 : decode cX0_armTimer 41 = .ok (.getfield 9, 3) := by decide +kernel
theorem dX0_armTimer_44 : decode cX0_armTimer 44 = .ok (.bipush 47, 2) := by decide +kernel
theorem dX0_armTimer_46 : decode cX0_armTimer 46 = .ok (.iload 4, 2) := by decide +kernel
theorem dX0_armTimer_48 : decode cX0_armTimer 48 = .ok (.iadd, 1) := by decide +kernel
theorem dX0_armTimer_49 : decode cX0_armTimer 49 = .ok (.iconst 0, 1) := by decide +kernel
theorem dX0_armTimer_50 : decode cX0_armTimer 50 = .ok (.iastore, 1) := by decide +kernel
theorem dX0_armTimer_51 : decode cX0_armTimer 51 = .ok (.aload_n 0, 1) := by decide +kernel
theorem dX0_armTimer_52 : decode cX0_armTimer 52 = .ok (.getfield 9, 3) := by decide +kernel
theorem dX0_armTimer_55 : decode cX0_armTimer 55 = .ok (.sipush 159, 3) := by decide +kernel
theorem dX0_armTimer_58 : decode cX0_armTimer 58 = .ok (.iload 4, 2) := by decide +kernel
theorem dX0_armTimer_60 : decode cX0_armTimer 60 = .ok (.iadd, 1) := by decide +kernel
theorem dX0_armTimer_61 : decode cX0_armTimer 61 = .ok (.iload_n 2, 1) := by decide +kernel
theorem dX0_armTimer_62 : decode cX0_armTimer 62 = .ok (.ifCond .ne 7, 3) := by decide +kernel
theorem dX0_armTimer_65 : decode cX0_armTimer 65 = .ok (.iconst (-1), 1) := by decide +kernel
theorem dX0_armTimer_66 : decode cX0_armTimer 66 = .ok (.goto 11, 3) := by decide +kernel
theorem dX0_armTimer_69 : decode cX0_armTimer 69 = .ok (.aload_n 0, 1) := by decide +kernel
theorem dX0_armTimer_70 : decode cX0_armTimer 70 = .ok (.getfield 9, 3) := by decide +kernel
theorem dX0_armTimer_73 : decode cX0_armTimer 73 = .ok (.iconst 0, 1) := by decide +kernel
theorem dX0_armTimer_74 : decode cX0_armTimer 74 = .ok (.iaload, 1) := by decide +kernel
theorem dX0_armTimer_75 : decode cX0_armTimer 75 = .ok (.iload_n 2, 1) := by decide +kernel
theorem dX0_armTimer_76 : decode cX0_armTimer 76 = .ok (.iadd, 1) := by decide +kernel
theorem dX0_armTimer_77 : decode cX0_armTimer 77 = .ok (.iastore, 1) := by decide +kernel
theorem dX0_armTimer_78 : decode cX0_armTimer 78 = .ok (.aload_n 0, 1) := by decide +kernel
theorem dX0_armTimer_79 : decode cX0_armTimer 79 = .ok (.getfield 9, 3) := by decide +kernel
theorem dX0_armTimer_82 : decode cX0_armTimer 82 = .ok (.sipush 187, 3) := by decide +kernel
theorem dX0_armTimer_85 : decode cX0_armTimer 85 = .ok (.iload 4, 2) := by decide +kernel
theorem dX0_armTimer_87 : decode cX0_armTimer 87 = .ok (.iadd, 1) := by decide +kernel
theorem dX0_armTimer_88 : decode cX0_armTimer 88 = .ok (.iload_n 3, 1) := by decide +kernel
theorem dX0_armTimer_89 : decode cX0_armTimer 89 = .ok (.iastore, 1) := by decide +kernel
theorem dX0_armTimer_90 : decode cX0_armTimer 90 = .ok (.iconst 1, 1) := by decide +kernel
theorem dX0_armTimer_91 : decode cX0_armTimer 91 = .ok (.ireturn, 1) := by decide +kernel
theorem dX0_passTime_0 : decode cX0_passTime 0 = .ok (.aload_n 0, 1) := by decide +kernel
theorem dX0_passTime_1 : decode cX0_passTime 1 = .ok (.getfield 9, 3) := by decide +kernel
theorem dX0_passTime_4 : decode cX0_passTime 4 = .ok (.iconst 0, 1) := by decide +kernel
theorem dX0_passTime_5 : decode cX0_passTime 5 = .ok (.dup2, 1) := by decide +kernel
theorem dX0_passTime_6 : decode cX0_passTime 6 = .ok (.iaload, 1) := by decide +kernel
theorem dX0_passTime_7 : decode cX0_passTime 7 = .ok (.iconst 1, 1) := by decide +kernel
theorem dX0_passTime_8 : decode cX0_passTime 8 = .ok (.iadd, 1) := by decide +kernel
theorem dX0_passTime_9 : decode cX0_passTime 9 = .ok (.dup_x2, 1) := by decide +kernel
theorem dX0_passTime_10 : decode cX0_passTime 10 = .ok (.iastore, 1) := by decide +kernel
theorem dX0_passTime_11 : decode cX0_passTime 11 = .ok (.istore_n 1, 1) := by decide +kernel
theorem dX0_passTime_12 : decode cX0_passTime 12 = .ok (.iconst 0, 1) := by decide +kernel
theorem dX0_passTime_13 : decode cX0_passTime 13 = .ok (.istore_n 2, 1) := by decide +kernel
theorem dX0_passTime_14 : decode cX0_passTime 14 = .ok (.iload_n 2, 1) := by decide +kernel
theorem dX0_passTime_15 : decode cX0_passTime 15 = .ok (.bipush 16, 2) := by decide +kernel
theorem dX0_passTime_17 : decode cX0_passTime 17 = .ok (.if_icmp .ge 121, 3) := by decide +kernel
theorem dX0_passTime_20 : decode cX0_passTime 20 = .ok (.aload_n 0, 1) := by decide +kernel
theorem dX0_passTime_21 : decode cX0_passTime 21 = .ok (.getfield 9, 3) := by decide +kernel
theorem dX0_passTime_24 : decode cX0_passTime 24 = .ok (.iconst 3, 1) := by decide +kernel
theorem dX0_passTime_25 : decode cX0_passTime 25 = .ok (.iload_n 2, 1) := by decide +kernel
theorem dX0_passTime_26 : decode cX0_passTime 26 = .ok (.iadd, 1) := by decide +kernel
theorem dX0_passTime_27 : decode cX0_passTime 27 = .ok (.iaload, 1) := by decide +kernel
theorem dX0_passTime_28 : decode cX0_passTime 28 = .ok (.istore_n 3, 1) := by decide +kernel
theorem dX0_passTime_29 : decode cX0_passTime 29 = .ok (.iload_n 3, 1) := by decide +kernel
theorem dX0_passTime_30 : decode cX0_passTime 30 = .ok (.ifCond .lt 102, 3) := by decide +kernel
theorem dX0_passTime_33 : decode cX0_passTime 33 = .ok (.aload_n 0, 1) := by decide +kernel
theorem dX0_passTime_34 : decode cX0_passTime 34 = .ok (.getfield 9, 3) := by decide +kernel
theorem dX0_passTime_37 : decode cX0_passTime 37 = .ok (.bipush 19, 2) := by decide +kernel
theorem dX0_passTime_39 : decode cX0_passTime 39 = .ok (.iload_n 3, 1) := by decide +kernel
theorem dX0_passTime_40 : decode cX0_passTime 40 = .ok (.iadd, 1) := by decide +kernel
theorem dX0_passTime_41 : decode cX0_passTime 41 = .ok (.iaload, 1) := by decide +kernel
theorem dX0_passTime_42 : decode cX0_passTime 42 = .ok (.iconst 3, 1) := by decide +kernel
theorem dX0_passTime_43 : decode cX0_passTime 43 = .ok (.if_icmp .ne 89, 3) := by decide +kernel
theorem dX0_passTime_46 : decode cX0_passTime 46 = .ok (.aload_n 0, 1) := by decide +kernel
theorem dX0_passTime_47 : decode cX0_passTime 47 = .ok (.getfield 9, 3) := by decide +kernel
theorem dX0_passTime_50 : decode cX0_passTime 50 = .ok (.sipush 159, 3) := by decide +kernel
theorem dX0_passTime_53 : decode cX0_passTime 53 = .ok (.iload_n 3, 1) := by decide +kernel
theorem dX0_passTime_54 : decode cX0_passTime 54 = .ok (.iadd, 1) := by decide +kernel
theorem dX0_passTime_55 : decode cX0_passTime 55 = .ok (.iaload, 1) := by decide +kernel
theorem dX0_passTime_56 : decode cX0_passTime 56 = .ok (.iload_n 1, 1) := by decide +kernel
theorem dX0_passTime_57 : decode cX0_passTime 57 = .ok (.if_icmp .ne 75, 3) := by decide +kernel
theorem dX0_passTime_60 : decode cX0_passTime 60 = .ok (.aload_n 0, 1) := by decide +kernel
theorem dX0_passTime_61 : decode cX0_passTime 61 = .ok (.getfield 9, 3) := by decide +kernel
theorem dX0_passTime_64 : decode cX0_passTime 64 = .ok (.bipush 47, 2) := by decide +kernel
theorem dX0_passTime_66 : decode cX0_passTime 66 = .ok (.iload_n 3, 1) := by decide +kernel
theorem dX0_passTime_67 : decode cX0_passTime 67 = .ok (.iadd, 1) := by decide +kernel
theorem dX0_passTime_68 : decode cX0_passTime 68 = .ok (.sipush 1000, 3) := by decide +kernel
theorem dX0_passTime_71 : decode cX0_passTime 71 = .ok (.aload_n 0, 1) := by decide +kernel
theorem dX0_passTime_72 : decode cX0_passTime 72 = .ok (.getfield 9, 3) := by decide +kernel
theorem dX0_passTime_75 : decode cX0_passTime 75 = .ok (.bipush 47, 2) := by decide +kernel
theorem dX0_passTime_77 : decode cX0_passTime 77 = .ok (.iload_n 3, 1) := by decide +kernel
theorem dX0_passTime_78 : decode cX0_passTime 78 = .ok (.iadd, 1) := by decide +kernel
theorem dX0_passTime_79 : decode cX0_passTime 79 = .ok (.iaload, 1) := by decide +kernel
theorem dX0_passTime_80 : decode cX0_passTime 80 = .ok (.iconst 1, 1) := by decide +kernel
theorem dX0_passTime_81 : decode cX0_passTime 81 = .ok (.iadd, 1) := by decide +kernel
theorem dX0_passTime_82 : decode cX0_passTime 82 = .ok (.invokestatic 109, 3) := by decide +kernel
theorem dX0_passTime_85 : decode cX0_passTime 85 = .ok (.iastore, 1) := by decide +kernel
theorem dX0_passTime_86 : decode cX0_passTime 86 = .ok (.aload_n 0, 1) := by decide +kernel
theorem dX0_passTime_87 : decode cX0_passTime 87 = .ok (.getfield 9, 3) := by decide +kernel
theorem dX0_passTime_90 : decode cX0_passTime 90 = .ok (.sipush 159, 3) := by decide +kernel
theorem dX0_passTime_93 : decode cX0_passTime 93 = .ok (.iload_n 3, 1) := by decide +kernel
theorem dX0_passTime_94 : decode cX0_passTime 94 = .ok (.iadd, 1) := by decide +kernel
theorem dX0_passTime_95 : decode cX0_passTime 95 = .ok (.aload_n 0, 1) := by decide +kernel
theorem dX0_passTime_96 : decode cX0_passTime 96 = .ok (.getfield 9, 3) := by decide +kernel
theorem dX0_passTime_99 : decode cX0_passTime 99 = .ok (.sipush 187, 3) := by decide +kernel
theorem dX0_passTime_102 : decode cX0_passTime 102 = .ok (.iload_n 3, 1) := by decide +kernel
theorem dX0_passTime_103 : decode cX0_passTime 103 = .ok (.iadd, 1) := by decide +kernel
theorem dX0_passTime_104 : decode cX0_passTime 104 = .ok (.iaload, 1) := by decide +kernel
theorem dX0_passTime_105 : decode cX0_passTime 105 = .ok (.ifCond .ne 7, 3) := by decide +kernel
theorem dX0_passTime_108 : decode cX0_passTime 108 = .ok (.iconst (-1), 1) := by decide +kernel
theorem dX0_passTime_109 : decode cX0_passTime 109 = .ok (.goto 15, 3) := by decide +kernel
theorem dX0_passTime_112 : decode cX0_passTime 112 = .ok (.iload_n 1, 1) := by decide +kernel
theorem dX0_passTime_113 : decode cX0_passTime 113 = .ok (.aload_n 0, 1) := by decide +kernel
theorem dX0_passTime_114 : decode cX0_passTime 114 = .ok (.getfield 9, 3) := by decide +kernel
theorem dX0_passTime_117 : decode cX0_passTime 117 = .ok (.sipush 187, 3) := by decide +kernel
theorem dX0_passTime_120 : decode cX0_passTime 120 = .ok (.iload_n 3, 1) := by decide +kernel
theorem dX0_passTime_121 : decode cX0_passTime 121 = .ok (.iadd, 1) := by decide +kernel
theorem dX0_passTime_122 : decode cX0_passTime 122 = .ok (.iaload, 1) := by decide +kernel
theorem dX0_passTime_123 : decode cX0_passTime 123 = .ok (.iadd, 1) := by decide +kernel
theorem dX0_passTime_124 : decode cX0_passTime 124 = .ok (.iastore, 1) := by decide +kernel
theorem dX0_passTime_125 : decode cX0_passTime 125 = .ok (.aload_n 0, 1) := by decide +kernel
theorem dX0_passTime_126 : decode cX0_passTime 126 = .ok (.iload_n 3, 1) := by decide +kernel
theorem dX0_passTime_127 : decode cX0_passTime 127 = .ok (.iconst 1, 1) := by decide +kernel
theorem dX0_passTime_128 : decode cX0_passTime 128 = .ok (.iconst 0, 1) := by decide +kernel
theorem dX0_passTime_129 : decode cX0_passTime 129 = .ok (.invokevirtual 89, 3) := by decide +kernel
theorem dX0_passTime_132 : decode cX0_passTime 132 = .ok (.iinc 2 1, 3) := by decide +kernel
theorem dX0_passTime_135 : decode cX0_passTime 135 = .ok (.goto (-121), 3) := by decide +kernel
theorem dX0_passTime_138 : decode cX0_passTime 138 = .ok (.aload_n 0, 1) := by decide +kernel
theorem dX0_passTime_139 : decode cX0_passTime 139 = .ok (.getfield 34, 3) := by decide +kernel
theorem dX0_passTime_142 : decode cX0_passTime 142 = .ok (.invokevirtual 117, 3) := by decide +kernel
theorem dX0_passTime_145 : decode cX0_passTime 145 = .ok (.return_, 1) := by decide +kernel
theorem dX0_findInterest_0 : decode cX0_findInterest 0 = .ok (.aload_n 0, 1) := by decide +kernel
theorem dX0_findInterest_1 : decode cX0_findInterest 1 = .ok (.getfield 20, 3) := by decide +kernel
theorem dX0_findInterest_4 : decode cX0_findInterest 4 = .ok (.iload_n 1, 1) := by decide +kernel
theorem dX0_findInterest_5 : decode cX0_findInterest 5 = .ok (.iconst 4, 1) := by decide +kernel
theorem dX0_findInterest_6 : decode cX0_findInterest 6 = .ok (.invokevirtual 82, 3) := by decide +kernel
theorem dX0_findInterest_9 : decode cX0_findInterest 9 = .ok (.istore_n 3, 1) := by decide +kernel
theorem dX0_findInterest_10 : decode cX0_findInterest 10 = .ok (.aload_n 0, 1) := by decide +kernel
theorem dX0_findInterest_11 : decode cX0_findInterest 11 = .ok (.getfield 20, 3) := by decide +kernel
theorem dX0_findInterest_14 : decode cX0_findInterest 14 = .ok (.iload_n 2, 1) := by decide +kernel
theorem dX0_findInterest_15 : decode cX0_findInterest 15 = .ok (.invokevirtual 96, 3) := by decide +kernel
theorem dX0_findInterest_18 : decode cX0_findInterest 18 = .ok (.istore 4, 2) := by decide +kernel
theorem dX0_findInterest_20 : decode cX0_findInterest 20 = .ok (.iload_n 3, 1) := by decide +kernel
theorem dX0_findInterest_21 : decode cX0_findInterest 21 = .ok (.ifCond .lt 8, 3) := by decide +kernel
theorem dX0_findInterest_24 : decode cX0_findInterest 24 = .ok (.iload 4, 2) := by decide +kernel
theorem dX0_findInterest_26 : decode cX0_findInterest 26 = .ok (.ifCond .ge 7, 3) := by decide +kernel
theorem dX0_findInterest_29 : decode cX0_findInterest 29 = .ok (.iconst (-1), 1) := by decide +kernel
theorem dX0_findInterest_30 : decode cX0_findInterest 30 = .ok (.goto 14, 3) := by decide +kernel
theorem dX0_findInterest_33 : decode cX0_findInterest 33 = .ok (.aload_n 0, 1) := by decide +kernel
theorem dX0_findInterest_34 : decode cX0_findInterest 34 = .ok (.getfield 27, 3) := by decide +kernel
theorem dX0_findInterest_37 : decode cX0_findInterest 37 = .ok (.iload_n 3, 1) := by decide +kernel
theorem dX0_findInterest_38 : decode cX0_findInterest 38 = .ok (.iload_n 2, 1) := by decide +kernel
theorem dX0_findInterest_39 : decode cX0_findInterest 39 = .ok (.iload 4, 2) := by decide +kernel
theorem dX0_findInterest_41 : decode cX0_findInterest 41 = .ok (.invokevirtual 120, 3) := by decide +kernel
theorem dX0_findInterest_44 : decode cX0_findInterest 44 = .ok (.ireturn, 1) := by decide +kernel
theorem dX0_addInterest_0 : decode cX0_addInterest 0 = .ok (.aload_n 0, 1) := by decide +kernel
theorem dX0_addInterest_1 : decode cX0_addInterest 1 = .ok (.getfield 20, 3) := by decide +kernel
theorem dX0_addInterest_4 : decode cX0_addInterest 4 = .ok (.iload_n 1, 1) := by decide +kernel
theorem dX0_addInterest_5 : decode cX0_addInterest 5 = .ok (.iconst 4, 1) := by decide +kernel
theorem dX0_addInterest_6 : decode cX0_addInterest 6 = .ok (.invokevirtual 82, 3) := by decide +kernel
theorem dX0_addInterest_9 : decode cX0_addInterest 9 = .ok (.istore 5, 2) := by decide +kernel
theorem dX0_addInterest_11 : decode cX0_addInterest 11 = .ok (.aload_n 0, 1) := by decide +kernel
theorem dX0_addInterest_12 : decode cX0_addInterest 12 = .ok (.getfield 20, 3) := by decide +kernel
theorem dX0_addInterest_15 : decode cX0_addInterest 15 = .ok (.iload_n 2, 1) := by decide +kernel
theorem dX0_addInterest_16 : decode cX0_addInterest 16 = .ok (.invokevirtual 96, 3) := by decide +kernel
theorem dX0_addInterest_19 : decode cX0_addInterest 19 = .ok (.istore 6, 2) := by decide +kernel
theorem dX0_addInterest_21 : decode cX0_addInterest 21 = .ok (.iload 5, 2) := by decide +kernel
theorem dX0_addInterest_23 : decode cX0_addInterest 23 = .ok (.ifCond .lt 35, 3) := by decide +kernel
theorem dX0_addInterest_26 : decode cX0_addInterest 26 = .ok (.iload 6, 2) := by decide +kernel
theorem dX0_addInterest_28 : decode cX0_addInterest 28 = .ok (.ifCond .lt 30, 3) := by decide +kernel
theorem dX0_addInterest_31 : decode cX0_addInterest 31 = .ok (.iload 5, 2) := by decide +kernel
theorem dX0_addInterest_33 : decode cX0_addInterest 33 = .ok (.iload 6, 2) := by decide +kernel
theorem dX0_addInterest_35 : decode cX0_addInterest 35 = .ok (.if_icmp .eq 23, 3) := by decide +kernel
theorem dX0_addInterest_38 : decode cX0_addInterest 38 = .ok (.iload_n 3, 1) := by decide +kernel
theorem dX0_addInterest_39 : decode cX0_addInterest 39 = .ok (.iconst 0, 1) := by decide +kernel
theorem dX0_addInterest_40 : decode cX0_addInterest 40 = .ok (.iconst 3, 1) := by decide +kernel
theorem dX0_addInterest_41 : decode cX0_addInterest 41 = .ok (.invokestatic 72, 3) := by decide +kernel
theorem dX0_addInterest_44 : decode cX0_addInterest 44 = .ok (.ifCond .eq 14, 3) := by decide +kernel
theorem dX0_addInterest_47 : decode cX0_addInterest 47 = .ok (.iload 4, 2) := by decide +kernel
theorem dX0_addInterest_49 : decode cX0_addInterest 49 = .ok (.iconst 0, 1) := by decide +kernel
theorem dX0_addInterest_50 : decode cX0_addInterest 50 = .ok (.bipush 7, 2) := by decide +kernel
theorem dX0_addInterest_52 : decode cX0_addInterest 52 = .ok (.invokestatic 72, 3) := by decide +kernel
theorem dX0_addInterest_55 : decode cX0_addInterest 55 = .ok (.ifCond .ne 5, 3) := by decide +kernel
theorem dX0_addInterest_58 : decode cX0_addInterest 58 = .ok (.iconst (-1), 1) := by decide +kernel
theorem dX0_addInterest_59 : decode cX0_addInterest 59 = .ok (.ireturn, 1) := by decide +kernel
theorem dX0_addInterest_60 : decode cX0_addInterest 60 = .ok (.aload_n 0, 1) := by decide +kernel
theorem dX0_addInterest_61 : decode cX0_addInterest 61 = .ok (.getfield 27, 3) := by decide +kernel
theorem dX0_addInterest_64 : decode cX0_addInterest 64 = .ok (.iload 5, 2) := by decide +kernel
theorem dX0_addInterest_66 : decode cX0_addInterest 66 = .ok (.iload_n 2, 1) := by decide +kernel
theorem dX0_addInterest_67 : decode cX0_addInterest 67 = .ok (.iload 6, 2) := by decide +kernel
theorem dX0_addInterest_69 : decode cX0_addInterest 69 = .ok (.invokevirtual 120, 3) := by decide +kernel
theorem dX0_addInterest_72 : decode cX0_addInterest 72 = .ok (.ifCond .lt 6, 3) := by decide +kernel
theorem dX0_addInterest_75 : decode cX0_addInterest 75 = .ok (.bipush (-2), 2) := by decide +kernel
theorem dX0_addInterest_77 : decode cX0_addInterest 77 = .ok (.ireturn, 1) := by decide +kernel
theorem dX0_addInterest_78 : decode cX0_addInterest 78 = .ok (.aload_n 0, 1) := by decide +kernel
theorem dX0_addInterest_79 : decode cX0_addInterest 79 = .ok (.getfield 9, 3) := by decide +kernel
theorem dX0_addInterest_82 : decode cX0_addInterest 82 = .ok (.bipush 19, 2) := by decide +kernel
theorem dX0_addInterest_84 : decode cX0_addInterest 84 = .ok (.iload 6, 2) := by decide +kernel
theorem dX0_addInterest_86 : decode cX0_addInterest 86 = .ok (.iadd, 1) := by decide +kernel
theorem dX0_addInterest_87 : decode cX0_addInterest 87 = .ok (.iaload, 1) := by decide +kernel
theorem dX0_addInterest_88 : decode cX0_addInterest 88 = .ok (.iconst 4, 1) := by decide +kernel
theorem dX0_addInterest_89 : decode cX0_addInterest 89 = .ok (.if_icmp .ne 31, 3) := by decide +kernel
theorem dX0_addInterest_92 : decode cX0_addInterest 92 = .ok (.aload_n 0, 1) := by decide +kernel
theorem dX0_addInterest_93 : decode cX0_addInterest 93 = .ok (.getfield 27, 3) := by decide +kernel
theorem dX0_addInterest_96 : decode cX0_addInterest 96 = .ok (.iload 5, 2) := by decide +kernel
theorem dX0_addInterest_98 : decode cX0_addInterest 98 = .ok (.iconst 1, 1) := by decide +kernel
theorem dX0_addInterest_99 : decode cX0_addInterest 99 = .ok (.invokevirtual 124, 3) := by decide +kernel
theorem dX0_addInterest_102 : decode cX0_addInterest 102 = .ok (.aload_n 0, 1) := by decide +kernel
theorem dX0_addInterest_103 : decode cX0_addInterest 103 = .ok (.getfield 27, 3) := by decide +kernel
theorem dX0_addInterest_106 : decode cX0_addInterest 106 = .ok (.iload 6, 2) := by decide +kernel
theorem dX0_addInterest_108 : decode cX0_addInterest 108 = .ok (.iconst 1, 1) := by decide +kernel
theorem dX0_addInterest_109 : decode cX0_addInterest 109 = .ok (.invokevirtual 127, 3) := by decide +kernel
theorem dX0_addInterest_112 : decode cX0_addInterest 112 = .ok (.iadd, 1) := by decide +kernel
theorem dX0_addInterest_113 : decode cX0_addInterest 113 = .ok (.iconst 3, 1) := by decide +kernel
theorem dX0_addInterest_114 : decode cX0_addInterest 114 = .ok (.if_icmp .le 6, 3) := by decide +kernel
theorem dX0_addInterest_117 : decode cX0_addInterest 117 = .ok (.bipush (-3), 2) := by decide +kernel
theorem dX0_addInterest_119 : decode cX0_addInterest 119 = .ok (.ireturn, 1) := by decide +kernel
theorem dX0_addInterest_120 : decode cX0_addInterest 120 = .ok (.aload_n 0, 1) := by decide +kernel
theorem dX0_addInterest_121 : decode cX0_addInterest 121 = .ok (.getfield 27, 3) := by decide +kernel
theorem dX0_addInterest_124 : decode cX0_addInterest 124 = .ok (.iload 5, 2) := by decide +kernel
theorem dX0_addInterest_126 : decode cX0_addInterest 126 = .ok (.iload_n 2, 1) := by decide +kernel
theorem dX0_addInterest_127 : decode cX0_addInterest 127 = .ok (.iload 6, 2) := by decide +kernel
theorem dX0_addInterest_129 : decode cX0_addInterest 129 = .ok (.iload_n 3, 1) := by decide +kernel
theorem dX0_addInterest_130 : decode cX0_addInterest 130 = .ok (.iload 4, 2) := by decide +kernel
theorem dX0_addInterest_132 : decode cX0_addInterest 132 = .ok (.invokevirtual 130, 3) := by decide +kernel
theorem dX0_addInterest_135 : decode cX0_addInterest 135 = .ok (.istore 7, 2) := by decide +kernel
theorem dX0_addInterest_137 : decode cX0_addInterest 137 = .ok (.iload 7, 2) := by decide +kernel
theorem dX0_addInterest_139 : decode cX0_addInterest 139 = .ok (.ifCond .ge 6, 3) := by decide +kernel
theorem dX0_addInterest_142 : decode cX0_addInterest 142 = .ok (.bipush (-4), 2) := by decide +kernel
theorem dX0_addInterest_144 : decode cX0_addInterest 144 = .ok (.ireturn, 1) := by decide +kernel
theorem dX0_addInterest_145 : decode cX0_addInterest 145 = .ok (.aload_n 0, 1) := by decide +kernel
theorem dX0_addInterest_146 : decode cX0_addInterest 146 = .ok (.iload 7, 2) := by decide +kernel
theorem dX0_addInterest_148 : decode cX0_addInterest 148 = .ok (.invokevirtual 134, 3) := by decide +kernel
theorem dX0_addInterest_151 : decode cX0_addInterest 151 = .ok (.pop, 1) := by decide +kernel
theorem dX0_addInterest_152 : decode cX0_addInterest 152 = .ok (.aload_n 0, 1) := by decide +kernel
theorem dX0_addInterest_153 : decode cX0_addInterest 153 = .ok (.getfield 27, 3) := by decide +kernel
theorem dX0_addInterest_156 : decode cX0_addInterest 156 = .ok (.iload 5, 2) := by decide +kernel
theorem dX0_addInterest_158 : decode cX0_addInterest 158 = .ok (.invokevirtual 138, 3) := by decide +kernel
theorem dX0_addInterest_161 : decode cX0_addInterest 161 = .ok (.ireturn, 1) := by decide +kernel
theorem dX0_armInterest_0 : decode cX0_armInterest 0 = .ok (.iload_n 1, 1) := by decide +kernel
theorem dX0_armInterest_1 : decode cX0_armInterest 1 = .ok (.ifCond .ge 5, 3) := by decide +kernel
theorem dX0_armInterest_4 : decode cX0_armInterest 4 = .ok (.iconst 0, 1) := by decide +kernel
theorem dX0_armInterest_5 : decode cX0_armInterest 5 = .ok (.ireturn, 1) := by decide +kernel
theorem dX0_armInterest_6 : decode cX0_armInterest 6 = .ok (.aload_n 0, 1) := by decide +kernel
theorem dX0_armInterest_7 : decode cX0_armInterest 7 = .ok (.getfield 9, 3) := by decide +kernel
theorem dX0_armInterest_10 : decode cX0_armInterest 10 = .ok (.sipush 419, 3) := by decide +kernel
theorem dX0_armInterest_13 : decode cX0_armInterest 13 = .ok (.iload_n 1, 1) := by decide +kernel
theorem dX0_armInterest_14 : decode cX0_armInterest 14 = .ok (.iadd, 1) := by decide +kernel
theorem dX0_armInterest_15 : decode cX0_armInterest 15 = .ok (.iconst 1, 1) := by decide +kernel
theorem dX0_armInterest_16 : decode cX0_armInterest 16 = .ok (.iastore, 1) := by decide +kernel
theorem dX0_armInterest_17 : decode cX0_armInterest 17 = .ok (.aload_n 0, 1) := by decide +kernel
theorem dX0_armInterest_18 : decode cX0_armInterest 18 = .ok (.getfield 27, 3) := by decide +kernel
theorem dX0_armInterest_21 : decode cX0_armInterest 21 = .ok (.iload_n 1, 1) := by decide +kernel
theorem dX0_armInterest_22 : decode cX0_armInterest 22 = .ok (.invokevirtual 141, 3) := by decide +kernel
theorem dX0_armInterest_25 : decode cX0_armInterest 25 = .ok (.ifCond .eq 35, 3) := by decide +kernel
theorem dX0_armInterest_28 : decode cX0_armInterest 28 = .ok (.aload_n 0, 1) := by decide +kernel
theorem dX0_armInterest_29 : decode cX0_armInterest 29 = .ok (.getfield 9, 3) := by decide +kernel
theorem dX0_armInterest_32 : decode cX0_armInterest 32 = .ok (.sipush 299, 3) := by decide +kernel
theorem dX0_armInterest_35 : decode cX0_armInterest 35 = .ok (.iload_n 1, 1) := by decide +kernel
theorem dX0_armInterest_36 : decode cX0_armInterest 36 = .ok (.iadd, 1) := by decide +kernel
theorem dX0_armInterest_37 : decode cX0_armInterest 37 = .ok (.iaload, 1) := by decide +kernel
theorem dX0_armInterest_38 : decode cX0_armInterest 38 = .ok (.istore_n 2, 1) := by decide +kernel
theorem dX0_armInterest_39 : decode cX0_armInterest 39 = .ok (.aload_n 0, 1) := by decide +kernel
theorem dX0_armInterest_40 : decode cX0_armInterest 40 = .ok (.getfield 27, 3) := by decide +kernel
theorem dX0_armInterest_43 : decode cX0_armInterest 43 = .ok (.iload_n 1, 1) := by decide +kernel
theorem dX0_armInterest_44 : decode cX0_armInterest 44 = .ok (.invokevirtual 144, 3) := by decide +kernel
theorem dX0_armInterest_47 : decode cX0_armInterest 47 = .ok (.aload_n 0, 1) := by decide +kernel
theorem dX0_armInterest_48 : decode cX0_armInterest 48 = .ok (.iload_n 2, 1) := by decide +kernel
theorem dX0_armInterest_49 : decode cX0_armInterest 49 = .ok (.invokevirtual 147, 3) := by decide +kernel
theorem dX0_armInterest_52 : decode cX0_armInterest 52 = .ok (.pop, 1) := by decide +kernel
theorem dX0_armInterest_53 : decode cX0_armInterest 53 = .ok (.aload_n 0, 1) := by decide +kernel
theorem dX0_armInterest_54 : decode cX0_armInterest 54 = .ok (.iload_n 2, 1) := by decide +kernel
theorem dX0_armInterest_55 : decode cX0_armInterest 55 = .ok (.iconst 1, 1) := by decide +kernel
theorem dX0_armInterest_56 : decode cX0_armInterest 56 = .ok (.iconst 1, 1) := by decide +kernel
theorem dX0_armInterest_57 : decode cX0_armInterest 57 = .ok (.invokevirtual 89, 3) := by decide +kernel
theorem dX0_armInterest_60 : decode cX0_armInterest 60 = .ok (.iconst 1, 1) := by decide +kernel
theorem dX0_armInterest_61 : decode cX0_armInterest 61 = .ok (.ireturn, 1) := by decide +kernel
theorem dX0_sendNotice_0 : decode cX0_sendNotice 0 = .ok (.iload_n 1, 1) := by decide +kernel
theorem dX0_sendNotice_1 : decode cX0_sendNotice 1 = .ok (.ifCond .lt 8, 3) := by decide +kernel
theorem dX0_sendNotice_4 : decode cX0_sendNotice 4 = .ok (.iload_n 3, 1) := by decide +kernel
theorem dX0_sendNotice_5 : decode cX0_sendNotice 5 = .ok (.iconst 3, 1) := by decide +kernel
theorem dX0_sendNotice_6 : decode cX0_sendNotice 6 = .ok (.if_icmp .le 4, 3) := by decide +kernel
theorem dX0_sendNotice_9 : decode cX0_sendNotice 9 = .ok (.return_, 1) := by decide +kernel
theorem dX0_sendNotice_10 : decode cX0_sendNotice 10 = .ok (.iconst 0, 1) := by decide +kernel
theorem dX0_sendNotice_11 : decode cX0_sendNotice 11 = .ok (.istore 4, 2) := by decide +kernel
theorem dX0_sendNotice_13 : decode cX0_sendNotice 13 = .ok (.aload_n 0, 1) := by decide +kernel
theorem dX0_sendNotice_14 : decode cX0_sendNotice 14 = .ok (.getfield 9, 3) := by decide +kernel
theorem dX0_sendNotice_17 : decode cX0_sendNotice 17 = .ok (.iconst 2, 1) := by decide +kernel
theorem dX0_sendNotice_18 : decode cX0_sendNotice 18 = .ok (.iaload, 1) := by decide +kernel
theorem dX0_sendNotice_19 : decode cX0_sendNotice 19 = .ok (.istore 5, 2) := by decide +kernel
theorem dX0_sendNotice_21 : decode cX0_sendNotice 21 = .ok (.iconst 0, 1) := by decide +kernel
theorem dX0_sendNotice_22 : decode cX0_sendNotice 22 = .ok (.istore 6, 2) := by decide +kernel
theorem dX0_sendNotice_24 : decode cX0_sendNotice 24 = .ok (.iload 6, 2) := by decide +kernel
theorem dX0_sendNotice_26 : decode cX0_sendNotice 26 = .ok (.iload 5, 2) := by decide +kernel
theorem dX0_sendNotice_28 : decode cX0_sendNotice 28 = .ok (.if_icmp .ge 153, 3) := by decide +kernel
theorem dX0_sendNotice_31 : decode cX0_sendNotice 31 = .ok (.aload_n 0, 1) := by decide +kernel
theorem dX0_sendNotice_32 : decode cX0_sendNotice 32 = .ok (.getfield 9, 3) := by decide +kernel
theorem dX0_sendNotice_35 : decode cX0_sendNotice 35 = .ok (.sipush 395, 3) := by decide +kernel
theorem dX0_sendNotice_38 : decode cX0_sendNotice 38 = .ok (.iload 6, 2) := by decide +kernel
theorem dX0_sendNotice_40 : decode cX0_sendNotice 40 = .ok (.iadd, 1) := by decide +kernel
theorem dX0_sendNotice_41 : decode cX0_sendNotice 41 = .ok (.iaload, 1) := by decide +kernel
theorem dX0_sendNotice_42 : decode cX0_sendNotice 42 = .ok (.iconst 4, 1) := by decide +kernel
theorem dX0_sendNotice_43 : decode cX0_sendNotice 43 = .ok (.iand, 1) := by decide +kernel
theorem dX0_sendNotice_44 : decode cX0_sendNotice 44 = .ok (.ifCond .eq 7, 3) := by decide +kernel
theorem dX0_sendNotice_47 : decode cX0_sendNotice 47 = .ok (.iconst 1, 1) := by decide +kernel
theorem dX0_sendNotice_48 : decode cX0_sendNotice 48 = .ok (.goto 4, 3) := by decide +kernel
theorem dX0_sendNotice_51 : decode cX0_sendNotice 51 = .ok (.iconst 0, 1) := by decide +kernel
theorem dX0_sendNotice_52 : decode cX0_sendNotice 52 = .ok (.istore 7, 2) := by decide +kernel
theorem dX0_sendNotice_54 : decode cX0_sendNotice 54 = .ok (.aload_n 0, 1) := by decide +kernel
theorem dX0_sendNotice_55 : decode cX0_sendNotice 55 = .ok (.getfield 9, 3) := by decide +kernel
theorem dX0_sendNotice_58 : decode cX0_sendNotice 58 = .ok (.sipush 323, 3) := by decide +kernel
theorem dX0_sendNotice_61 : decode cX0_sendNotice 61 = .ok (.iload 6, 2) := by decide +kernel
theorem dX0_sendNotice_63 : decode cX0_sendNotice 63 = .ok (.iadd, 1) := by decide +kernel
theorem dX0_sendNotice_64 : decode cX0_sendNotice 64 = .ok (.iaload, 1) := by decide +kernel
theorem dX0_sendNotice_65 : decode cX0_sendNotice 65 = .ok (.iload_n 1, 1) := by decide +kernel
theorem dX0_sendNotice_66 : decode cX0_sendNotice 66 = .ok (.if_icmp .ne 109, 3) := by decide +kernel
theorem dX0_sendNotice_69 : decode cX0_sendNotice 69 = .ok (.aload_n 0, 1) := by decide +kernel
theorem dX0_sendNotice_70 : decode cX0_sendNotice 70 = .ok (.getfield 27, 3) := by decide +kernel
theorem dX0_sendNotice_73 : decode cX0_sendNotice 73 = .ok (.iload 6, 2) := by decide +kernel
theorem dX0_sendNotice_75 : decode cX0_sendNotice 75 = .ok (.iload_n 2, 1) := by decide +kernel
theorem dX0_sendNotice_76 : decode cX0_sendNotice 76 = .ok (.invokevirtual 150, 3) := by decide +kernel
theorem dX0_sendNotice_79 : decode cX0_sendNotice 79 = .ok (.ifCond .eq 96, 3) := by decide +kernel
theorem dX0_sendNotice_82 : decode cX0_sendNotice 82 = .ok (.iload 7, 2) := by decide +kernel
theorem dX0_sendNotice_84 : decode cX0_sendNotice 84 = .ok (.ifCond .eq 11, 3) := by decide +kernel
theorem dX0_sendNotice_87 : decode cX0_sendNotice 87 = .ok (.iload 4, 2) := by decide +kernel
theorem dX0_sendNotice_89 : decode cX0_sendNotice 89 = .ok (.ifCond .eq 6, 3) := by decide +kernel
theorem dX0_sendNotice_92 : decode cX0_sendNotice 92 = .ok (.goto 83, 3) := by decide +kernel
theorem dX0_sendNotice_95 : decode cX0_sendNotice 95 = .ok (.aload_n 0, 1) := by decide +kernel
theorem dX0_sendNotice_96 : decode cX0_sendNotice 96 = .ok (.getfield 27, 3) := by decide +kernel
theorem dX0_sendNotice_99 : decode cX0_sendNotice 99 = .ok (.iload 6, 2) := by decide +kernel
theorem dX0_sendNotice_101 : decode cX0_sendNotice 101 = .ok (.invokevirtual 144, 3) := by decide +kernel
theorem dX0_sendNotice_104 : decode cX0_sendNotice 104 = .ok (.aload_n 0, 1) := by decide +kernel
theorem dX0_sendNotice_105 : decode cX0_sendNotice 105 = .ok (.getfield 9, 3) := by decide +kernel
theorem dX0_sendNotice_108 : decode cX0_sendNotice 108 = .ok (.sipush 467, 3) := by decide +kernel
theorem dX0_sendNotice_111 : decode cX0_sendNotice 111 = .ok (.iload 6, 2) := by decide +kernel
theorem dX0_sendNotice_113 : decode cX0_sendNotice 113 = .ok (.iadd, 1) := by decide +kernel
theorem dX0_sendNotice_114 : decode cX0_sendNotice 114 = .ok (.dup2, 1) := by decide +kernel
theorem dX0_sendNotice_115 : decode cX0_sendNotice 115 = .ok (.iaload, 1) := by decide +kernel
theorem dX0_sendNotice_116 : decode cX0_sendNotice 116 = .ok (.iconst 1, 1) := by decide +kernel
theorem dX0_sendNotice_117 : decode cX0_sendNotice 117 = .ok (.iadd, 1) := by decide +kernel
theorem dX0_sendNotice_118 : decode cX0_sendNotice 118 = .ok (.iastore, 1) := by decide +kernel
theorem dX0_sendNotice_119 : decode cX0_sendNotice 119 = .ok (.aload_n 0, 1) := by decide +kernel
theorem dX0_sendNotice_120 : decode cX0_sendNotice 120 = .ok (.aload_n 0, 1) := by decide +kernel
theorem dX0_sendNotice_121 : decode cX0_sendNotice 121 = .ok (.getfield 9, 3) := by decide +kernel
theorem dX0_sendNotice_124 : decode cX0_sendNotice 124 = .ok (.sipush 299, 3) := by decide +kernel
theorem dX0_sendNotice_127 : decode cX0_sendNotice 127 = .ok (.iload 6, 2) := by decide +kernel
theorem dX0_sendNotice_129 : decode cX0_sendNotice 129 = .ok (.iadd, 1) := by decide +kernel
theorem dX0_sendNotice_130 : decode cX0_sendNotice 130 = .ok (.iaload, 1) := by decide +kernel
theorem dX0_sendNotice_131 : decode cX0_sendNotice 131 = .ok (.invokevirtual 147, 3) := by decide +kernel
theorem dX0_sendNotice_134 : decode cX0_sendNotice 134 = .ok (.istore 8, 2) := by decide +kernel
theorem dX0_sendNotice_136 : decode cX0_sendNotice 136 = .ok (.aload_n 0, 1) := by decide +kernel
theorem dX0_sendNotice_137 : decode cX0_sendNotice 137 = .ok (.aload_n 0, 1) := by decide +kernel
theorem dX0_sendNotice_138 : decode cX0_sendNotice 138 = .ok (.getfield 9, 3) := by decide +kernel
theorem dX0_sendNotice_141 : decode cX0_sendNotice 141 = .ok (.sipush 299, 3) := by decide +kernel
theorem dX0_sendNotice_144 : decode cX0_sendNotice 144 = .ok (.iload 6, 2) := by decide +kernel
theorem dX0_sendNotice_146 : decode cX0_sendNotice 146 = .ok (.iadd, 1) := by decide +kernel
theorem dX0_sendNotice_147 : decode cX0_sendNotice 147 = .ok (.iaload, 1) := by decide +kernel
theorem dX0_sendNotice_148 : decode cX0_sendNotice 148 = .ok (.iconst 1, 1) := by decide +kernel
theorem dX0_sendNotice_149 : decode cX0_sendNotice 149 = .ok (.iload_n 3, 1) := by decide +kernel
theorem dX0_sendNotice_150 : decode cX0_sendNotice 150 = .ok (.iconst 1, 1) := by decide +kernel
theorem dX0_sendNotice_151 : decode cX0_sendNotice 151 = .ok (.iadd, 1) := by decide +kernel
theorem dX0_sendNotice_152 : decode cX0_sendNotice 152 = .ok (.invokevirtual 89, 3) := by decide +kernel
theorem dX0_sendNotice_155 : decode cX0_sendNotice 155 = .ok (.iload 4, 2) := by decide +kernel
theorem dX0_sendNotice_157 : decode cX0_sendNotice 157 = .ok (.iload 7, 2) := by decide +kernel
theorem dX0_sendNotice_159 : decode cX0_sendNotice 159 = .ok (.ifCond .eq 12, 3) := by decide +kernel
theorem dX0_sendNotice_162 : decode cX0_sendNotice 162 = .ok (.iload 8, 2) := by decide +kernel
theorem dX0_sendNotice_164 : decode cX0_sendNotice 164 = .ok (.ifCond .eq 7, 3) := by decide +kernel
theorem dX0_sendNotice_167 : decode cX0_sendNotice 167 = .ok (.iconst 1, 1) := by decide +kernel
theorem dX0_sendNotice_168 : decode cX0_sendNotice 168 = .ok (.goto 4, 3) := by decide +kernel
theorem dX0_sendNotice_171 : decode cX0_sendNotice 171 = .ok (.iconst 0, 1) := by decide +kernel
theorem dX0_sendNotice_172 : decode cX0_sendNotice 172 = .ok (.ior, 1) := by decide +kernel
theorem dX0_sendNotice_173 : decode cX0_sendNotice 173 = .ok (.istore 4, 2) := by decide +kernel
theorem dX0_sendNotice_175 : decode cX0_sendNotice 175 = .ok (.iinc 6 1, 3) := by decide +kernel
theorem dX0_sendNotice_178 : decode cX0_sendNotice 178 = .ok (.goto (-154), 3) := by decide +kernel
theorem dX0_sendNotice_181 : decode cX0_sendNotice 181 = .ok (.return_, 1) := by decide +kernel
theorem dX0_callSleepers_0 : decode cX0_callSleepers 0 = .ok (.aload_n 0, 1) := by decide +kernel
theorem dX0_callSleepers_1 : decode cX0_callSleepers 1 = .ok (.dup, 1) := by decide +kernel
theorem dX0_callSleepers_2 : decode cX0_callSleepers 2 = .ok (.getfield 47, 3) := by decide +kernel
theorem dX0_callSleepers_5 : decode cX0_callSleepers 5 = .ok (.iconst 1, 1) := by decide +kernel
theorem dX0_callSleepers_6 : decode cX0_callSleepers 6 = .ok (.iload_n 1, 1) := by decide +kernel
theorem dX0_callSleepers_7 : decode cX0_callSleepers 7 = .ok (.ishl, 1) := by decide +kernel
theorem dX0_callSleepers_8 : decode cX0_callSleepers 8 = .ok (.ior, 1) := by decide +kernel
theorem dX0_callSleepers_9 : decode cX0_callSleepers 9 = .ok (.putfield 47, 3) := by decide +kernel
theorem dX0_callSleepers_12 : decode cX0_callSleepers 12 = .ok (.iconst 0, 1) := by decide +kernel
theorem dX0_callSleepers_13 : decode cX0_callSleepers 13 = .ok (.istore_n 2, 1) := by decide +kernel
theorem dX0_callSleepers_14 : decode cX0_callSleepers 14 = .ok (.iconst 0, 1) := by decide +kernel
theorem dX0_callSleepers_15 : decode cX0_callSleepers 15 = .ok (.istore_n 3, 1) := by decide +kernel
theorem dX0_callSleepers_16 : decode cX0_callSleepers 16 = .ok (.iload_n 3, 1) := by decide +kernel
theorem dX0_callSleepers_17 : decode cX0_callSleepers 17 = .ok (.bipush 6, 2) := by decide +kernel
theorem dX0_callSleepers_19 : decode cX0_callSleepers 19 = .ok (.if_icmp .ge 141, 3) := by decide +kernel
theorem dX0_callSleepers_22 : decode cX0_callSleepers 22 = .ok (.aload_n 0, 1) := by decide +kernel
theorem dX0_callSleepers_23 : decode cX0_callSleepers 23 = .ok (.getfield 34, 3) := by decide +kernel
theorem dX0_callSleepers_26 : decode cX0_callSleepers 26 = .ok (.iload_n 1, 1) := by decide +kernel
theorem dX0_callSleepers_27 : decode cX0_callSleepers 27 = .ok (.invokevirtual 154, 3) := by decide +kernel
theorem dX0_callSleepers_30 : decode cX0_callSleepers 30 = .ok (.istore 4, 2) := by decide +kernel
theorem dX0_callSleepers_32 : decode cX0_callSleepers 32 = .ok (.iload 4, 2) := by decide +kernel
theorem dX0_callSleepers_34 : decode cX0_callSleepers 34 = .ok (.ifCond .ge 6, 3) := by decide +kernel
theorem dX0_callSleepers_37 : decode cX0_callSleepers 37 = .ok (.goto 123, 3) := by decide +kernel
theorem dX0_callSleepers_40 : decode cX0_callSleepers 40 = .ok (.aload_n 0, 1) := by decide +kernel
theorem dX0_callSleepers_41 : decode cX0_callSleepers 41 = .ok (.dup, 1) := by decide +kernel
theorem dX0_callSleepers_42 : decode cX0_callSleepers 42 = .ok (.getfield 51, 3) := by decide +kernel
theorem dX0_callSleepers_45 : decode cX0_callSleepers 45 = .ok (.iconst 1, 1) := by decide +kernel
theorem dX0_callSleepers_46 : decode cX0_callSleepers 46 = .ok (.iload_n 1, 1) := by decide +kernel
theorem dX0_callSleepers_47 : decode cX0_callSleepers 47 = .ok (.ishl, 1) := by decide +kernel
theorem dX0_callSleepers_48 : decode cX0_callSleepers 48 = .ok (.ior, 1) := by decide +kernel
theorem dX0_callSleepers_49 : decode cX0_callSleepers 49 = .ok (.putfield 51, 3) := by decide +kernel
theorem dX0_callSleepers_52 : decode cX0_callSleepers 52 = .ok (.aload_n 0, 1) := by decide +kernel
theorem dX0_callSleepers_53 : decode cX0_callSleepers 53 = .ok (.getfield 9, 3) := by decide +kernel
theorem dX0_callSleepers_56 : decode cX0_callSleepers 56 = .ok (.iconst 1, 1) := by decide +kernel
theorem dX0_callSleepers_57 : decode cX0_callSleepers 57 = .ok (.iaload, 1) := by decide +kernel
theorem dX0_callSleepers_58 : decode cX0_callSleepers 58 = .ok (.istore 5, 2) := by decide +kernel
theorem dX0_callSleepers_60 : decode cX0_callSleepers 60 = .ok (.aload_n 0, 1) := by decide +kernel
theorem dX0_callSleepers_61 : decode cX0_callSleepers 61 = .ok (.iload 4, 2) := by decide +kernel
theorem dX0_callSleepers_63 : decode cX0_callSleepers 63 = .ok (.iload_n 1, 1) := by decide +kernel
theorem dX0_callSleepers_64 : decode cX0_callSleepers 64 = .ok (.aload_n 0, 1) := by decide +kernel
theorem dX0_callSleepers_65 : decode cX0_callSleepers 65 = .ok (.getfield 9, 3) := by decide +kernel
theorem dX0_callSleepers_68 : decode cX0_callSleepers 68 = .ok (.sipush 551, 3) := by decide +kernel
theorem dX0_callSleepers_71 : decode cX0_callSleepers 71 = .ok (.iload 4, 2) := by decide +kernel
theorem dX0_callSleepers_73 : decode cX0_callSleepers 73 = .ok (.iadd, 1) := by decide +kernel
theorem dX0_callSleepers_74 : decode cX0_callSleepers 74 = .ok (.iaload, 1) := by decide +kernel
theorem dX0_callSleepers_75 : decode cX0_callSleepers 75 = .ok (.invokevirtual 157, 3) := by decide +kernel
theorem dX0_callSleepers_78 : decode cX0_callSleepers 78 = .ok (.ifCond .ne 21, 3) := by decide +kernel
theorem dX0_callSleepers_81 : decode cX0_callSleepers 81 = .ok (.aload_n 0, 1) := by decide +kernel
theorem dX0_callSleepers_82 : decode cX0_callSleepers 82 = .ok (.getfield 9, 3) := by decide +kernel
theorem dX0_callSleepers_85 : decode cX0_callSleepers 85 = .ok (.sipush 581, 3) := by decide +kernel
theorem dX0_callSleepers_88 : decode cX0_callSleepers 88 = .ok (.iload 4, 2) := by decide +kernel
theorem dX0_callSleepers_90 : decode cX0_callSleepers 90 = .ok (.iadd, 1) := by decide +kernel
theorem dX0_callSleepers_91 : decode cX0_callSleepers 91 = .ok (.dup2, 1) := by decide +kernel
theorem dX0_callSleepers_92 : decode cX0_callSleepers 92 = .ok (.iaload, 1) := by decide +kernel
theorem dX0_callSleepers_93 : decode cX0_callSleepers 93 = .ok (.iconst 1, 1) := by decide +kernel
theorem dX0_callSleepers_94 : decode cX0_callSleepers 94 = .ok (.iadd, 1) := by decide +kernel
theorem dX0_callSleepers_95 : decode cX0_callSleepers 95 = .ok (.iastore, 1) := by decide +kernel
theorem dX0_callSleepers_96 : decode cX0_callSleepers 96 = .ok (.goto 64, 3) := by decide +kernel
theorem dX0_callSleepers_99 : decode cX0_callSleepers 99 = .ok (.aload_n 0, 1) := by decide +kernel
theorem dX0_callSleepers_100 : decode cX0_callSleepers 100 = .ok (.getfield 34, 3) := by decide +kernel
theorem dX0_callSleepers_103 : decode cX0_callSleepers 103 = .ok (.iload 4, 2) := by decide +kernel
theorem dX0_callSleepers_105 : decode cX0_callSleepers 105 = .ok (.invokevirtual 160, 3) := by decide +kernel
theorem dX0_callSleepers_108 : decode cX0_callSleepers 108 = .ok (.aload_n 0, 1) := by decide +kernel
theorem dX0_callSleepers_109 : decode cX0_callSleepers 109 = .ok (.getfield 9, 3) := by decide +kernel
theorem dX0_callSleepers_112 : decode cX0_callSleepers 112 = .ok (.sipush 575, 3) := by decide +kernel
theorem dX0_callSleepers_115 : decode cX0_callSleepers 115 = .ok (.iload 4, 2) := by decide +kernel
theorem dX0_callSleepers_117 : decode cX0_callSleepers 117 = .ok (.iadd, 1) := by decide +kernel
theorem dX0_callSleepers_118 : decode cX0_callSleepers 118 = .ok (.dup2, 1) := by decide +kernel
theorem dX0_callSleepers_119 : decode cX0_callSleepers 119 = .ok (.iaload, 1) := by decide +kernel
theorem dX0_callSleepers_120 : decode cX0_callSleepers 120 = .ok (.iconst 1, 1) := by decide +kernel
theorem dX0_callSleepers_121 : decode cX0_callSleepers 121 = .ok (.iadd, 1) := by decide +kernel
theorem dX0_callSleepers_122 : decode cX0_callSleepers 122 = .ok (.iastore, 1) := by decide +kernel
theorem dX0_callSleepers_123 : decode cX0_callSleepers 123 = .ok (.aload_n 0, 1) := by decide +kernel
theorem dX0_callSleepers_124 : decode cX0_callSleepers 124 = .ok (.dup, 1) := by decide +kernel
theorem dX0_callSleepers_125 : decode cX0_callSleepers 125 = .ok (.getfield 54, 3) := by decide +kernel
theorem dX0_callSleepers_128 : decode cX0_callSleepers 128 = .ok (.iconst 1, 1) := by decide +kernel
theorem dX0_callSleepers_129 : decode cX0_callSleepers 129 = .ok (.iload 4, 2) := by decide +kernel
theorem dX0_callSleepers_131 : decode cX0_callSleepers 131 = .ok (.ishl, 1) := by decide +kernel
theorem dX0_callSleepers_132 : decode cX0_callSleepers 132 = .ok (.ior, 1) := by decide +kernel
theorem dX0_callSleepers_133 : decode cX0_callSleepers 133 = .ok (.putfield 54, 3) := by decide +kernel
theorem dX0_callSleepers_136 : decode cX0_callSleepers 136 = .ok (.iconst 1, 1) := by decide +kernel
theorem dX0_callSleepers_137 : decode cX0_callSleepers 137 = .ok (.istore_n 2, 1) := by decide +kernel
theorem dX0_callSleepers_138 : decode cX0_callSleepers 138 = .ok (.aload_n 0, 1) := by decide +kernel
theorem dX0_callSleepers_139 : decode cX0_callSleepers 139 = .ok (.getfield 27, 3) := by decide +kernel
theorem dX0_callSleepers_142 : decode cX0_callSleepers 142 = .ok (.iload_n 1, 1) := by decide +kernel
theorem dX0_callSleepers_143 : decode cX0_callSleepers 143 = .ok (.iload 5, 2) := by decide +kernel
theorem dX0_callSleepers_145 : decode cX0_callSleepers 145 = .ok (.invokevirtual 163, 3) := by decide +kernel
theorem dX0_callSleepers_148 : decode cX0_callSleepers 148 = .ok (.ifCond .ne 6, 3) := by decide +kernel
theorem dX0_callSleepers_151 : decode cX0_callSleepers 151 = .ok (.goto 9, 3) := by decide +kernel
theorem dX0_callSleepers_154 : decode cX0_callSleepers 154 = .ok (.iinc 3 1, 3) := by decide +kernel
theorem dX0_callSleepers_157 : decode cX0_callSleepers 157 = .ok (.goto (-141), 3) := by decide +kernel
theorem dX0_callSleepers_160 : decode cX0_callSleepers 160 = .ok (.iload_n 2, 1) := by decide +kernel
theorem dX0_callSleepers_161 : decode cX0_callSleepers 161 = .ok (.ireturn, 1) := by decide +kernel
theorem dX0_gather_0 : decode cX0_gather 0 = .ok (.iconst 0, 1) := by decide +kernel
theorem dX0_gather_1 : decode cX0_gather 1 = .ok (.istore 4, 2) := by decide +kernel
theorem dX0_gather_3 : decode cX0_gather 3 = .ok (.iconst 0, 1) := by decide +kernel
theorem dX0_gather_4 : decode cX0_gather 4 = .ok (.istore 5, 2) := by decide +kernel
theorem dX0_gather_6 : decode cX0_gather 6 = .ok (.iconst 0, 1) := by decide +kernel
theorem dX0_gather_7 : decode cX0_gather 7 = .ok (.istore 6, 2) := by decide +kernel
theorem dX0_gather_9 : decode cX0_gather 9 = .ok (.iload 6, 2) := by decide +kernel
theorem dX0_gather_11 : decode cX0_gather 11 = .ok (.bipush 24, 2) := by decide +kernel
theorem dX0_gather_13 : decode cX0_gather 13 = .ok (.if_icmp .ge 228, 3) := by decide +kernel
theorem dX0_gather_16 : decode cX0_gather 16 = .ok (.iload 4, 2) := by decide +kernel
theorem dX0_gather_18 : decode cX0_gather 18 = .ok (.iload_n 3, 1) := by decide +kernel
theorem dX0_gather_19 : decode cX0_gather 19 = .ok (.if_icmp .ge 222, 3) := by decide +kernel
theorem dX0_gather_22 : decode cX0_gather 22 = .ok (.iload 4, 2) := by decide +kernel
theorem dX0_gather_24 : decode cX0_gather 24 = .ok (.bipush 8, 2) := by decide +kernel
theorem dX0_gather_26 : decode cX0_gather 26 = .ok (.if_icmp .ge 215, 3) := by decide +kernel
theorem dX0_gather_29 : decode cX0_gather 29 = .ok (.aload_n 0, 1) := by decide +kernel
theorem dX0_gather_30 : decode cX0_gather 30 = .ok (.getfield 27, 3) := by decide +kernel
theorem dX0_gather_33 : decode cX0_gather 33 = .ok (.iload_n 2, 1) := by decide +kernel
theorem dX0_gather_34 : decode cX0_gather 34 = .ok (.invokevirtual 166, 3) := by decide +kernel
theorem dX0_gather_37 : decode cX0_gather 37 = .ok (.istore 7, 2) := by decide +kernel
theorem dX0_gather_39 : decode cX0_gather 39 = .ok (.iload 7, 2) := by decide +kernel
theorem dX0_gather_41 : decode cX0_gather 41 = .ok (.ifCond .ge 6, 3) := by decide +kernel
theorem dX0_gather_44 : decode cX0_gather 44 = .ok (.goto 197, 3) := by decide +kernel
theorem dX0_gather_47 : decode cX0_gather 47 = .ok (.aload_n 0, 1) := by decide +kernel
theorem dX0_gather_48 : decode cX0_gather 48 = .ok (.getfield 27, 3) := by decide +kernel
theorem dX0_gather_51 : decode cX0_gather 51 = .ok (.iload 7, 2) := by decide +kernel
theorem dX0_gather_53 : decode cX0_gather 53 = .ok (.invokevirtual 169, 3) := by decide +kernel
theorem dX0_gather_56 : decode cX0_gather 56 = .ok (.aload_n 0, 1) := by decide +kernel
theorem dX0_gather_57 : decode cX0_gather 57 = .ok (.getfield 9, 3) := by decide +kernel
theorem dX0_gather_60 : decode cX0_gather 60 = .ok (.sipush 419, 3) := by decide +kernel
theorem dX0_gather_63 : decode cX0_gather 63 = .ok (.iload 7, 2) := by decide +kernel
theorem dX0_gather_65 : decode cX0_gather 65 = .ok (.iadd, 1) := by decide +kernel
theorem dX0_gather_66 : decode cX0_gather 66 = .ok (.iaload, 1) := by decide +kernel
theorem dX0_gather_67 : decode cX0_gather 67 = .ok (.ifCond .ne 7, 3) := by decide +kernel
theorem dX0_gather_70 : decode cX0_gather 70 = .ok (.iconst 0, 1) := by decide +kernel
theorem dX0_gather_71 : decode cX0_gather 71 = .ok (.goto 32, 3) := by decide +kernel
theorem dX0_gather_74 : decode cX0_gather 74 = .ok (.aload_n 0, 1) := by decide +kernel
theorem dX0_gather_75 : decode cX0_gather 75 = .ok (.getfield 27, 3) := by decide +kernel
theorem dX0_gather_78 : decode cX0_gather 78 = .ok (.iload 7, 2) := by decide +kernel
theorem dX0_gather_80 : decode cX0_gather 80 = .ok (.invokevirtual 172, 3) := by decide +kernel
theorem dX0_gather_83 : decode cX0_gather 83 = .ok (.aload_n 0, 1) := by decide +kernel
theorem dX0_gather_84 : decode cX0_gather 84 = .ok (.getfield 27, 3) := by decide +kernel
theorem dX0_gather_87 : decode cX0_gather 87 = .ok (.aload_n 0, 1) := by decide +kernel
theorem dX0_gather_88 : decode cX0_gather 88 = .ok (.getfield 9, 3) := by decide +kernel
theorem dX0_gather_91 : decode cX0_gather 91 = .ok (.sipush 323, 3) := by decide +kernel
theorem dX0_gather_94 : decode cX0_gather 94 = .ok (.iload 7, 2) := by decide +kernel
theorem dX0_gather_96 : decode cX0_gather 96 = .ok (.iadd, 1) := by decide +kernel
theorem dX0_gather_97 : decode cX0_gather 97 = .ok (.iaload, 1) := by decide +kernel
theorem dX0_gather_98 : decode cX0_gather 98 = .ok (.iconst 0, 1) := by decide +kernel
theorem dX0_gather_99 : decode cX0_gather 99 = .ok (.invokevirtual 175, 3) := by decide +kernel
theorem dX0_gather_102 : decode cX0_gather 102 = .ok (.iand, 1) := by decide +kernel
theorem dX0_gather_103 : decode cX0_gather 103 = .ok (.istore 8, 2) := by decide +kernel
theorem dX0_gather_105 : decode cX0_gather 105 = .ok (.iload 8, 2) := by decide +kernel
theorem dX0_gather_107 : decode cX0_gather 107 = .ok (.ifCond .ne 6, 3) := by decide +kernel
theorem dX0_gather_110 : decode cX0_gather 110 = .ok (.goto 125, 3) := by decide +kernel
theorem dX0_gather_113 : decode cX0_gather 113 = .ok (.aload_n 0, 1) := by decide +kernel
theorem dX0_gather_114 : decode cX0_gather 114 = .ok (.getfield 9, 3) := by decide +kernel
theorem dX0_gather_117 : decode cX0_gather 117 = .ok (.sipush 677, 3) := by decide +kernel
theorem dX0_gather_120 : decode cX0_gather 120 = .ok (.iload_n 1, 1) := by decide +kernel
theorem dX0_gather_121 : decode cX0_gather 121 = .ok (.bipush 8, 2) := by decide +kernel
theorem dX0_gather_123 : decode cX0_gather 123 = .ok (.imul, 1) := by decide +kernel
theorem dX0_gather_124 : decode cX0_gather 124 = .ok (.iadd, 1) := by decide +kernel
theorem dX0_gather_125 : decode cX0_gather 125 = .ok (.iload 4, 2) := by decide +kernel
theorem dX0_gather_127 : decode cX0_gather 127 = .ok (.iadd, 1) := by decide +kernel
theorem dX0_gather_128 : decode cX0_gather 128 = .ok (.aload_n 0, 1) := by decide +kernel
theorem dX0_gather_129 : decode cX0_gather 129 = .ok (.getfield 9, 3) := by decide +kernel
theorem dX0_gather_132 : decode cX0_gather 132 = .ok (.sipush 347, 3) := by decide +kernel
theorem dX0_gather_135 : decode cX0_gather 135 = .ok (.iload 7, 2) := by decide +kernel
theorem dX0_gather_137 : decode cX0_gather 137 = .ok (.iadd, 1) := by decide +kernel
theorem dX0_gather_138 : decode cX0_gather 138 = .ok (.iaload, 1) := by decide +kernel
theorem dX0_gather_139 : decode cX0_gather 139 = .ok (.iastore, 1) := by decide +kernel
theorem dX0_gather_140 : decode cX0_gather 140 = .ok (.aload_n 0, 1) := by decide +kernel
theorem dX0_gather_141 : decode cX0_gather 141 = .ok (.getfield 9, 3) := by decide +kernel
theorem dX0_gather_144 : decode cX0_gather 144 = .ok (.sipush 725, 3) := by decide +kernel
theorem dX0_gather_147 : decode cX0_gather 147 = .ok (.iload_n 1, 1) := by decide +kernel
theorem dX0_gather_148 : decode cX0_gather 148 = .ok (.bipush 8, 2) := by decide +kernel
theorem dX0_gather_150 : decode cX0_gather 150 = .ok (.imul, 1) := by decide +kernel
theorem dX0_gather_151 : decode cX0_gather 151 = .ok (.iadd, 1) := by decide +kernel
theorem dX0_gather_152 : decode cX0_gather 152 = .ok (.iload 4, 2) := by decide +kernel
theorem dX0_gather_154 : decode cX0_gather 154 = .ok (.iadd, 1) := by decide +kernel
theorem dX0_gather_155 : decode cX0_gather 155 = .ok (.iload 8, 2) := by decide +kernel
theorem dX0_gather_157 : decode cX0_gather 157 = .ok (.iastore, 1) := by decide +kernel
theorem dX0_gather_158 : decode cX0_gather 158 = .ok (.iinc 4 1, 3) := by decide +kernel
theorem dX0_gather_161 : decode cX0_gather 161 = .ok (.aload_n 0, 1) := by decide +kernel
theorem dX0_gather_162 : decode cX0_gather 162 = .ok (.getfield 9, 3) := by decide +kernel
theorem dX0_gather_165 : decode cX0_gather 165 = .ok (.sipush 491, 3) := by decide +kernel
theorem dX0_gather_168 : decode cX0_gather 168 = .ok (.iload 7, 2) := by decide +kernel
theorem dX0_gather_170 : decode cX0_gather 170 = .ok (.iadd, 1) := by decide +kernel
theorem dX0_gather_171 : decode cX0_gather 171 = .ok (.dup2, 1) := by decide +kernel
theorem dX0_gather_172 : decode cX0_gather 172 = .ok (.iaload, 1) := by decide +kernel
theorem dX0_gather_173 : decode cX0_gather 173 = .ok (.iconst 1, 1) := by decide +kernel
theorem dX0_gather_174 : decode cX0_gather 174 = .ok (.iadd, 1) := by decide +kernel
theorem dX0_gather_175 : decode cX0_gather 175 = .ok (.iastore, 1) := by decide +kernel
theorem dX0_gather_176 : decode cX0_gather 176 = .ok (.aload_n 0, 1) := by decide +kernel
theorem dX0_gather_177 : decode cX0_gather 177 = .ok (.getfield 9, 3) := by decide +kernel
theorem dX0_gather_180 : decode cX0_gather 180 = .ok (.sipush 395, 3) := by decide +kernel
theorem dX0_gather_183 : decode cX0_gather 183 = .ok (.iload 7, 2) := by decide +kernel
theorem dX0_gather_185 : decode cX0_gather 185 = .ok (.iadd, 1) := by decide +kernel
theorem dX0_gather_186 : decode cX0_gather 186 = .ok (.iaload, 1) := by decide +kernel
theorem dX0_gather_187 : decode cX0_gather 187 = .ok (.iconst 2, 1) := by decide +kernel
theorem dX0_gather_188 : decode cX0_gather 188 = .ok (.iand, 1) := by decide +kernel
theorem dX0_gather_189 : decode cX0_gather 189 = .ok (.ifCond .eq 18, 3) := by decide +kernel
theorem dX0_gather_192 : decode cX0_gather 192 = .ok (.aload_n 0, 1) := by decide +kernel
theorem dX0_gather_193 : decode cX0_gather 193 = .ok (.getfield 9, 3) := by decide +kernel
theorem dX0_gather_196 : decode cX0_gather 196 = .ok (.sipush 419, 3) := by decide +kernel
theorem dX0_gather_199 : decode cX0_gather 199 = .ok (.iload 7, 2) := by decide +kernel
theorem dX0_gather_201 : decode cX0_gather 201 = .ok (.iadd, 1) := by decide +kernel
theorem dX0_gather_202 : decode cX0_gather 202 = .ok (.iconst 0, 1) := by decide +kernel
theorem dX0_gather_203 : decode cX0_gather 203 = .ok (.iastore, 1) := by decide +kernel
theorem dX0_gather_204 : decode cX0_gather 204 = .ok (.goto 31, 3) := by decide +kernel
theorem dX0_gather_207 : decode cX0_gather 207 = .ok (.aload_n 0, 1) := by decide +kernel
theorem dX0_gather_208 : decode cX0_gather 208 = .ok (.getfield 9, 3) := by decide +kernel
theorem dX0_gather_211 : decode cX0_gather 211 = .ok (.sipush 395, 3) := by decide +kernel
theorem dX0_gather_214 : decode cX0_gather 214 = .ok (.iload 7, 2) := by decide +kernel
theorem dX0_gather_216 : decode cX0_gather 216 = .ok (.iadd, 1) := by decide +kernel
theorem dX0_gather_217 : decode cX0_gather 217 = .ok (.iaload, 1) := by decide +kernel
theorem dX0_gather_218 : decode cX0_gather 218 = .ok (.iconst 1, 1) := by decide +kernel
theorem dX0_gather_219 : decode cX0_gather 219 = .ok (.iand, 1) := by decide +kernel
theorem dX0_gather_220 : decode cX0_gather 220 = .ok (.ifCond .ne 15, 3) := by decide +kernel
theorem dX0_gather_223 : decode cX0_gather 223 = .ok (.aload_n 0, 1) := by decide +kernel
theorem dX0_gather_224 : decode cX0_gather 224 = .ok (.getfield 38, 3) := by decide +kernel
theorem dX0_gather_227 : decode cX0_gather 227 = .ok (.iload 5, 2) := by decide +kernel
theorem dX0_gather_229 : decode cX0_gather 229 = .ok (.iinc 5 1, 3) := by decide +kernel
theorem dX0_gather_232 : decode cX0_gather 232 = .ok (.iload 7, 2) := by decide +kernel
theorem dX0_gather_234 : decode cX0_gather 234 = .ok (.iastore, 1) := by decide +kernel
theorem dX0_gather_235 : decode cX0_gather 235 = .ok (.iinc 6 1, 3) := by decide +kernel
theorem dX0_gather_238 : decode cX0_gather 238 = .ok (.goto (-229), 3) := by decide +kernel
theorem dX0_gather_241 : decode cX0_gather 241 = .ok (.aload_n 0, 1) := by decide +kernel
theorem dX0_gather_242 : decode cX0_gather 242 = .ok (.getfield 27, 3) := by decide +kernel
theorem dX0_gather_245 : decode cX0_gather 245 = .ok (.iload_n 2, 1) := by decide +kernel
theorem dX0_gather_246 : decode cX0_gather 246 = .ok (.invokevirtual 178, 3) := by decide +kernel
theorem dX0_gather_249 : decode cX0_gather 249 = .ok (.iconst 0, 1) := by decide +kernel
theorem dX0_gather_250 : decode cX0_gather 250 = .ok (.istore 6, 2) := by decide +kernel
theorem dX0_gather_252 : decode cX0_gather 252 = .ok (.iload 6, 2) := by decide +kernel
theorem dX0_gather_254 : decode cX0_gather 254 = .ok (.iload 5, 2) := by decide +kernel
theorem dX0_gather_256 : decode cX0_gather 256 = .ok (.if_icmp .ge 23, 3) := by decide +kernel
theorem dX0_gather_259 : decode cX0_gather 259 = .ok (.aload_n 0, 1) := by decide +kernel
theorem dX0_gather_260 : decode cX0_gather 260 = .ok (.getfield 27, 3) := by decide +kernel
theorem dX0_gather_263 : decode cX0_gather 263 = .ok (.aload_n 0, 1) := by decide +kernel
theorem dX0_gather_264 : decode cX0_gather 264 = .ok (.getfield 38, 3) := by decide +kernel
theorem dX0_gather_267 : decode cX0_gather 267 = .ok (.iload 6, 2) := by decide +kernel
theorem dX0_gather_269 : decode cX0_gather 269 = .ok (.iaload, 1) := by decide +kernel
theorem dX0_gather_270 : decode cX0_gather 270 = .ok (.invokevirtual 144, 3) := by decide +kernel
theorem dX0_gather_273 : decode cX0_gather 273 = .ok (.iinc 6 1, 3) := by decide +kernel
theorem dX0_gather_276 : decode cX0_gather 276 = .ok (.goto (-24), 3) := by decide +kernel
theorem dX0_gather_279 : decode cX0_gather 279 = .ok (.aload_n 0, 1) := by decide +kernel
theorem dX0_gather_280 : decode cX0_gather 280 = .ok (.getfield 9, 3) := by decide +kernel
theorem dX0_gather_283 : decode cX0_gather 283 = .ok (.sipush 563, 3) := by decide +kernel
theorem dX0_gather_286 : decode cX0_gather 286 = .ok (.iload_n 1, 1) := by decide +kernel
theorem dX0_gather_287 : decode cX0_gather 287 = .ok (.iadd, 1) := by decide +kernel
theorem dX0_gather_288 : decode cX0_gather 288 = .ok (.iload 4, 2) := by decide +kernel
theorem dX0_gather_290 : decode cX0_gather 290 = .ok (.iastore, 1) := by decide +kernel
theorem dX0_gather_291 : decode cX0_gather 291 = .ok (.aload_n 0, 1) := by decide +kernel
theorem dX0_gather_292 : decode cX0_gather 292 = .ok (.getfield 9, 3) := by decide +kernel
theorem dX0_gather_295 : decode cX0_gather 295 = .ok (.sipush 569, 3) := by decide +kernel
theorem dX0_gather_298 : decode cX0_gather 298 = .ok (.iload_n 1, 1) := by decide +kernel
theorem dX0_gather_299 : decode cX0_gather 299 = .ok (.iadd, 1) := by decide +kernel
theorem dX0_gather_300 : decode cX0_gather 300 = .ok (.dup2, 1) := by decide +kernel
theorem dX0_gather_301 : decode cX0_gather 301 = .ok (.iaload, 1) := by decide +kernel
theorem dX0_gather_302 : decode cX0_gather 302 = .ok (.iload 4, 2) := by decide +kernel
theorem dX0_gather_304 : decode cX0_gather 304 = .ok (.iadd, 1) := by decide +kernel
theorem dX0_gather_305 : decode cX0_gather 305 = .ok (.iastore, 1) := by decide +kernel
theorem dX0_gather_306 : decode cX0_gather 306 = .ok (.iload 4, 2) := by decide +kernel
theorem dX0_gather_308 : decode cX0_gather 308 = .ok (.ireturn, 1) := by decide +kernel
theorem dX0_canGather_0 : decode cX0_canGather 0 = .ok (.iload_n 1, 1) := by decide +kernel
theorem dX0_canGather_1 : decode cX0_canGather 1 = .ok (.invokestatic 181, 3) := by decide +kernel
theorem dX0_canGather_4 : decode cX0_canGather 4 = .ok (.ifCond .eq 34, 3) := by decide +kernel
theorem dX0_canGather_7 : decode cX0_canGather 7 = .ok (.aload_n 0, 1) := by decide +kernel
theorem dX0_canGather_8 : decode cX0_canGather 8 = .ok (.getfield 9, 3) := by decide +kernel
theorem dX0_canGather_11 : decode cX0_canGather 11 = .ok (.sipush 539, 3) := by decide +kernel
theorem dX0_canGather_14 : decode cX0_canGather 14 = .ok (.iload_n 1, 1) := by decide +kernel
theorem dX0_canGather_15 : decode cX0_canGather 15 = .ok (.iadd, 1) := by decide +kernel
theorem dX0_canGather_16 : decode cX0_canGather 16 = .ok (.iaload, 1) := by decide +kernel
theorem dX0_canGather_17 : decode cX0_canGather 17 = .ok (.ifCond .ge 21, 3) := by decide +kernel
theorem dX0_canGather_20 : decode cX0_canGather 20 = .ok (.iload_n 2, 1) := by decide +kernel
theorem dX0_canGather_21 : decode cX0_canGather 21 = .ok (.ifCond .lt 17, 3) := by decide +kernel
theorem dX0_canGather_24 : decode cX0_canGather 24 = .ok (.iload_n 3, 1) := by decide +kernel
theorem dX0_canGather_25 : decode cX0_canGather 25 = .ok (.iconst 1, 1) := by decide +kernel
theorem dX0_canGather_26 : decode cX0_canGather 26 = .ok (.bipush 8, 2) := by decide +kernel
theorem dX0_canGather_28 : decode cX0_canGather 28 = .ok (.invokestatic 72, 3) := by decide +kernel
theorem dX0_canGather_31 : decode cX0_canGather 31 = .ok (.ifCond .eq 7, 3) := by decide +kernel
theorem dX0_canGather_34 : decode cX0_canGather 34 = .ok (.iconst 1, 1) := by decide +kernel
theorem dX0_canGather_35 : decode cX0_canGather 35 = .ok (.goto 4, 3) := by decide +kernel
theorem dX0_canGather_38 : decode cX0_canGather 38 = .ok (.iconst 0, 1) := by decide +kernel
theorem dX0_canGather_39 : decode cX0_canGather 39 = .ok (.ireturn, 1) := by decide +kernel
theorem dX0_collectAt_0 : decode cX0_collectAt 0 = .ok (.aload_n 0, 1) := by decide +kernel
theorem dX0_collectAt_1 : decode cX0_collectAt 1 = .ok (.getfield 20, 3) := by decide +kernel
theorem dX0_collectAt_4 : decode cX0_collectAt 4 = .ok (.iload_n 2, 1) := by decide +kernel
theorem dX0_collectAt_5 : decode cX0_collectAt 5 = .ok (.iconst 4, 1) := by decide +kernel
theorem dX0_collectAt_6 : decode cX0_collectAt 6 = .ok (.invokevirtual 82, 3) := by decide +kernel
theorem dX0_collectAt_9 : decode cX0_collectAt 9 = .ok (.istore 4, 2) := by decide +kernel
theorem dX0_collectAt_11 : decode cX0_collectAt 11 = .ok (.aload_n 0, 1) := by decide +kernel
theorem dX0_collectAt_12 : decode cX0_collectAt 12 = .ok (.iload_n 1, 1) := by decide +kernel
theorem dX0_collectAt_13 : decode cX0_collectAt 13 = .ok (.iload 4, 2) := by decide +kernel
theorem dX0_collectAt_15 : decode cX0_collectAt 15 = .ok (.iload_n 3, 1) := by decide +kernel
theorem dX0_collectAt_16 : decode cX0_collectAt 16 = .ok (.invokevirtual 184, 3) := by decide +kernel
theorem dX0_collectAt_19 : decode cX0_collectAt 19 = .ok (.ifCond .eq 14, 3) := by decide +kernel
theorem dX0_collectAt_22 : decode cX0_collectAt 22 = .ok (.aload_n 0, 1) := by decide +kernel
theorem dX0_collectAt_23 : decode cX0_collectAt 23 = .ok (.iload_n 1, 1) := by decide +kernel
theorem dX0_collectAt_24 : decode cX0_collectAt 24 = .ok (.iload 4, 2) := by decide +kernel
theorem dX0_collectAt_26 : decode cX0_collectAt 26 = .ok (.iload_n 3, 1) := by decide +kernel
theorem dX0_collectAt_27 : decode cX0_collectAt 27 = .ok (.invokevirtual 157, 3) := by decide +kernel
theorem dX0_collectAt_30 : decode cX0_collectAt 30 = .ok (.goto 4, 3) := by decide +kernel
theorem dX0_collectAt_33 : decode cX0_collectAt 33 = .ok (.iconst (-1), 1) := by decide +kernel
theorem dX0_collectAt_34 : decode cX0_collectAt 34 = .ok (.ireturn, 1) := by decide +kernel
theorem dX0_awaitAt_0 : decode cX0_awaitAt 0 = .ok (.aload_n 0, 1) := by decide +kernel
theorem dX0_awaitAt_1 : decode cX0_awaitAt 1 = .ok (.getfield 20, 3) := by decide +kernel
theorem dX0_awaitAt_4 : decode cX0_awaitAt 4 = .ok (.iload_n 2, 1) := by decide +kernel
theorem dX0_awaitAt_5 : decode cX0_awaitAt 5 = .ok (.iconst 4, 1) := by decide +kernel
theorem dX0_awaitAt_6 : decode cX0_awaitAt 6 = .ok (.invokevirtual 82, 3) := by decide +kernel
theorem dX0_awaitAt_9 : decode cX0_awaitAt 9 = .ok (.istore 5, 2) := by decide +kernel
theorem dX0_awaitAt_11 : decode cX0_awaitAt 11 = .ok (.aload_n 0, 1) := by decide +kernel
theorem dX0_awaitAt_12 : decode cX0_awaitAt 12 = .ok (.iload_n 1, 1) := by decide +kernel
theorem dX0_awaitAt_13 : decode cX0_awaitAt 13 = .ok (.iload 5, 2) := by decide +kernel
theorem dX0_awaitAt_15 : decode cX0_awaitAt 15 = .ok (.iload_n 3, 1) := by decide +kernel
theorem dX0_awaitAt_16 : decode cX0_awaitAt 16 = .ok (.invokevirtual 184, 3) := by decide +kernel
theorem dX0_awaitAt_19 : decode cX0_awaitAt 19 = .ok (.ifCond .eq 15, 3) := by decide +kernel
theorem dX0_awaitAt_22 : decode cX0_awaitAt 22 = .ok (.iload 4, 2) := by decide +kernel
theorem dX0_awaitAt_24 : decode cX0_awaitAt 24 = .ok (.iconst 0, 1) := by decide +kernel
theorem dX0_awaitAt_25 : decode cX0_awaitAt 25 = .ok (.sipush 1000, 3) := by decide +kernel
theorem dX0_awaitAt_28 : decode cX0_awaitAt 28 = .ok (.invokestatic 72, 3) := by decide +kernel
theorem dX0_awaitAt_31 : decode cX0_awaitAt 31 = .ok (.ifCond .ne 5, 3) := by decide +kernel
theorem dX0_awaitAt_34 : decode cX0_awaitAt 34 = .ok (.iconst (-1), 1) := by decide +kernel
theorem dX0_awaitAt_35 : decode cX0_awaitAt 35 = .ok (.ireturn, 1) := by decide +kernel
theorem dX0_awaitAt_36 : decode cX0_awaitAt 36 = .ok (.aload_n 0, 1) := by decide +kernel
theorem dX0_awaitAt_37 : decode cX0_awaitAt 37 = .ok (.iload_n 1, 1) := by decide +kernel
theorem dX0_awaitAt_38 : decode cX0_awaitAt 38 = .ok (.iload 5, 2) := by decide +kernel
theorem dX0_awaitAt_40 : decode cX0_awaitAt 40 = .ok (.iload_n 3, 1) := by decide +kernel
theorem dX0_awaitAt_41 : decode cX0_awaitAt 41 = .ok (.invokevirtual 157, 3) := by decide +kernel
theorem dX0_awaitAt_44 : decode cX0_awaitAt 44 = .ok (.istore 6, 2) := by decide +kernel
theorem dX0_awaitAt_46 : decode cX0_awaitAt 46 = .ok (.iload 6, 2) := by decide +kernel
theorem dX0_awaitAt_48 : decode cX0_awaitAt 48 = .ok (.ifCond .ne 19, 3) := by decide +kernel
theorem dX0_awaitAt_51 : decode cX0_awaitAt 51 = .ok (.aload_n 0, 1) := by decide +kernel
theorem dX0_awaitAt_52 : decode cX0_awaitAt 52 = .ok (.getfield 34, 3) := by decide +kernel
theorem dX0_awaitAt_55 : decode cX0_awaitAt 55 = .ok (.iload_n 1, 1) := by decide +kernel
theorem dX0_awaitAt_56 : decode cX0_awaitAt 56 = .ok (.iload 5, 2) := by decide +kernel
theorem dX0_awaitAt_58 : decode cX0_awaitAt 58 = .ok (.iload_n 3, 1) := by decide +kernel
theorem dX0_awaitAt_59 : decode cX0_awaitAt 59 = .ok (.iload 4, 2) := by decide +kernel
theorem dX0_awaitAt_61 : decode cX0_awaitAt 61 = .ok (.invokevirtual 187, 3) := by decide +kernel
theorem dX0_awaitAt_64 : decode cX0_awaitAt 64 = .ok (.bipush (-2), 2) := by decide +kernel
theorem dX0_awaitAt_66 : decode cX0_awaitAt 66 = .ok (.ireturn, 1) := by decide +kernel
theorem dX0_awaitAt_67 : decode cX0_awaitAt 67 = .ok (.iload 6, 2) := by decide +kernel
theorem dX0_awaitAt_69 : decode cX0_awaitAt 69 = .ok (.ireturn, 1) := by decide +kernel
theorem dX0_goOneRound_0 : decode cX0_goOneRound 0 = .ok (.iconst 0, 1) := by decide +kernel
theorem dX0_goOneRound_1 : decode cX0_goOneRound 1 = .ok (.istore_n 1, 1) := by decide +kernel
theorem dX0_goOneRound_2 : decode cX0_goOneRound 2 = .ok (.iconst 0, 1) := by decide +kernel
theorem dX0_goOneRound_3 : decode cX0_goOneRound 3 = .ok (.istore_n 2, 1) := by decide +kernel
theorem dX0_goOneRound_4 : decode cX0_goOneRound 4 = .ok (.iload_n 2, 1) := by decide +kernel
theorem dX0_goOneRound_5 : decode cX0_goOneRound 5 = .ok (.bipush 6, 2) := by decide +kernel
theorem dX0_goOneRound_7 : decode cX0_goOneRound 7 = .ok (.if_icmp .ge 29, 3) := by decide +kernel
theorem dX0_goOneRound_10 : decode cX0_goOneRound 10 = .ok (.aload_n 0, 1) := by decide +kernel
theorem dX0_goOneRound_11 : decode cX0_goOneRound 11 = .ok (.getfield 34, 3) := by decide +kernel
theorem dX0_goOneRound_14 : decode cX0_goOneRound 14 = .ok (.iload_n 2, 1) := by decide +kernel
theorem dX0_goOneRound_15 : decode cX0_goOneRound 15 = .ok (.invokevirtual 191, 3) := by decide +kernel
theorem dX0_goOneRound_18 : decode cX0_goOneRound 18 = .ok (.ifCond .eq 12, 3) := by decide +kernel
theorem dX0_goOneRound_21 : decode cX0_goOneRound 21 = .ok (.aload_n 0, 1) := by decide +kernel
theorem dX0_goOneRound_22 : decode cX0_goOneRound 22 = .ok (.iload_n 2, 1) := by decide +kernel
theorem dX0_goOneRound_23 : decode cX0_goOneRound 23 = .ok (.invokevirtual 194, 3) := by decide +kernel
theorem dX0_goOneRound_26 : decode cX0_goOneRound 26 = .ok (.pop, 1) := by decide +kernel
theorem dX0_goOneRound_27 : decode cX0_goOneRound 27 = .ok (.iinc 1 1, 3) := by decide +kernel
theorem dX0_goOneRound_30 : decode cX0_goOneRound 30 = .ok (.iinc 2 1, 3) := by decide +kernel
theorem dX0_goOneRound_33 : decode cX0_goOneRound 33 = .ok (.goto (-29), 3) := by decide +kernel
theorem dX0_goOneRound_36 : decode cX0_goOneRound 36 = .ok (.iload_n 1, 1) := by decide +kernel
theorem dX0_goOneRound_37 : decode cX0_goOneRound 37 = .ok (.ireturn, 1) := by decide +kernel
theorem dX0_doStep_0 : decode cX0_doStep 0 = .ok (.iload_n 1, 1) := by decide +kernel
theorem dX0_doStep_1 : decode cX0_doStep 1 = .ok (.iconst 4, 1) := by decide +kernel
theorem dX0_doStep_2 : decode cX0_doStep 2 = .ok (.imul, 1) := by decide +kernel
theorem dX0_doStep_3 : decode cX0_doStep 3 = .ok (.istore_n 2, 1) := by decide +kernel
theorem dX0_doStep_4 : decode cX0_doStep 4 = .ok (.aload_n 0, 1) := by decide +kernel
theorem dX0_doStep_5 : decode cX0_doStep 5 = .ok (.getfield 9, 3) := by decide +kernel
theorem dX0_doStep_8 : decode cX0_doStep 8 = .ok (.sipush 605, 3) := by decide +kernel
theorem dX0_doStep_11 : decode cX0_doStep 11 = .ok (.iload_n 2, 1) := by decide +kernel
theorem dX0_doStep_12 : decode cX0_doStep 12 = .ok (.iadd, 1) := by decide +kernel
theorem dX0_doStep_13 : decode cX0_doStep 13 = .ok (.iaload, 1) := by decide +kernel
theorem dX0_doStep_14 : decode cX0_doStep 14 = .ok (.istore_n 3, 1) := by decide +kernel
theorem dX0_doStep_15 : decode cX0_doStep 15 = .ok (.aload_n 0, 1) := by decide +kernel
theorem dX0_doStep_16 : decode cX0_doStep 16 = .ok (.getfield 9, 3) := by decide +kernel
theorem dX0_doStep_19 : decode cX0_doStep 19 = .ok (.sipush 629, 3) := by decide +kernel
theorem dX0_doStep_22 : decode cX0_doStep 22 = .ok (.iload_n 2, 1) := by decide +kernel
theorem dX0_doStep_23 : decode cX0_doStep 23 = .ok (.iadd, 1) := by decide +kernel
theorem dX0_doStep_24 : decode cX0_doStep 24 = .ok (.iaload, 1) := by decide +kernel
theorem dX0_doStep_25 : decode cX0_doStep 25 = .ok (.istore 4, 2) := by decide +kernel
theorem dX0_doStep_27 : decode cX0_doStep 27 = .ok (.aload_n 0, 1) := by decide +kernel
theorem dX0_doStep_28 : decode cX0_doStep 28 = .ok (.getfield 9, 3) := by decide +kernel
theorem dX0_doStep_31 : decode cX0_doStep 31 = .ok (.sipush 653, 3) := by decide +kernel
theorem dX0_doStep_34 : decode cX0_doStep 34 = .ok (.iload_n 2, 1) := by decide +kernel
theorem dX0_doStep_35 : decode cX0_doStep 35 = .ok (.iadd, 1) := by decide +kernel
theorem dX0_doStep_36 : decode cX0_doStep 36 = .ok (.iaload, 1) := by decide +kernel
theorem dX0_doStep_37 : decode cX0_doStep 37 = .ok (.istore 5, 2) := by decide +kernel
theorem dX0_doStep_39 : decode cX0_doStep 39 = .ok (.aload_n 0, 1) := by decide +kernel
theorem dX0_doStep_40 : decode cX0_doStep 40 = .ok (.getfield 34, 3) := by decide +kernel
theorem dX0_doStep_43 : decode cX0_doStep 43 = .ok (.iload_n 1, 1) := by decide +kernel
theorem dX0_doStep_44 : decode cX0_doStep 44 = .ok (.invokevirtual 197, 3) := by decide +kernel
theorem dX0_doStep_47 : decode cX0_doStep 47 = .ok (.iload_n 3, 1) := by decide +kernel
theorem dX0_doStep_48 : decode cX0_doStep 48 = .ok (.tableswitch 137 0 7 #[48, 57, 66, 76, 87, 102, 123, 130], 48) := by decide +kernel
theorem dX0_doStep_96 : decode cX0_doStep 96 = .ok (.aload_n 0, 1) := by decide +kernel
theorem dX0_doStep_97 : decode cX0_doStep 97 = .ok (.iload 4, 2) := by decide +kernel
theorem dX0_doStep_99 : decode cX0_doStep 99 = .ok (.iload 5, 2) := by decide +kernel
theorem dX0_doStep_101 : decode cX0_doStep 101 = .ok (.invokevirtual 200, 3) := by decide +kernel
theorem dX0_doStep_104 : decode cX0_doStep 104 = .ok (.ireturn, 1) := by decide +kernel
theorem dX0_doStep_105 : decode cX0_doStep 105 = .ok (.aload_n 0, 1) := by decide +kernel
theorem dX0_doStep_106 : decode cX0_doStep 106 = .ok (.iload 4, 2) := by decide +kernel
theorem dX0_doStep_108 : decode cX0_doStep 108 = .ok (.iload 5, 2) := by decide +kernel
theorem dX0_doStep_110 : decode cX0_doStep 110 = .ok (.invokevirtual 203, 3) := by decide +kernel
theorem dX0_doStep_113 : decode cX0_doStep 113 = .ok (.ireturn, 1) := by decide +kernel
theorem dX0_doStep_114 : decode cX0_doStep 114 = .ok (.aload_n 0, 1) := by decide +kernel
theorem dX0_doStep_115 : decode cX0_doStep 115 = .ok (.iload_n 1, 1) := by decide +kernel
theorem dX0_doStep_116 : decode cX0_doStep 116 = .ok (.iload 4, 2) := by decide +kernel
theorem dX0_doStep_118 : decode cX0_doStep 118 = .ok (.iload 5, 2) := by decide +kernel
theorem dX0_doStep_120 : decode cX0_doStep 120 = .ok (.invokevirtual 206, 3) := by decide +kernel
theorem dX0_doStep_123 : decode cX0_doStep 123 = .ok (.ireturn, 1) := by decide +kernel
theorem dX0_doStep_124 : decode cX0_doStep 124 = .ok (.aload_n 0, 1) := by decide +kernel
theorem dX0_doStep_125 : decode cX0_doStep 125 = .ok (.iload_n 1, 1) := by decide +kernel
theorem dX0_doStep_126 : decode cX0_doStep 126 = .ok (.iload 4, 2) := by decide +kernel
theorem dX0_doStep_128 : decode cX0_doStep 128 = .ok (.iload 5, 2) := by decide +kernel
theorem dX0_doStep_130 : decode cX0_doStep 130 = .ok (.iconst 0, 1) := by decide +kernel
theorem dX0_doStep_131 : decode cX0_doStep 131 = .ok (.invokevirtual 209, 3) := by decide +kernel
theorem dX0_doStep_134 : decode cX0_doStep 134 = .ok (.ireturn, 1) := by decide +kernel
theorem dX0_doStep_135 : decode cX0_doStep 135 = .ok (.aload_n 0, 1) := by decide +kernel
theorem dX0_doStep_136 : decode cX0_doStep 136 = .ok (.iload 4, 2) := by decide +kernel
theorem dX0_doStep_138 : decode cX0_doStep 138 = .ok (.invokevirtual 213, 3) := by decide +kernel
theorem dX0_doStep_141 : decode cX0_doStep 141 = .ok (.ifCond .eq 7, 3) := by decide +kernel
theorem dX0_doStep_144 : decode cX0_doStep 144 = .ok (.iconst 1, 1) := by decide +kernel
theorem dX0_doStep_145 : decode cX0_doStep 145 = .ok (.goto 4, 3) := by decide +kernel
theorem dX0_doStep_148 : decode cX0_doStep 148 = .ok (.iconst 0, 1) := by decide +kernel
theorem dX0_doStep_149 : decode cX0_doStep 149 = .ok (.ireturn, 1) := by decide +kernel
theorem dX0_doStep_150 : decode cX0_doStep 150 = .ok (.aload_n 0, 1) := by decide +kernel
theorem dX0_doStep_151 : decode cX0_doStep 151 = .ok (.aload_n 0, 1) := by decide +kernel
theorem dX0_doStep_152 : decode cX0_doStep 152 = .ok (.iload 4, 2) := by decide +kernel
theorem dX0_doStep_154 : decode cX0_doStep 154 = .ok (.iload 5, 2) := by decide +kernel
theorem dX0_doStep_156 : decode cX0_doStep 156 = .ok (.invokevirtual 216, 3) := by decide +kernel
theorem dX0_doStep_159 : decode cX0_doStep 159 = .ok (.invokevirtual 134, 3) := by decide +kernel
theorem dX0_doStep_162 : decode cX0_doStep 162 = .ok (.ifCond .eq 7, 3) := by decide +kernel
theorem dX0_doStep_165 : decode cX0_doStep 165 = .ok (.iconst 1, 1) := by decide +kernel
theorem dX0_doStep_166 : decode cX0_doStep 166 = .ok (.goto 4, 3) := by decide +kernel
theorem dX0_doStep_169 : decode cX0_doStep 169 = .ok (.iconst 0, 1) := by decide +kernel
theorem dX0_doStep_170 : decode cX0_doStep 170 = .ok (.ireturn, 1) := by decide +kernel
theorem dX0_doStep_171 : decode cX0_doStep 171 = .ok (.aload_n 0, 1) := by decide +kernel
theorem dX0_doStep_172 : decode cX0_doStep 172 = .ok (.iload 4, 2) := by decide +kernel
theorem dX0_doStep_174 : decode cX0_doStep 174 = .ok (.invokevirtual 219, 3) := by decide +kernel
theorem dX0_doStep_177 : decode cX0_doStep 177 = .ok (.ireturn, 1) := by decide +kernel
theorem dX0_doStep_178 : decode cX0_doStep 178 = .ok (.aload_n 0, 1) := by decide +kernel
theorem dX0_doStep_179 : decode cX0_doStep 179 = .ok (.iload 4, 2) := by decide +kernel
theorem dX0_doStep_181 : decode cX0_doStep 181 = .ok (.invokevirtual 222, 3) := by decide +kernel
theorem dX0_doStep_184 : decode cX0_doStep 184 = .ok (.ireturn, 1) := by decide +kernel
theorem dX0_doStep_185 : decode cX0_doStep 185 = .ok (.iconst (-1), 1) := by decide +kernel
theorem dX0_doStep_186 : decode cX0_doStep 186 = .ok (.ireturn, 1) := by decide +kernel
theorem dX1_init_0 : decode cX1_init 0 = .ok (.aload_n 0, 1) := by decide +kernel
theorem dX1_init_1 : decode cX1_init 1 = .ok (.invokespecial 3, 3) := by decide +kernel
theorem dX1_init_4 : decode cX1_init 4 = .ok (.aload_n 0, 1) := by decide +kernel
theorem dX1_init_5 : decode cX1_init 5 = .ok (.aload_n 1, 1) := by decide +kernel
theorem dX1_init_6 : decode cX1_init 6 = .ok (.putfield 9, 3) := by decide +kernel
theorem dX1_init_9 : decode cX1_init 9 = .ok (.return_, 1) := by decide +kernel
theorem dX1_find_0 : decode cX1_find 0 = .ok (.aload_n 0, 1) := by decide +kernel
theorem dX1_find_1 : decode cX1_find 1 = .ok (.getfield 9, 3) := by decide +kernel
theorem dX1_find_4 : decode cX1_find 4 = .ok (.iconst 2, 1) := by decide +kernel
theorem dX1_find_5 : decode cX1_find 5 = .ok (.iaload, 1) := by decide +kernel
theorem dX1_find_6 : decode cX1_find 6 = .ok (.istore 4, 2) := by decide +kernel
theorem dX1_find_8 : decode cX1_find 8 = .ok (.iconst 0, 1) := by decide +kernel
theorem dX1_find_9 : decode cX1_find 9 = .ok (.istore 5, 2) := by decide +kernel
theorem dX1_find_11 : decode cX1_find 11 = .ok (.iload 5, 2) := by decide +kernel
theorem dX1_find_13 : decode cX1_find 13 = .ok (.iload 4, 2) := by decide +kernel
theorem dX1_find_15 : decode cX1_find 15 = .ok (.if_icmp .ge 57, 3) := by decide +kernel
theorem dX1_find_18 : decode cX1_find 18 = .ok (.aload_n 0, 1) := by decide +kernel
theorem dX1_find_19 : decode cX1_find 19 = .ok (.getfield 9, 3) := by decide +kernel
theorem dX1_find_22 : decode cX1_find 22 = .ok (.sipush 299, 3) := by decide +kernel
theorem dX1_find_25 : decode cX1_find 25 = .ok (.iload 5, 2) := by decide +kernel
theorem dX1_find_27 : decode cX1_find 27 = .ok (.iadd, 1) := by decide +kernel
theorem dX1_find_28 : decode cX1_find 28 = .ok (.iaload, 1) := by decide +kernel
theorem dX1_find_29 : decode cX1_find 29 = .ok (.iload_n 1, 1) := by decide +kernel
theorem dX1_find_30 : decode cX1_find 30 = .ok (.if_icmp .ne 36, 3) := by decide +kernel
theorem dX1_find_33 : decode cX1_find 33 = .ok (.aload_n 0, 1) := by decide +kernel
theorem dX1_find_34 : decode cX1_find 34 = .ok (.getfield 9, 3) := by decide +kernel
theorem dX1_find_37 : decode cX1_find 37 = .ok (.sipush 347, 3) := by decide +kernel
theorem dX1_find_40 : decode cX1_find 40 = .ok (.iload 5, 2) := by decide +kernel
theorem dX1_find_42 : decode cX1_find 42 = .ok (.iadd, 1) := by decide +kernel
theorem dX1_find_43 : decode cX1_find 43 = .ok (.iaload, 1) := by decide +kernel
theorem dX1_find_44 : decode cX1_find 44 = .ok (.iload_n 2, 1) := by decide +kernel
theorem dX1_find_45 : decode cX1_find 45 = .ok (.if_icmp .ne 21, 3) := by decide +kernel
theorem dX1_find_48 : decode cX1_find 48 = .ok (.aload_n 0, 1) := by decide +kernel
theorem dX1_find_49 : decode cX1_find 49 = .ok (.getfield 9, 3) := by decide +kernel
theorem dX1_find_52 : decode cX1_find 52 = .ok (.sipush 323, 3) := by decide +kernel
theorem dX1_find_55 : decode cX1_find 55 = .ok (.iload 5, 2) := by decide +kernel
theorem dX1_find_57 : decode cX1_find 57 = .ok (.iadd, 1) := by decide +kernel
theorem dX1_find_58 : decode cX1_find 58 = .ok (.iaload, 1) := by decide +kernel
theorem dX1_find_59 : decode cX1_find 59 = .ok (.iload_n 3, 1) := by decide +kernel
theorem dX1_find_60 : decode cX1_find 60 = .ok (.if_icmp .ne 6, 3) := by decide +kernel
theorem dX1_find_63 : decode cX1_find 63 = .ok (.iload 5, 2) := by decide +kernel
theorem dX1_find_65 : decode cX1_find 65 = .ok (.ireturn, 1) := by decide +kernel
theorem dX1_find_66 : decode cX1_find 66 = .ok (.iinc 5 1, 3) := by decide +kernel
theorem dX1_find_69 : decode cX1_find 69 = .ok (.goto (-58), 3) := by decide +kernel
theorem dX1_find_72 : decode cX1_find 72 = .ok (.iconst (-1), 1) := by decide +kernel
theorem dX1_find_73 : decode cX1_find 73 = .ok (.ireturn, 1) := by decide +kernel
theorem dX1_heldBy_0 : decode cX1_heldBy 0 = .ok (.aload_n 0, 1) := by decide +kernel
theorem dX1_heldBy_1 : decode cX1_heldBy 1 = .ok (.sipush 299, 3) := by decide +kernel
theorem dX1_heldBy_4 : decode cX1_heldBy 4 = .ok (.iload_n 1, 1) := by decide +kernel
theorem dX1_heldBy_5 : decode cX1_heldBy 5 = .ok (.invokevirtual 15, 3) := by decide +kernel
theorem dX1_heldBy_8 : decode cX1_heldBy 8 = .ok (.ireturn, 1) := by decide +kernel
theorem dX1_aimedAt_0 : decode cX1_aimedAt 0 = .ok (.aload_n 0, 1) := by decide +kernel
theorem dX1_aimedAt_1 : decode cX1_aimedAt 1 = .ok (.sipush 323, 3) := by decide +kernel
theorem dX1_aimedAt_4 : decode cX1_aimedAt 4 = .ok (.iload_n 1, 1) := by decide +kernel
theorem dX1_aimedAt_5 : decode cX1_aimedAt 5 = .ok (.invokevirtual 15, 3) := by decide +kernel
theorem dX1_aimedAt_8 : decode cX1_aimedAt 8 = .ok (.ireturn, 1) := by decide +kernel
theorem dX1_countOf_0 : decode cX1_countOf 0 = .ok (.aload_n 0, 1) := by decide +kernel
theorem dX1_countOf_1 : decode cX1_countOf 1 = .ok (.getfield 9, 3) := by decide +kernel
theorem dX1_countOf_4 : decode cX1_countOf 4 = .ok (.iconst 2, 1) := by decide +kernel
theorem dX1_countOf_5 : decode cX1_countOf 5 = .ok (.iaload, 1) := by decide +kernel
theorem dX1_countOf_6 : decode cX1_countOf 6 = .ok (.istore_n 3, 1) := by decide +kernel
theorem dX1_countOf_7 : decode cX1_countOf 7 = .ok (.iconst 0, 1) := by decide +kernel
theorem dX1_countOf_8 : decode cX1_countOf 8 = .ok (.istore 4, 2) := by decide +kernel
theorem dX1_countOf_10 : decode cX1_countOf 10 = .ok (.iconst 0, 1) := by decide +kernel
theorem dX1_countOf_11 : decode cX1_countOf 11 = .ok (.istore 5, 2) := by decide +kernel
theorem dX1_countOf_13 : decode cX1_countOf 13 = .ok (.iload 5, 2) := by decide +kernel
theorem dX1_countOf_15 : decode cX1_countOf 15 = .ok (.iload_n 3, 1) := by decide +kernel
theorem dX1_countOf_16 : decode cX1_countOf 16 = .ok (.if_icmp .ge 25, 3) := by decide +kernel
theorem dX1_countOf_19 : decode cX1_countOf 19 = .ok (.aload_n 0, 1) := by decide +kernel
theorem dX1_countOf_20 : decode cX1_countOf 20 = .ok (.getfield 9, 3) := by decide +kernel
theorem dX1_countOf_23 : decode cX1_countOf 23 = .ok (.iload_n 1, 1) := by decide +kernel
theorem dX1_countOf_24 : decode cX1_countOf 24 = .ok (.iload 5, 2) := by decide +kernel
theorem dX1_countOf_26 : decode cX1_countOf 26 = .ok (.iadd, 1) := by decide +kernel
theorem dX1_countOf_27 : decode cX1_countOf 27 = .ok (.iaload, 1) := by decide +kernel
theorem dX1_countOf_28 : decode cX1_countOf 28 = .ok (.iload_n 2, 1) := by decide +kernel
theorem dX1_countOf_29 : decode cX1_countOf 29 = .ok (.if_icmp .ne 6, 3) := by decide +kernel
theorem dX1_countOf_32 : decode cX1_countOf 32 = .ok (.iinc 4 1, 3) := by decide +kernel
theorem dX1_countOf_35 : decode cX1_countOf 35 = .ok (.iinc 5 1, 3) := by decide +kernel
theorem dX1_countOf_38 : decode cX1_countOf 38 = .ok (.goto (-25), 3) := by decide +kernel
theorem dX1_countOf_41 : decode cX1_countOf 41 = .ok (.iload 4, 2) := by decide +kernel
theorem dX1_countOf_43 : decode cX1_countOf 43 = .ok (.ireturn, 1) := by decide +kernel
theorem dX1_ofSet_0 : decode cX1_ofSet 0 = .ok (.aload_n 0, 1) := by decide +kernel
theorem dX1_ofSet_1 : decode cX1_ofSet 1 = .ok (.getfield 9, 3) := by decide +kernel
theorem dX1_ofSet_4 : decode cX1_ofSet 4 = .ok (.iconst 2, 1) := by decide +kernel
theorem dX1_ofSet_5 : decode cX1_ofSet 5 = .ok (.iaload, 1) := by decide +kernel
theorem dX1_ofSet_6 : decode cX1_ofSet 6 = .ok (.istore_n 3, 1) := by decide +kernel
theorem dX1_ofSet_7 : decode cX1_ofSet 7 = .ok (.iconst 0, 1) := by decide +kernel
theorem dX1_ofSet_8 : decode cX1_ofSet 8 = .ok (.istore 4, 2) := by decide +kernel
theorem dX1_ofSet_10 : decode cX1_ofSet 10 = .ok (.iconst 0, 1) := by decide +kernel
theorem dX1_ofSet_11 : decode cX1_ofSet 11 = .ok (.istore 5, 2) := by decide +kernel
theorem dX1_ofSet_13 : decode cX1_ofSet 13 = .ok (.iload 5, 2) := by decide +kernel
theorem dX1_ofSet_15 : decode cX1_ofSet 15 = .ok (.iload_n 3, 1) := by decide +kernel
theorem dX1_ofSet_16 : decode cX1_ofSet 16 = .ok (.if_icmp .ge 36, 3) := by decide +kernel
theorem dX1_ofSet_19 : decode cX1_ofSet 19 = .ok (.aload_n 0, 1) := by decide +kernel
theorem dX1_ofSet_20 : decode cX1_ofSet 20 = .ok (.getfield 9, 3) := by decide +kernel
theorem dX1_ofSet_23 : decode cX1_ofSet 23 = .ok (.sipush 299, 3) := by decide +kernel
theorem dX1_ofSet_26 : decode cX1_ofSet 26 = .ok (.iload 5, 2) := by decide +kernel
theorem dX1_ofSet_28 : decode cX1_ofSet 28 = .ok (.iadd, 1) := by decide +kernel
theorem dX1_ofSet_29 : decode cX1_ofSet 29 = .ok (.iaload, 1) := by decide +kernel
theorem dX1_ofSet_30 : decode cX1_ofSet 30 = .ok (.iload_n 1, 1) := by decide +kernel
theorem dX1_ofSet_31 : decode cX1_ofSet 31 = .ok (.if_icmp .ne 15, 3) := by decide +kernel
theorem dX1_ofSet_34 : decode cX1_ofSet 34 = .ok (.iload 4, 2) := by decide +kernel
theorem dX1_ofSet_36 : decode cX1_ofSet 36 = .ok (.iload_n 2, 1) := by decide +kernel
theorem dX1_ofSet_37 : decode cX1_ofSet 37 = .ok (.if_icmp .ne 6, 3) := by decide +kernel
theorem dX1_ofSet_40 : decode cX1_ofSet 40 = .ok (.iload 5, 2) := by decide +kernel
theorem dX1_ofSet_42 : decode cX1_ofSet 42 = .ok (.ireturn, 1) := by decide +kernel
theorem dX1_ofSet_43 : decode cX1_ofSet 43 = .ok (.iinc 4 1, 3) := by decide +kernel
theorem dX1_ofSet_46 : decode cX1_ofSet 46 = .ok (.iinc 5 1, 3) := by decide +kernel
theorem dX1_ofSet_49 : decode cX1_ofSet 49 = .ok (.goto (-36), 3) := by decide +kernel
theorem dX1_ofSet_52 : decode cX1_ofSet 52 = .ok (.iconst (-1), 1) := by decide +kernel
theorem dX1_ofSet_53 : decode cX1_ofSet 53 = .ok (.ireturn, 1) := by decide +kernel
theorem dX1_append_0 : decode cX1_append 0 = .ok (.aload_n 0, 1) := by decide +kernel
theorem dX1_append_1 : decode cX1_append 1 = .ok (.getfield 9, 3) := by decide +kernel
theorem dX1_append_4 : decode cX1_append 4 = .ok (.iconst 2, 1) := by decide +kernel
theorem dX1_append_5 : decode cX1_append 5 = .ok (.iaload, 1) := by decide +kernel
theorem dX1_append_6 : decode cX1_append 6 = .ok (.istore 6, 2) := by decide +kernel
theorem dX1_append_8 : decode cX1_append 8 = .ok (.iload 6, 2) := by decide +kernel
theorem dX1_append_10 : decode cX1_append 10 = .ok (.bipush 24, 2) := by decide +kernel
theorem dX1_append_12 : decode cX1_append 12 = .ok (.if_icmp .lt 5, 3) := by decide +kernel
theorem dX1_append_15 : decode cX1_append 15 = .ok (.iconst (-1), 1) := by decide +kernel
theorem dX1_append_16 : decode cX1_append 16 = .ok (.ireturn, 1) := by decide +kernel
theorem dX1_append_17 : decode cX1_append 17 = .ok (.aload_n 0, 1) := by decide +kernel
theorem dX1_append_18 : decode cX1_append 18 = .ok (.getfield 9, 3) := by decide +kernel
theorem dX1_append_21 : decode cX1_append 21 = .ok (.iconst 2, 1) := by decide +kernel
theorem dX1_append_22 : decode cX1_append 22 = .ok (.iload 6, 2) := by decide +kernel
theorem dX1_append_24 : decode cX1_append 24 = .ok (.iconst 1, 1) := by decide +kernel
theorem dX1_append_25 : decode cX1_append 25 = .ok (.iadd, 1) := by decide +kernel
theorem dX1_append_26 : decode cX1_append 26 = .ok (.iastore, 1) := by decide +kernel
theorem dX1_append_27 : decode cX1_append 27 = .ok (.aload_n 0, 1) := by decide +kernel
theorem dX1_append_28 : decode cX1_append 28 = .ok (.getfield 9, 3) := by decide +kernel
theorem dX1_append_31 : decode cX1_append 31 = .ok (.sipush 299, 3) := by decide +kernel
theorem dX1_append_34 : decode cX1_append 34 = .ok (.iload 6, 2) := by decide +kernel
theorem dX1_append_36 : decode cX1_append 36 = .ok (.iadd, 1) := by decide +kernel
theorem dX1_append_37 : decode cX1_append 37 = .ok (.iload_n 1, 1) := by decide +kernel
theorem dX1_append_38 : decode cX1_append 38 = .ok (.iastore, 1) := by decide +kernel
theorem dX1_append_39 : decode cX1_append 39 = .ok (.aload_n 0, 1) := by decide +kernel
theorem dX1_append_40 : decode cX1_append 40 = .ok (.getfield 9, 3) := by decide +kernel
theorem dX1_append_43 : decode cX1_append 43 = .ok (.sipush 323, 3) := by decide +kernel
theorem dX1_append_46 : decode cX1_append 46 = .ok (.iload 6, 2) := by decide +kernel
theorem dX1_append_48 : decode cX1_append 48 = .ok (.iadd, 1) := by decide +kernel
theorem dX1_append_49 : decode cX1_append 49 = .ok (.iload_n 3, 1) := by decide +kernel
theorem dX1_append_50 : decode cX1_append 50 = .ok (.iastore, 1) := by decide +kernel
theorem dX1_append_51 : decode cX1_append 51 = .ok (.aload_n 0, 1) := by decide +kernel
theorem dX1_append_52 : decode cX1_append 52 = .ok (.getfield 9, 3) := by decide +kernel
theorem dX1_append_55 : decode cX1_append 55 = .ok (.sipush 347, 3) := by decide +kernel
theorem dX1_append_58 : decode cX1_append 58 = .ok (.iload 6, 2) := by decide +kernel
theorem dX1_append_60 : decode cX1_append 60 = .ok (.iadd, 1) := by decide +kernel
theorem dX1_append_61 : decode cX1_append 61 = .ok (.iload_n 2, 1) := by decide +kernel
theorem dX1_append_62 : decode cX1_append 62 = .ok (.iastore, 1) := by decide +kernel
theorem dX1_append_63 : decode cX1_append 63 = .ok (.aload_n 0, 1) := by decide +kernel
theorem dX1_append_64 : decode cX1_append 64 = .ok (.getfield 9, 3) := by decide +kernel
theorem dX1_append_67 : decode cX1_append 67 = .ok (.sipush 371, 3) := by decide +kernel
theorem dX1_append_70 : decode cX1_append 70 = .ok (.iload 6, 2) := by decide +kernel
theorem dX1_append_72 : decode cX1_append 72 = .ok (.iadd, 1) := by decide +kernel
theorem dX1_append_73 : decode cX1_append 73 = .ok (.iload 4, 2) := by decide +kernel
theorem dX1_append_75 : decode cX1_append 75 = .ok (.iastore, 1) := by decide +kernel
theorem dX1_append_76 : decode cX1_append 76 = .ok (.aload_n 0, 1) := by decide +kernel
theorem dX1_append_77 : decode cX1_append 77 = .ok (.getfield 9, 3) := by decide +kernel
theorem dX1_append_80 : decode cX1_append 80 = .ok (.sipush 395, 3) := by decide +kernel
theorem dX1_append_83 : decode cX1_append 83 = .ok (.iload 6, 2) := by decide +kernel
theorem dX1_append_85 : decode cX1_append 85 = .ok (.iadd, 1) := by decide +kernel
theorem dX1_append_86 : decode cX1_append 86 = .ok (.iload 5, 2) := by decide +kernel
theorem dX1_append_88 : decode cX1_append 88 = .ok (.iastore, 1) := by decide +kernel
theorem dX1_append_89 : decode cX1_append 89 = .ok (.aload_n 0, 1) := by decide +kernel
theorem dX1_append_90 : decode cX1_append 90 = .ok (.getfield 9, 3) := by decide +kernel
theorem dX1_append_93 : decode cX1_append 93 = .ok (.sipush 419, 3) := by decide +kernel
theorem dX1_append_96 : decode cX1_append 96 = .ok (.iload 6, 2) := by decide +kernel
theorem dX1_append_98 : decode cX1_append 98 = .ok (.iadd, 1) := by decide +kernel
theorem dX1_append_99 : decode cX1_append 99 = .ok (.iconst 0, 1) := by decide +kernel
theorem dX1_append_100 : decode cX1_append 100 = .ok (.iastore, 1) := by decide +kernel
theorem dX1_append_101 : decode cX1_append 101 = .ok (.aload_n 0, 1) := by decide +kernel
theorem dX1_append_102 : decode cX1_append 102 = .ok (.getfield 9, 3) := by decide +kernel
theorem dX1_append_105 : decode cX1_append 105 = .ok (.sipush 443, 3) := by decide +kernel
theorem dX1_append_108 : decode cX1_append 108 = .ok (.iload 6, 2) := by decide +kernel
theorem dX1_append_110 : decode cX1_append 110 = .ok (.iadd, 1) := by decide +kernel
theorem dX1_append_111 : decode cX1_append 111 = .ok (.iconst (-1), 1) := by decide +kernel
theorem dX1_append_112 : decode cX1_append 112 = .ok (.iastore, 1) := by decide +kernel
theorem dX1_append_113 : decode cX1_append 113 = .ok (.aload_n 0, 1) := by decide +kernel
theorem dX1_append_114 : decode cX1_append 114 = .ok (.getfield 9, 3) := by decide +kernel
theorem dX1_append_117 : decode cX1_append 117 = .ok (.sipush 467, 3) := by decide +kernel
theorem dX1_append_120 : decode cX1_append 120 = .ok (.iload 6, 2) := by decide +kernel
theorem dX1_append_122 : decode cX1_append 122 = .ok (.iadd, 1) := by decide +kernel
theorem dX1_append_123 : decode cX1_append 123 = .ok (.iconst 0, 1) := by decide +kernel
theorem dX1_append_124 : decode cX1_append 124 = .ok (.iastore, 1) := by decide +kernel
theorem dX1_append_125 : decode cX1_append 125 = .ok (.aload_n 0, 1) := by decide +kernel
theorem dX1_append_126 : decode cX1_append 126 = .ok (.getfield 9, 3) := by decide +kernel
theorem dX1_append_129 : decode cX1_append 129 = .ok (.sipush 491, 3) := by decide +kernel
theorem dX1_append_132 : decode cX1_append 132 = .ok (.iload 6, 2) := by decide +kernel
theorem dX1_append_134 : decode cX1_append 134 = .ok (.iadd, 1) := by decide +kernel
theorem dX1_append_135 : decode cX1_append 135 = .ok (.iconst 0, 1) := by decide +kernel
theorem dX1_append_136 : decode cX1_append 136 = .ok (.iastore, 1) := by decide +kernel
theorem dX1_append_137 : decode cX1_append 137 = .ok (.aload_n 0, 1) := by decide +kernel
theorem dX1_append_138 : decode cX1_append 138 = .ok (.getfield 9, 3) := by decide +kernel
theorem dX1_append_141 : decode cX1_append 141 = .ok (.sipush 515, 3) := by decide +kernel
theorem dX1_append_144 : decode cX1_append 144 = .ok (.iload 6, 2) := by decide +kernel
theorem dX1_append_146 : decode cX1_append 146 = .ok (.iadd, 1) := by decide +kernel
theorem dX1_append_147 : decode cX1_append 147 = .ok (.iconst 0, 1) := by decide +kernel
theorem dX1_append_148 : decode cX1_append 148 = .ok (.iastore, 1) := by decide +kernel
theorem dX1_append_149 : decode cX1_append 149 = .ok (.iload 6, 2) := by decide +kernel
theorem dX1_append_151 : decode cX1_append 151 = .ok (.ireturn, 1) := by decide +kernel
theorem dX1_remove_0 : decode cX1_remove 0 = .ok (.aload_n 0, 1) := by decide +kernel
theorem dX1_remove_1 : decode cX1_remove 1 = .ok (.getfield 9, 3) := by decide +kernel
theorem dX1_remove_4 : decode cX1_remove 4 = .ok (.iconst 2, 1) := by decide +kernel
theorem dX1_remove_5 : decode cX1_remove 5 = .ok (.iaload, 1) := by decide +kernel
theorem dX1_remove_6 : decode cX1_remove 6 = .ok (.iload_n 1, 1) := by decide +kernel
theorem dX1_remove_7 : decode cX1_remove 7 = .ok (.isub, 1) := by decide +kernel
theorem dX1_remove_8 : decode cX1_remove 8 = .ok (.iconst 1, 1) := by decide +kernel
theorem dX1_remove_9 : decode cX1_remove 9 = .ok (.isub, 1) := by decide +kernel
theorem dX1_remove_10 : decode cX1_remove 10 = .ok (.istore_n 2, 1) := by decide +kernel
theorem dX1_remove_11 : decode cX1_remove 11 = .ok (.iload_n 1, 1) := by decide +kernel
theorem dX1_remove_12 : decode cX1_remove 12 = .ok (.ifCond .lt 7, 3) := by decide +kernel
theorem dX1_remove_15 : decode cX1_remove 15 = .ok (.iload_n 2, 1) := by decide +kernel
theorem dX1_remove_16 : decode cX1_remove 16 = .ok (.ifCond .ge 4, 3) := by decide +kernel
theorem dX1_remove_19 : decode cX1_remove 19 = .ok (.return_, 1) := by decide +kernel
theorem dX1_remove_20 : decode cX1_remove 20 = .ok (.sipush 299, 3) := by decide +kernel
theorem dX1_remove_23 : decode cX1_remove 23 = .ok (.istore_n 3, 1) := by decide +kernel
theorem dX1_remove_24 : decode cX1_remove 24 = .ok (.iload_n 3, 1) := by decide +kernel
theorem dX1_remove_25 : decode cX1_remove 25 = .ok (.sipush 539, 3) := by decide +kernel
theorem dX1_remove_28 : decode cX1_remove 28 = .ok (.if_icmp .ge 29, 3) := by decide +kernel
theorem dX1_remove_31 : decode cX1_remove 31 = .ok (.aload_n 0, 1) := by decide +kernel
theorem dX1_remove_32 : decode cX1_remove 32 = .ok (.getfield 9, 3) := by decide +kernel
theorem dX1_remove_35 : decode cX1_remove 35 = .ok (.iload_n 3, 1) := by decide +kernel
theorem dX1_remove_36 : decode cX1_remove 36 = .ok (.iload_n 1, 1) := by decide +kernel
theorem dX1_remove_37 : decode cX1_remove 37 = .ok (.iadd, 1) := by decide +kernel
theorem dX1_remove_38 : decode cX1_remove 38 = .ok (.iconst 1, 1) := by decide +kernel
theorem dX1_remove_39 : decode cX1_remove 39 = .ok (.iadd, 1) := by decide +kernel
theorem dX1_remove_40 : decode cX1_remove 40 = .ok (.aload_n 0, 1) := by decide +kernel
theorem dX1_remove_41 : decode cX1_remove 41 = .ok (.getfield 9, 3) := by decide +kernel
theorem dX1_remove_44 : decode cX1_remove 44 = .ok (.iload_n 3, 1) := by decide +kernel
theorem dX1_remove_45 : decode cX1_remove 45 = .ok (.iload_n 1, 1) := by decide +kernel
theorem dX1_remove_46 : decode cX1_remove 46 = .ok (.iadd, 1) := by decide +kernel
theorem dX1_remove_47 : decode cX1_remove 47 = .ok (.iload_n 2, 1) := by decide +kernel
theorem dX1_remove_48 : decode cX1_remove 48 = .ok (.invokestatic 19, 3) := by decide +kernel
theorem dX1_remove_51 : decode cX1_remove 51 = .ok (.iinc 3 24, 3) := by decide +kernel
theorem dX1_remove_54 : decode cX1_remove 54 = .ok (.goto (-30), 3) := by decide +kernel
theorem dX1_remove_57 : decode cX1_remove 57 = .ok (.aload_n 0, 1) := by decide +kernel
theorem dX1_remove_58 : decode cX1_remove 58 = .ok (.getfield 9, 3) := by decide +kernel
theorem dX1_remove_61 : decode cX1_remove 61 = .ok (.iconst 2, 1) := by decide +kernel
theorem dX1_remove_62 : decode cX1_remove 62 = .ok (.dup2, 1) := by decide +kernel
theorem dX1_remove_63 : decode cX1_remove 63 = .ok (.iaload, 1) := by decide +kernel
theorem dX1_remove_64 : decode cX1_remove 64 = .ok (.iconst 1, 1) := by decide +kernel
theorem dX1_remove_65 : decode cX1_remove 65 = .ok (.isub, 1) := by decide +kernel
theorem dX1_remove_66 : decode cX1_remove 66 = .ok (.iastore, 1) := by decide +kernel
theorem dX1_remove_67 : decode cX1_remove 67 = .ok (.return_, 1) := by decide +kernel
theorem dX1_removeAllOf_0 : decode cX1_removeAllOf 0 = .ok (.aload_n 0, 1) := by decide +kernel
theorem dX1_removeAllOf_1 : decode cX1_removeAllOf 1 = .ok (.getfield 9, 3) := by decide +kernel
theorem dX1_removeAllOf_4 : decode cX1_removeAllOf 4 = .ok (.iconst 2, 1) := by decide +kernel
theorem dX1_removeAllOf_5 : decode cX1_removeAllOf 5 = .ok (.iaload, 1) := by decide +kernel
theorem dX1_removeAllOf_6 : decode cX1_removeAllOf 6 = .ok (.iconst 1, 1) := by decide +kernel
theorem dX1_removeAllOf_7 : decode cX1_removeAllOf 7 = .ok (.isub, 1) := by decide +kernel
theorem dX1_removeAllOf_8 : decode cX1_removeAllOf 8 = .ok (.istore_n 2, 1) := by decide +kernel
theorem dX1_removeAllOf_9 : decode cX1_removeAllOf 9 = .ok (.iload_n 2, 1) := by decide +kernel
theorem dX1_removeAllOf_10 : decode cX1_removeAllOf 10 = .ok (.ifCond .lt 42, 3) := by decide +kernel
theorem dX1_removeAllOf_13 : decode cX1_removeAllOf 13 = .ok (.aload_n 0, 1) := by decide +kernel
theorem dX1_removeAllOf_14 : decode cX1_removeAllOf 14 = .ok (.getfield 9, 3) := by decide +kernel
theorem dX1_removeAllOf_17 : decode cX1_removeAllOf 17 = .ok (.sipush 323, 3) := by decide +kernel
theorem dX1_removeAllOf_20 : decode cX1_removeAllOf 20 = .ok (.iload_n 2, 1) := by decide +kernel
theorem dX1_removeAllOf_21 : decode cX1_removeAllOf 21 = .ok (.iadd, 1) := by decide +kernel
theorem dX1_removeAllOf_22 : decode cX1_removeAllOf 22 = .ok (.iaload, 1) := by decide +kernel
theorem dX1_removeAllOf_23 : decode cX1_removeAllOf 23 = .ok (.iload_n 1, 1) := by decide +kernel
theorem dX1_removeAllOf_24 : decode cX1_removeAllOf 24 = .ok (.if_icmp .eq 17, 3) := by decide +kernel
theorem dX1_removeAllOf_27 : decode cX1_removeAllOf 27 = .ok (.aload_n 0, 1) := by decide +kernel
theorem dX1_removeAllOf_28 : decode cX1_removeAllOf 28 = .ok (.getfield 9, 3) := by decide +kernel
theorem dX1_removeAllOf_31 : decode cX1_removeAllOf 31 = .ok (.sipush 299, 3) := by decide +kernel
theorem dX1_removeAllOf_34 : decode cX1_removeAllOf 34 = .ok (.iload_n 2, 1) := by decide +kernel
theorem dX1_removeAllOf_35 : decode cX1_removeAllOf 35 = .ok (.iadd, 1) := by decide +kernel
theorem dX1_removeAllOf_36 : decode cX1_removeAllOf 36 = .ok (.iaload, 1) := by decide +kernel
theorem dX1_removeAllOf_37 : decode cX1_removeAllOf 37 = .ok (.iload_n 1, 1) := by decide +kernel
theorem dX1_removeAllOf_38 : decode cX1_removeAllOf 38 = .ok (.if_icmp .ne 8, 3) := by decide +kernel
theorem dX1_removeAllOf_41 : decode cX1_removeAllOf 41 = .ok (.aload_n 0, 1) := by decide +kernel
theorem dX1_removeAllOf_42 : decode cX1_removeAllOf 42 = .ok (.iload_n 2, 1) := by decide +kernel
theorem dX1_removeAllOf_43 : decode cX1_removeAllOf 43 = .ok (.invokevirtual 25, 3) := by decide +kernel
theorem dX1_removeAllOf_46 : decode cX1_removeAllOf 46 = .ok (.iinc 2 (-1), 3) := by decide +kernel
theorem dX1_removeAllOf_49 : decode cX1_removeAllOf 49 = .ok (.goto (-40), 3) := by decide +kernel
theorem dX1_removeAllOf_52 : decode cX1_removeAllOf 52 = .ok (.return_, 1) := by decide +kernel
theorem dX1_heeds_0 : decode cX1_heeds 0 = .ok (.aload_n 0, 1) := by decide +kernel
theorem dX1_heeds_1 : decode cX1_heeds 1 = .ok (.getfield 9, 3) := by decide +kernel
theorem dX1_heeds_4 : decode cX1_heeds 4 = .ok (.sipush 419, 3) := by decide +kernel
theorem dX1_heeds_7 : decode cX1_heeds 7 = .ok (.iload_n 1, 1) := by decide +kernel
theorem dX1_heeds_8 : decode cX1_heeds 8 = .ok (.iadd, 1) := by decide +kernel
theorem dX1_heeds_9 : decode cX1_heeds 9 = .ok (.iaload, 1) := by decide +kernel
theorem dX1_heeds_10 : decode cX1_heeds 10 = .ok (.ifCond .eq 17, 3) := by decide +kernel
theorem dX1_heeds_13 : decode cX1_heeds 13 = .ok (.aload_n 0, 1) := by decide +kernel
theorem dX1_heeds_14 : decode cX1_heeds 14 = .ok (.iload_n 1, 1) := by decide +kernel
theorem dX1_heeds_15 : decode cX1_heeds 15 = .ok (.invokevirtual 29, 3) := by decide +kernel
theorem dX1_heeds_18 : decode cX1_heeds 18 = .ok (.iload_n 2, 1) := by decide +kernel
theorem dX1_heeds_19 : decode cX1_heeds 19 = .ok (.iand, 1) := by decide +kernel
theorem dX1_heeds_20 : decode cX1_heeds 20 = .ok (.ifCond .eq 7, 3) := by decide +kernel
theorem dX1_heeds_23 : decode cX1_heeds 23 = .ok (.iconst 1, 1) := by decide +kernel
theorem dX1_heeds_24 : decode cX1_heeds 24 = .ok (.goto 4, 3) := by decide +kernel
theorem dX1_heeds_27 : decode cX1_heeds 27 = .ok (.iconst 0, 1) := by decide +kernel
theorem dX1_heeds_28 : decode cX1_heeds 28 = .ok (.ireturn, 1) := by decide +kernel
theorem dX1_bitsOf_0 : decode cX1_bitsOf 0 = .ok (.aload_n 0, 1) := by decide +kernel
theorem dX1_bitsOf_1 : decode cX1_bitsOf 1 = .ok (.getfield 9, 3) := by decide +kernel
theorem dX1_bitsOf_4 : decode cX1_bitsOf 4 = .ok (.sipush 371, 3) := by decide +kernel
theorem dX1_bitsOf_7 : decode cX1_bitsOf 7 = .ok (.iload_n 1, 1) := by decide +kernel
theorem dX1_bitsOf_8 : decode cX1_bitsOf 8 = .ok (.iadd, 1) := by decide +kernel
theorem dX1_bitsOf_9 : decode cX1_bitsOf 9 = .ok (.iaload, 1) := by decide +kernel
theorem dX1_bitsOf_10 : decode cX1_bitsOf 10 = .ok (.iconst 4, 1) := by decide +kernel
theorem dX1_bitsOf_11 : decode cX1_bitsOf 11 = .ok (.ior, 1) := by decide +kernel
theorem dX1_bitsOf_12 : decode cX1_bitsOf 12 = .ok (.bipush 8, 2) := by decide +kernel
theorem dX1_bitsOf_14 : decode cX1_bitsOf 14 = .ok (.ior, 1) := by decide +kernel
theorem dX1_bitsOf_15 : decode cX1_bitsOf 15 = .ok (.ireturn, 1) := by decide +kernel
theorem dX1_tells_0 : decode cX1_tells 0 = .ok (.aload_n 0, 1) := by decide +kernel
theorem dX1_tells_1 : decode cX1_tells 1 = .ok (.getfield 9, 3) := by decide +kernel
theorem dX1_tells_4 : decode cX1_tells 4 = .ok (.sipush 419, 3) := by decide +kernel
theorem dX1_tells_7 : decode cX1_tells 7 = .ok (.iload_n 1, 1) := by decide +kernel
theorem dX1_tells_8 : decode cX1_tells 8 = .ok (.iadd, 1) := by decide +kernel
theorem dX1_tells_9 : decode cX1_tells 9 = .ok (.iaload, 1) := by decide +kernel
theorem dX1_tells_10 : decode cX1_tells 10 = .ok (.ifCond .ne 7, 3) := by decide +kernel
theorem dX1_tells_13 : decode cX1_tells 13 = .ok (.iconst 0, 1) := by decide +kernel
theorem dX1_tells_14 : decode cX1_tells 14 = .ok (.goto 24, 3) := by decide +kernel
theorem dX1_tells_17 : decode cX1_tells 17 = .ok (.aload_n 0, 1) := by decide +kernel
theorem dX1_tells_18 : decode cX1_tells 18 = .ok (.iload_n 1, 1) := by decide +kernel
theorem dX1_tells_19 : decode cX1_tells 19 = .ok (.invokevirtual 29, 3) := by decide +kernel
theorem dX1_tells_22 : decode cX1_tells 22 = .ok (.aload_n 0, 1) := by decide +kernel
theorem dX1_tells_23 : decode cX1_tells 23 = .ok (.aload_n 0, 1) := by decide +kernel
theorem dX1_tells_24 : decode cX1_tells 24 = .ok (.getfield 9, 3) := by decide +kernel
theorem dX1_tells_27 : decode cX1_tells 27 = .ok (.sipush 323, 3) := by decide +kernel
theorem dX1_tells_30 : decode cX1_tells 30 = .ok (.iload_n 1, 1) := by decide +kernel
theorem dX1_tells_31 : decode cX1_tells 31 = .ok (.iadd, 1) := by decide +kernel
theorem dX1_tells_32 : decode cX1_tells 32 = .ok (.iaload, 1) := by decide +kernel
theorem dX1_tells_33 : decode cX1_tells 33 = .ok (.iconst 0, 1) := by decide +kernel
theorem dX1_tells_34 : decode cX1_tells 34 = .ok (.invokevirtual 33, 3) := by decide +kernel
theorem dX1_tells_37 : decode cX1_tells 37 = .ok (.iand, 1) := by decide +kernel
theorem dX1_tells_38 : decode cX1_tells 38 = .ok (.ireturn, 1) := by decide +kernel
theorem dX1_ready_0 : decode cX1_ready 0 = .ok (.iload_n 1, 1) := by decide +kernel
theorem dX1_ready_1 : decode cX1_ready 1 = .ok (.ifCond .lt 8, 3) := by decide +kernel
theorem dX1_ready_4 : decode cX1_ready 4 = .ok (.iload_n 2, 1) := by decide +kernel
theorem dX1_ready_5 : decode cX1_ready 5 = .ok (.iconst 3, 1) := by decide +kernel
theorem dX1_ready_6 : decode cX1_ready 6 = .ok (.if_icmp .le 5, 3) := by decide +kernel
theorem dX1_ready_9 : decode cX1_ready 9 = .ok (.iconst 0, 1) := by decide +kernel
theorem dX1_ready_10 : decode cX1_ready 10 = .ok (.ireturn, 1) := by decide +kernel
theorem dX1_ready_11 : decode cX1_ready 11 = .ok (.aload_n 0, 1) := by decide +kernel
theorem dX1_ready_12 : decode cX1_ready 12 = .ok (.getfield 9, 3) := by decide +kernel
theorem dX1_ready_15 : decode cX1_ready 15 = .ok (.bipush 47, 2) := by decide +kernel
theorem dX1_ready_17 : decode cX1_ready 17 = .ok (.iload_n 1, 1) := by decide +kernel
theorem dX1_ready_18 : decode cX1_ready 18 = .ok (.iadd, 1) := by decide +kernel
theorem dX1_ready_19 : decode cX1_ready 19 = .ok (.iaload, 1) := by decide +kernel
theorem dX1_ready_20 : decode cX1_ready 20 = .ok (.istore_n 3, 1) := by decide +kernel
theorem dX1_ready_21 : decode cX1_ready 21 = .ok (.aload_n 0, 1) := by decide +kernel
theorem dX1_ready_22 : decode cX1_ready 22 = .ok (.getfield 9, 3) := by decide +kernel
theorem dX1_ready_25 : decode cX1_ready 25 = .ok (.sipush 131, 3) := by decide +kernel
theorem dX1_ready_28 : decode cX1_ready 28 = .ok (.iload_n 1, 1) := by decide +kernel
theorem dX1_ready_29 : decode cX1_ready 29 = .ok (.iadd, 1) := by decide +kernel
theorem dX1_ready_30 : decode cX1_ready 30 = .ok (.iaload, 1) := by decide +kernel
theorem dX1_ready_31 : decode cX1_ready 31 = .ok (.ifCond .ge 7, 3) := by decide +kernel
theorem dX1_ready_34 : decode cX1_ready 34 = .ok (.iconst 1, 1) := by decide +kernel
theorem dX1_ready_35 : decode cX1_ready 35 = .ok (.goto 4, 3) := by decide +kernel
theorem dX1_ready_38 : decode cX1_ready 38 = .ok (.iconst 0, 1) := by decide +kernel
theorem dX1_ready_39 : decode cX1_ready 39 = .ok (.istore 4, 2) := by decide +kernel
theorem dX1_ready_41 : decode cX1_ready 41 = .ok (.aload_n 0, 1) := by decide +kernel
theorem dX1_ready_42 : decode cX1_ready 42 = .ok (.getfield 9, 3) := by decide +kernel
theorem dX1_ready_45 : decode cX1_ready 45 = .ok (.bipush 19, 2) := by decide +kernel
theorem dX1_ready_47 : decode cX1_ready 47 = .ok (.iload_n 1, 1) := by decide +kernel
theorem dX1_ready_48 : decode cX1_ready 48 = .ok (.iadd, 1) := by decide +kernel
theorem dX1_ready_49 : decode cX1_ready 49 = .ok (.iaload, 1) := by decide +kernel
theorem dX1_ready_50 : decode cX1_ready 50 = .ok (.tableswitch 121 0 5 #[38, 59, 88, 111, 121, 111], 38) := by decide +kernel
theorem dX1_ready_88 : decode cX1_ready 88 = .ok (.iload_n 3, 1) := by decide +kernel
theorem dX1_ready_89 : decode cX1_ready 89 = .ok (.ifCond .le 7, 3) := by decide +kernel
theorem dX1_ready_92 : decode cX1_ready 92 = .ok (.iconst 1, 1) := by decide +kernel
theorem dX1_ready_93 : decode cX1_ready 93 = .ok (.goto 4, 3) := by decide +kernel
theorem dX1_ready_96 : decode cX1_ready 96 = .ok (.iconst 0, 1) := by decide +kernel
theorem dX1_ready_97 : decode cX1_ready 97 = .ok (.iload 4, 2) := by decide +kernel
theorem dX1_ready_99 : decode cX1_ready 99 = .ok (.ifCond .eq 7, 3) := by decide +kernel
theorem dX1_ready_102 : decode cX1_ready 102 = .ok (.iconst 4, 1) := by decide +kernel
theorem dX1_ready_103 : decode cX1_ready 103 = .ok (.goto 4, 3) := by decide +kernel
theorem dX1_ready_106 : decode cX1_ready 106 = .ok (.iconst 0, 1) := by decide +kernel
theorem dX1_ready_107 : decode cX1_ready 107 = .ok (.ior, 1) := by decide +kernel
theorem dX1_ready_108 : decode cX1_ready 108 = .ok (.ireturn, 1) := by decide +kernel
theorem dX1_ready_109 : decode cX1_ready 109 = .ok (.iload 4, 2) := by decide +kernel
theorem dX1_ready_111 : decode cX1_ready 111 = .ok (.ifCond .eq 8, 3) := by decide +kernel
theorem dX1_ready_114 : decode cX1_ready 114 = .ok (.bipush 8, 2) := by decide +kernel
theorem dX1_ready_116 : decode cX1_ready 116 = .ok (.goto 21, 3) := by decide +kernel
theorem dX1_ready_119 : decode cX1_ready 119 = .ok (.iload_n 3, 1) := by decide +kernel
theorem dX1_ready_120 : decode cX1_ready 120 = .ok (.aload_n 0, 1) := by decide +kernel
theorem dX1_ready_121 : decode cX1_ready 121 = .ok (.getfield 9, 3) := by decide +kernel
theorem dX1_ready_124 : decode cX1_ready 124 = .ok (.bipush 75, 2) := by decide +kernel
theorem dX1_ready_126 : decode cX1_ready 126 = .ok (.iload_n 1, 1) := by decide +kernel
theorem dX1_ready_127 : decode cX1_ready 127 = .ok (.iadd, 1) := by decide +kernel
theorem dX1_ready_128 : decode cX1_ready 128 = .ok (.iaload, 1) := by decide +kernel
theorem dX1_ready_129 : decode cX1_ready 129 = .ok (.if_icmp .ge 7, 3) := by decide +kernel
theorem dX1_ready_132 : decode cX1_ready 132 = .ok (.iconst 2, 1) := by decide +kernel
theorem dX1_ready_133 : decode cX1_ready 133 = .ok (.goto 4, 3) := by decide +kernel
theorem dX1_ready_136 : decode cX1_ready 136 = .ok (.iconst 0, 1) := by decide +kernel
theorem dX1_ready_137 : decode cX1_ready 137 = .ok (.ireturn, 1) := by decide +kernel
theorem dX1_ready_138 : decode cX1_ready 138 = .ok (.iload_n 3, 1) := by decide +kernel
theorem dX1_ready_139 : decode cX1_ready 139 = .ok (.ifCond .le 7, 3) := by decide +kernel
theorem dX1_ready_142 : decode cX1_ready 142 = .ok (.iconst 1, 1) := by decide +kernel
theorem dX1_ready_143 : decode cX1_ready 143 = .ok (.goto 4, 3) := by decide +kernel
theorem dX1_ready_146 : decode cX1_ready 146 = .ok (.iconst 0, 1) := by decide +kernel
theorem dX1_ready_147 : decode cX1_ready 147 = .ok (.iload_n 3, 1) := by decide +kernel
theorem dX1_ready_148 : decode cX1_ready 148 = .ok (.sipush 1000, 3) := by decide +kernel
theorem dX1_ready_151 : decode cX1_ready 151 = .ok (.if_icmp .ge 7, 3) := by decide +kernel
theorem dX1_ready_154 : decode cX1_ready 154 = .ok (.iconst 2, 1) := by decide +kernel
theorem dX1_ready_155 : decode cX1_ready 155 = .ok (.goto 4, 3) := by decide +kernel
theorem dX1_ready_158 : decode cX1_ready 158 = .ok (.iconst 0, 1) := by decide +kernel
theorem dX1_ready_159 : decode cX1_ready 159 = .ok (.ior, 1) := by decide +kernel
theorem dX1_ready_160 : decode cX1_ready 160 = .ok (.ireturn, 1) := by decide +kernel
theorem dX1_ready_161 : decode cX1_ready 161 = .ok (.iload_n 3, 1) := by decide +kernel
theorem dX1_ready_162 : decode cX1_ready 162 = .ok (.ifCond .le 7, 3) := by decide +kernel
theorem dX1_ready_165 : decode cX1_ready 165 = .ok (.iconst 1, 1) := by decide +kernel
theorem dX1_ready_166 : decode cX1_ready 166 = .ok (.goto 4, 3) := by decide +kernel
theorem dX1_ready_169 : decode cX1_ready 169 = .ok (.iconst 0, 1) := by decide +kernel
theorem dX1_ready_170 : decode cX1_ready 170 = .ok (.ireturn, 1) := by decide +kernel
theorem dX1_ready_171 : decode cX1_ready 171 = .ok (.aload_n 0, 1) := by decide +kernel
theorem dX1_ready_172 : decode cX1_ready 172 = .ok (.getfield 9, 3) := by decide +kernel
theorem dX1_ready_175 : decode cX1_ready 175 = .ok (.iconst 2, 1) := by decide +kernel
theorem dX1_ready_176 : decode cX1_ready 176 = .ok (.iaload, 1) := by decide +kernel
theorem dX1_ready_177 : decode cX1_ready 177 = .ok (.istore 5, 2) := by decide +kernel
theorem dX1_ready_179 : decode cX1_ready 179 = .ok (.iconst 0, 1) := by decide +kernel
theorem dX1_ready_180 : decode cX1_ready 180 = .ok (.istore 6, 2) := by decide +kernel
theorem dX1_ready_182 : decode cX1_ready 182 = .ok (.iload 6, 2) := by decide +kernel
theorem dX1_ready_184 : decode cX1_ready 184 = .ok (.iload 5, 2) := by decide +kernel
theorem dX1_ready_186 : decode cX1_ready 186 = .ok (.if_icmp .ge 96, 3) := by decide +kernel
theorem dX1_ready_189 : decode cX1_ready 189 = .ok (.aload_n 0, 1) := by decide +kernel
theorem dX1_ready_190 : decode cX1_ready 190 = .ok (.getfield 9, 3) := by decide +kernel
theorem dX1_ready_193 : decode cX1_ready 193 = .ok (.sipush 299, 3) := by decide +kernel
theorem dX1_ready_196 : decode cX1_ready 196 = .ok (.iload 6, 2) := by decide +kernel
theorem dX1_ready_198 : decode cX1_ready 198 = .ok (.iadd, 1) := by decide +kernel
theorem dX1_ready_199 : decode cX1_ready 199 = .ok (.iaload, 1) := by decide +kernel
theorem dX1_ready_200 : decode cX1_ready 200 = .ok (.iload_n 1, 1) := by decide +kernel
theorem dX1_ready_201 : decode cX1_ready 201 = .ok (.if_icmp .ne 75, 3) := by decide +kernel
theorem dX1_ready_204 : decode cX1_ready 204 = .ok (.aload_n 0, 1) := by decide +kernel
theorem dX1_ready_205 : decode cX1_ready 205 = .ok (.getfield 9, 3) := by decide +kernel
theorem dX1_ready_208 : decode cX1_ready 208 = .ok (.sipush 443, 3) := by decide +kernel
theorem dX1_ready_211 : decode cX1_ready 211 = .ok (.iload 6, 2) := by decide +kernel
theorem dX1_ready_213 : decode cX1_ready 213 = .ok (.iadd, 1) := by decide +kernel
theorem dX1_ready_214 : decode cX1_ready 214 = .ok (.iaload, 1) := by decide +kernel
theorem dX1_ready_215 : decode cX1_ready 215 = .ok (.ifCond .lt 61, 3) := by decide +kernel
theorem dX1_ready_218 : decode cX1_ready 218 = .ok (.aload_n 0, 1) := by decide +kernel
theorem dX1_ready_219 : decode cX1_ready 219 = .ok (.getfield 9, 3) := by decide +kernel
theorem dX1_ready_222 : decode cX1_ready 222 = .ok (.sipush 419, 3) := by decide +kernel
theorem dX1_ready_225 : decode cX1_ready 225 = .ok (.iload 6, 2) := by decide +kernel
theorem dX1_ready_227 : decode cX1_ready 227 = .ok (.iadd, 1) := by decide +kernel
theorem dX1_ready_228 : decode cX1_ready 228 = .ok (.iaload, 1) := by decide +kernel
theorem dX1_ready_229 : decode cX1_ready 229 = .ok (.ifCond .eq 47, 3) := by decide +kernel
theorem dX1_ready_232 : decode cX1_ready 232 = .ok (.aload_n 0, 1) := by decide +kernel
theorem dX1_ready_233 : decode cX1_ready 233 = .ok (.getfield 9, 3) := by decide +kernel
theorem dX1_ready_236 : decode cX1_ready 236 = .ok (.sipush 371, 3) := by decide +kernel
theorem dX1_ready_239 : decode cX1_ready 239 = .ok (.iload 6, 2) := by decide +kernel
theorem dX1_ready_241 : decode cX1_ready 241 = .ok (.iadd, 1) := by decide +kernel
theorem dX1_ready_242 : decode cX1_ready 242 = .ok (.iaload, 1) := by decide +kernel
theorem dX1_ready_243 : decode cX1_ready 243 = .ok (.iconst 4, 1) := by decide +kernel
theorem dX1_ready_244 : decode cX1_ready 244 = .ok (.ior, 1) := by decide +kernel
theorem dX1_ready_245 : decode cX1_ready 245 = .ok (.bipush 8, 2) := by decide +kernel
theorem dX1_ready_247 : decode cX1_ready 247 = .ok (.ior, 1) := by decide +kernel
theorem dX1_ready_248 : decode cX1_ready 248 = .ok (.istore 7, 2) := by decide +kernel
theorem dX1_ready_250 : decode cX1_ready 250 = .ok (.iload 7, 2) := by decide +kernel
theorem dX1_ready_252 : decode cX1_ready 252 = .ok (.aload_n 0, 1) := by decide +kernel
theorem dX1_ready_253 : decode cX1_ready 253 = .ok (.aload_n 0, 1) := by decide +kernel
theorem dX1_ready_254 : decode cX1_ready 254 = .ok (.getfield 9, 3) := by decide +kernel
theorem dX1_ready_257 : decode cX1_ready 257 = .ok (.sipush 323, 3) := by decide +kernel
theorem dX1_ready_260 : decode cX1_ready 260 = .ok (.iload 6, 2) := by decide +kernel
theorem dX1_ready_262 : decode cX1_ready 262 = .ok (.iadd, 1) := by decide +kernel
theorem dX1_ready_263 : decode cX1_ready 263 = .ok (.iaload, 1) := by decide +kernel
theorem dX1_ready_264 : decode cX1_ready 264 = .ok (.iload_n 2, 1) := by decide +kernel
theorem dX1_ready_265 : decode cX1_ready 265 = .ok (.iconst 1, 1) := by decide +kernel
theorem dX1_ready_266 : decode cX1_ready 266 = .ok (.iadd, 1) := by decide +kernel
theorem dX1_ready_267 : decode cX1_ready 267 = .ok (.invokevirtual 33, 3) := by decide +kernel
theorem dX1_ready_270 : decode cX1_ready 270 = .ok (.iand, 1) := by decide +kernel
theorem dX1_ready_271 : decode cX1_ready 271 = .ok (.ifCond .eq 5, 3) := by decide +kernel
theorem dX1_ready_274 : decode cX1_ready 274 = .ok (.iconst 1, 1) := by decide +kernel
theorem dX1_ready_275 : decode cX1_ready 275 = .ok (.ireturn, 1) := by decide +kernel
theorem dX1_ready_276 : decode cX1_ready 276 = .ok (.iinc 6 1, 3) := by decide +kernel
theorem dX1_ready_279 : decode cX1_ready 279 = .ok (.goto (-97), 3) := by decide +kernel
theorem dX1_ready_282 : decode cX1_ready 282 = .ok (.iconst 0, 1) := by decide +kernel
theorem dX1_ready_283 : decode cX1_ready 283 = .ok (.ireturn, 1) := by decide +kernel
theorem dX1_putOnList_0 : decode cX1_putOnList 0 = .ok (.aload_n 0, 1) := by decide +kernel
theorem dX1_putOnList_1 : decode cX1_putOnList 1 = .ok (.getfield 9, 3) := by decide +kernel
theorem dX1_putOnList_4 : decode cX1_putOnList 4 = .ok (.sipush 443, 3) := by decide +kernel
theorem dX1_putOnList_7 : decode cX1_putOnList 7 = .ok (.iload_n 1, 1) := by decide +kernel
theorem dX1_putOnList_8 : decode cX1_putOnList 8 = .ok (.iadd, 1) := by decide +kernel
theorem dX1_putOnList_9 : decode cX1_putOnList 9 = .ok (.iaload, 1) := by decide +kernel
theorem dX1_putOnList_10 : decode cX1_putOnList 10 = .ok (.ifCond .ge 35, 3) := by decide +kernel
theorem dX1_putOnList_13 : decode cX1_putOnList 13 = .ok (.aload_n 0, 1) := by decide +kernel
theorem dX1_putOnList_14 : decode cX1_putOnList 14 = .ok (.getfield 9, 3) := by decide +kernel
theorem dX1_putOnList_17 : decode cX1_putOnList 17 = .ok (.sipush 443, 3) := by decide +kernel
theorem dX1_putOnList_20 : decode cX1_putOnList 20 = .ok (.iload_n 1, 1) := by decide +kernel
theorem dX1_putOnList_21 : decode cX1_putOnList 21 = .ok (.iadd, 1) := by decide +kernel
theorem dX1_putOnList_22 : decode cX1_putOnList 22 = .ok (.aload_n 0, 1) := by decide +kernel
theorem dX1_putOnList_23 : decode cX1_putOnList 23 = .ok (.getfield 9, 3) := by decide +kernel
theorem dX1_putOnList_26 : decode cX1_putOnList 26 = .ok (.iconst 1, 1) := by decide +kernel
theorem dX1_putOnList_27 : decode cX1_putOnList 27 = .ok (.dup2, 1) := by decide +kernel
theorem dX1_putOnList_28 : decode cX1_putOnList 28 = .ok (.iaload, 1) := by decide +kernel
theorem dX1_putOnList_29 : decode cX1_putOnList 29 = .ok (.dup_x2, 1) := by decide +kernel
theorem dX1_putOnList_30 : decode cX1_putOnList 30 = .ok (.iconst 1, 1) := by decide +kernel
theorem dX1_putOnList_31 : decode cX1_putOnList 31 = .ok (.iadd, 1) := by decide +kernel
theorem dX1_putOnList_32 : decode cX1_putOnList 32 = .ok (.iastore, 1) := by decide +kernel
theorem dX1_putOnList_33 : decode cX1_putOnList 33 = .ok (.iastore, 1) := by decide +kernel
theorem dX1_putOnList_34 : decode cX1_putOnList 34 = .ok (.aload_n 0, 1) := by decide +kernel
theorem dX1_putOnList_35 : decode cX1_putOnList 35 = .ok (.getfield 9, 3) := by decide +kernel
theorem dX1_putOnList_38 : decode cX1_putOnList 38 = .ok (.sipush 515, 3) := by decide +kernel
theorem dX1_putOnList_41 : decode cX1_putOnList 41 = .ok (.iload_n 1, 1) := by decide +kernel
theorem dX1_putOnList_42 : decode cX1_putOnList 42 = .ok (.iadd, 1) := by decide +kernel
theorem dX1_putOnList_43 : decode cX1_putOnList 43 = .ok (.iconst 0, 1) := by decide +kernel
theorem dX1_putOnList_44 : decode cX1_putOnList 44 = .ok (.iastore, 1) := by decide +kernel
theorem dX1_putOnList_45 : decode cX1_putOnList 45 = .ok (.return_, 1) := by decide +kernel
theorem dX1_takeOffList_0 : decode cX1_takeOffList 0 = .ok (.aload_n 0, 1) := by decide +kernel
theorem dX1_takeOffList_1 : decode cX1_takeOffList 1 = .ok (.getfield 9, 3) := by decide +kernel
theorem dX1_takeOffList_4 : decode cX1_takeOffList 4 = .ok (.sipush 443, 3) := by decide +kernel
theorem dX1_takeOffList_7 : decode cX1_takeOffList 7 = .ok (.iload_n 1, 1) := by decide +kernel
theorem dX1_takeOffList_8 : decode cX1_takeOffList 8 = .ok (.iadd, 1) := by decide +kernel
theorem dX1_takeOffList_9 : decode cX1_takeOffList 9 = .ok (.iconst (-1), 1) := by decide +kernel
theorem dX1_takeOffList_10 : decode cX1_takeOffList 10 = .ok (.iastore, 1) := by decide +kernel
theorem dX1_takeOffList_11 : decode cX1_takeOffList 11 = .ok (.aload_n 0, 1) := by decide +kernel
theorem dX1_takeOffList_12 : decode cX1_takeOffList 12 = .ok (.getfield 9, 3) := by decide +kernel
theorem dX1_takeOffList_15 : decode cX1_takeOffList 15 = .ok (.sipush 515, 3) := by decide +kernel
theorem dX1_takeOffList_18 : decode cX1_takeOffList 18 = .ok (.iload_n 1, 1) := by decide +kernel
theorem dX1_takeOffList_19 : decode cX1_takeOffList 19 = .ok (.iadd, 1) := by decide +kernel
theorem dX1_takeOffList_20 : decode cX1_takeOffList 20 = .ok (.iconst 0, 1) := by decide +kernel
theorem dX1_takeOffList_21 : decode cX1_takeOffList 21 = .ok (.iastore, 1) := by decide +kernel
theorem dX1_takeOffList_22 : decode cX1_takeOffList 22 = .ok (.return_, 1) := by decide +kernel
theorem dX1_firstListed_0 : decode cX1_firstListed 0 = .ok (.aload_n 0, 1) := by decide +kernel
theorem dX1_firstListed_1 : decode cX1_firstListed 1 = .ok (.getfield 9, 3) := by decide +kernel
theorem dX1_firstListed_4 : decode cX1_firstListed 4 = .ok (.iconst 2, 1) := by decide +kernel
theorem dX1_firstListed_5 : decode cX1_firstListed 5 = .ok (.iaload, 1) := by decide +kernel
theorem dX1_firstListed_6 : decode cX1_firstListed 6 = .ok (.istore_n 2, 1) := by decide +kernel
theorem dX1_firstListed_7 : decode cX1_firstListed 7 = .ok (.iconst (-1), 1) := by decide +kernel
theorem dX1_firstListed_8 : decode cX1_firstListed 8 = .ok (.istore_n 3, 1) := by decide +kernel
theorem dX1_firstListed_9 : decode cX1_firstListed 9 = .ok (.iconst 0, 1) := by decide +kernel
theorem dX1_firstListed_10 : decode cX1_firstListed 10 = .ok (.istore 4, 2) := by decide +kernel
theorem dX1_firstListed_12 : decode cX1_firstListed 12 = .ok (.iload 4, 2) := by decide +kernel
theorem dX1_firstListed_14 : decode cX1_firstListed 14 = .ok (.iload_n 2, 1) := by decide +kernel
theorem dX1_firstListed_15 : decode cX1_firstListed 15 = .ok (.if_icmp .ge 69, 3) := by decide +kernel
theorem dX1_firstListed_18 : decode cX1_firstListed 18 = .ok (.aload_n 0, 1) := by decide +kernel
theorem dX1_firstListed_19 : decode cX1_firstListed 19 = .ok (.getfield 9, 3) := by decide +kernel
theorem dX1_firstListed_22 : decode cX1_firstListed 22 = .ok (.sipush 299, 3) := by decide +kernel
theorem dX1_firstListed_25 : decode cX1_firstListed 25 = .ok (.iload 4, 2) := by decide +kernel
theorem dX1_firstListed_27 : decode cX1_firstListed 27 = .ok (.iadd, 1) := by decide +kernel
theorem dX1_firstListed_28 : decode cX1_firstListed 28 = .ok (.iaload, 1) := by decide +kernel
theorem dX1_firstListed_29 : decode cX1_firstListed 29 = .ok (.iload_n 1, 1) := by decide +kernel
theorem dX1_firstListed_30 : decode cX1_firstListed 30 = .ok (.if_icmp .ne 48, 3) := by decide +kernel
theorem dX1_firstListed_33 : decode cX1_firstListed 33 = .ok (.aload_n 0, 1) := by decide +kernel
theorem dX1_firstListed_34 : decode cX1_firstListed 34 = .ok (.getfield 9, 3) := by decide +kernel
theorem dX1_firstListed_37 : decode cX1_firstListed 37 = .ok (.sipush 443, 3) := by decide +kernel
theorem dX1_firstListed_40 : decode cX1_firstListed 40 = .ok (.iload 4, 2) := by decide +kernel
theorem dX1_firstListed_42 : decode cX1_firstListed 42 = .ok (.iadd, 1) := by decide +kernel
theorem dX1_firstListed_43 : decode cX1_firstListed 43 = .ok (.iaload, 1) := by decide +kernel
theorem dX1_firstListed_44 : decode cX1_firstListed 44 = .ok (.ifCond .lt 34, 3) := by decide +kernel
theorem dX1_firstListed_47 : decode cX1_firstListed 47 = .ok (.iload_n 3, 1) := by decide +kernel
theorem dX1_firstListed_48 : decode cX1_firstListed 48 = .ok (.ifCond .lt 27, 3) := by decide +kernel
theorem dX1_firstListed_51 : decode cX1_firstListed 51 = .ok (.aload_n 0, 1) := by decide +kernel
theorem dX1_firstListed_52 : decode cX1_firstListed 52 = .ok (.getfield 9, 3) := by decide +kernel
theorem dX1_firstListed_55 : decode cX1_firstListed 55 = .ok (.sipush 443, 3) := by decide +kernel
theorem dX1_firstListed_58 : decode cX1_firstListed 58 = .ok (.iload 4, 2) := by decide +kernel
theorem dX1_firstListed_60 : decode cX1_firstListed 60 = .ok (.iadd, 1) := by decide +kernel
theorem dX1_firstListed_61 : decode cX1_firstListed 61 = .ok (.iaload, 1) := by decide +kernel
theorem dX1_firstListed_62 : decode cX1_firstListed 62 = .ok (.aload_n 0, 1) := by decide +kernel
theorem dX1_firstListed_63 : decode cX1_firstListed 63 = .ok (.getfield 9, 3) := by decide +kernel
theorem dX1_firstListed_66 : decode cX1_firstListed 66 = .ok (.sipush 443, 3) := by decide +kernel
theorem dX1_firstListed_69 : decode cX1_firstListed 69 = .ok (.iload_n 3, 1) := by decide +kernel
theorem dX1_firstListed_70 : decode cX1_firstListed 70 = .ok (.iadd, 1) := by decide +kernel
theorem dX1_firstListed_71 : decode cX1_firstListed 71 = .ok (.iaload, 1) := by decide +kernel
theorem dX1_firstListed_72 : decode cX1_firstListed 72 = .ok (.if_icmp .ge 6, 3) := by decide +kernel
theorem dX1_firstListed_75 : decode cX1_firstListed 75 = .ok (.iload 4, 2) := by decide +kernel
theorem dX1_firstListed_77 : decode cX1_firstListed 77 = .ok (.istore_n 3, 1) := by decide +kernel
theorem dX1_firstListed_78 : decode cX1_firstListed 78 = .ok (.iinc 4 1, 3) := by decide +kernel
theorem dX1_firstListed_81 : decode cX1_firstListed 81 = .ok (.goto (-69), 3) := by decide +kernel
theorem dX1_firstListed_84 : decode cX1_firstListed 84 = .ok (.iload_n 3, 1) := by decide +kernel
theorem dX1_firstListed_85 : decode cX1_firstListed 85 = .ok (.ireturn, 1) := by decide +kernel
theorem dX1_placeOf_0 : decode cX1_placeOf 0 = .ok (.aload_n 0, 1) := by decide +kernel
theorem dX1_placeOf_1 : decode cX1_placeOf 1 = .ok (.getfield 9, 3) := by decide +kernel
theorem dX1_placeOf_4 : decode cX1_placeOf 4 = .ok (.sipush 443, 3) := by decide +kernel
theorem dX1_placeOf_7 : decode cX1_placeOf 7 = .ok (.iload_n 1, 1) := by decide +kernel
theorem dX1_placeOf_8 : decode cX1_placeOf 8 = .ok (.iadd, 1) := by decide +kernel
theorem dX1_placeOf_9 : decode cX1_placeOf 9 = .ok (.iaload, 1) := by decide +kernel
theorem dX1_placeOf_10 : decode cX1_placeOf 10 = .ok (.ifCond .ge 7, 3) := by decide +kernel
theorem dX1_placeOf_13 : decode cX1_placeOf 13 = .ok (.iconst (-1), 1) := by decide +kernel
theorem dX1_placeOf_14 : decode cX1_placeOf 14 = .ok (.goto 9, 3) := by decide +kernel
theorem dX1_placeOf_17 : decode cX1_placeOf 17 = .ok (.aload_n 0, 1) := by decide +kernel
theorem dX1_placeOf_18 : decode cX1_placeOf 18 = .ok (.iload_n 1, 1) := by decide +kernel
theorem dX1_placeOf_19 : decode cX1_placeOf 19 = .ok (.iconst 0, 1) := by decide +kernel
theorem dX1_placeOf_20 : decode cX1_placeOf 20 = .ok (.invokevirtual 36, 3) := by decide +kernel
theorem dX1_placeOf_23 : decode cX1_placeOf 23 = .ok (.ireturn, 1) := by decide +kernel
theorem dX1_aheadOf_0 : decode cX1_aheadOf 0 = .ok (.aload_n 0, 1) := by decide +kernel
theorem dX1_aheadOf_1 : decode cX1_aheadOf 1 = .ok (.getfield 9, 3) := by decide +kernel
theorem dX1_aheadOf_4 : decode cX1_aheadOf 4 = .ok (.iconst 2, 1) := by decide +kernel
theorem dX1_aheadOf_5 : decode cX1_aheadOf 5 = .ok (.iaload, 1) := by decide +kernel
theorem dX1_aheadOf_6 : decode cX1_aheadOf 6 = .ok (.istore_n 3, 1) := by decide +kernel
theorem dX1_aheadOf_7 : decode cX1_aheadOf 7 = .ok (.iconst 0, 1) := by decide +kernel
theorem dX1_aheadOf_8 : decode cX1_aheadOf 8 = .ok (.istore 4, 2) := by decide +kernel
theorem dX1_aheadOf_10 : decode cX1_aheadOf 10 = .ok (.iconst 0, 1) := by decide +kernel
theorem dX1_aheadOf_11 : decode cX1_aheadOf 11 = .ok (.istore 5, 2) := by decide +kernel
theorem dX1_aheadOf_13 : decode cX1_aheadOf 13 = .ok (.iload 5, 2) := by decide +kernel
theorem dX1_aheadOf_15 : decode cX1_aheadOf 15 = .ok (.iload_n 3, 1) := by decide +kernel
theorem dX1_aheadOf_16 : decode cX1_aheadOf 16 = .ok (.if_icmp .ge 99, 3) := by decide +kernel
theorem dX1_aheadOf_19 : decode cX1_aheadOf 19 = .ok (.aload_n 0, 1) := by decide +kernel
theorem dX1_aheadOf_20 : decode cX1_aheadOf 20 = .ok (.getfield 9, 3) := by decide +kernel
theorem dX1_aheadOf_23 : decode cX1_aheadOf 23 = .ok (.sipush 299, 3) := by decide +kernel
theorem dX1_aheadOf_26 : decode cX1_aheadOf 26 = .ok (.iload 5, 2) := by decide +kernel
theorem dX1_aheadOf_28 : decode cX1_aheadOf 28 = .ok (.iadd, 1) := by decide +kernel
theorem dX1_aheadOf_29 : decode cX1_aheadOf 29 = .ok (.iaload, 1) := by decide +kernel
theorem dX1_aheadOf_30 : decode cX1_aheadOf 30 = .ok (.aload_n 0, 1) := by decide +kernel
theorem dX1_aheadOf_31 : decode cX1_aheadOf 31 = .ok (.getfield 9, 3) := by decide +kernel
theorem dX1_aheadOf_34 : decode cX1_aheadOf 34 = .ok (.sipush 299, 3) := by decide +kernel
theorem dX1_aheadOf_37 : decode cX1_aheadOf 37 = .ok (.iload_n 1, 1) := by decide +kernel
theorem dX1_aheadOf_38 : decode cX1_aheadOf 38 = .ok (.iadd, 1) := by decide +kernel
theorem dX1_aheadOf_39 : decode cX1_aheadOf 39 = .ok (.iaload, 1) := by decide +kernel
theorem dX1_aheadOf_40 : decode cX1_aheadOf 40 = .ok (.if_icmp .ne 45, 3) := by decide +kernel
theorem dX1_aheadOf_43 : decode cX1_aheadOf 43 = .ok (.aload_n 0, 1) := by decide +kernel
theorem dX1_aheadOf_44 : decode cX1_aheadOf 44 = .ok (.getfield 9, 3) := by decide +kernel
theorem dX1_aheadOf_47 : decode cX1_aheadOf 47 = .ok (.sipush 443, 3) := by decide +kernel
theorem dX1_aheadOf_50 : decode cX1_aheadOf 50 = .ok (.iload 5, 2) := by decide +kernel
theorem dX1_aheadOf_52 : decode cX1_aheadOf 52 = .ok (.iadd, 1) := by decide +kernel
theorem dX1_aheadOf_53 : decode cX1_aheadOf 53 = .ok (.iaload, 1) := by decide +kernel
theorem dX1_aheadOf_54 : decode cX1_aheadOf 54 = .ok (.ifCond .lt 31, 3) := by decide +kernel
theorem dX1_aheadOf_57 : decode cX1_aheadOf 57 = .ok (.aload_n 0, 1) := by decide +kernel
theorem dX1_aheadOf_58 : decode cX1_aheadOf 58 = .ok (.getfield 9, 3) := by decide +kernel
theorem dX1_aheadOf_61 : decode cX1_aheadOf 61 = .ok (.sipush 443, 3) := by decide +kernel
theorem dX1_aheadOf_64 : decode cX1_aheadOf 64 = .ok (.iload 5, 2) := by decide +kernel
theorem dX1_aheadOf_66 : decode cX1_aheadOf 66 = .ok (.iadd, 1) := by decide +kernel
theorem dX1_aheadOf_67 : decode cX1_aheadOf 67 = .ok (.iaload, 1) := by decide +kernel
theorem dX1_aheadOf_68 : decode cX1_aheadOf 68 = .ok (.aload_n 0, 1) := by decide +kernel
theorem dX1_aheadOf_69 : decode cX1_aheadOf 69 = .ok (.getfield 9, 3) := by decide +kernel
theorem dX1_aheadOf_72 : decode cX1_aheadOf 72 = .ok (.sipush 443, 3) := by decide +kernel
theorem dX1_aheadOf_75 : decode cX1_aheadOf 75 = .ok (.iload_n 1, 1) := by decide +kernel
theorem dX1_aheadOf_76 : decode cX1_aheadOf 76 = .ok (.iadd, 1) := by decide +kernel
theorem dX1_aheadOf_77 : decode cX1_aheadOf 77 = .ok (.iaload, 1) := by decide +kernel
theorem dX1_aheadOf_78 : decode cX1_aheadOf 78 = .ok (.if_icmp .ge 7, 3) := by decide +kernel
theorem dX1_aheadOf_81 : decode cX1_aheadOf 81 = .ok (.iconst 1, 1) := by decide +kernel
theorem dX1_aheadOf_82 : decode cX1_aheadOf 82 = .ok (.goto 4, 3) := by decide +kernel
theorem dX1_aheadOf_85 : decode cX1_aheadOf 85 = .ok (.iconst 0, 1) := by decide +kernel
theorem dX1_aheadOf_86 : decode cX1_aheadOf 86 = .ok (.istore 6, 2) := by decide +kernel
theorem dX1_aheadOf_88 : decode cX1_aheadOf 88 = .ok (.iload 6, 2) := by decide +kernel
theorem dX1_aheadOf_90 : decode cX1_aheadOf 90 = .ok (.ifCond .eq 19, 3) := by decide +kernel
theorem dX1_aheadOf_93 : decode cX1_aheadOf 93 = .ok (.iload_n 2, 1) := by decide +kernel
theorem dX1_aheadOf_94 : decode cX1_aheadOf 94 = .ok (.ifCond .eq 12, 3) := by decide +kernel
theorem dX1_aheadOf_97 : decode cX1_aheadOf 97 = .ok (.aload_n 0, 1) := by decide +kernel
theorem dX1_aheadOf_98 : decode cX1_aheadOf 98 = .ok (.iload 5, 2) := by decide +kernel
theorem dX1_aheadOf_100 : decode cX1_aheadOf 100 = .ok (.invokevirtual 40, 3) := by decide +kernel
theorem dX1_aheadOf_103 : decode cX1_aheadOf 103 = .ok (.ifCond .eq 6, 3) := by decide +kernel
theorem dX1_aheadOf_106 : decode cX1_aheadOf 106 = .ok (.iinc 4 1, 3) := by decide +kernel
theorem dX1_aheadOf_109 : decode cX1_aheadOf 109 = .ok (.iinc 5 1, 3) := by decide +kernel
theorem dX1_aheadOf_112 : decode cX1_aheadOf 112 = .ok (.goto (-99), 3) := by decide +kernel
theorem dX1_aheadOf_115 : decode cX1_aheadOf 115 = .ok (.iload 4, 2) := by decide +kernel
theorem dX1_aheadOf_117 : decode cX1_aheadOf 117 = .ok (.ireturn, 1) := by decide +kernel
theorem dX1_listedBy_0 : decode cX1_listedBy 0 = .ok (.aload_n 0, 1) := by decide +kernel
theorem dX1_listedBy_1 : decode cX1_listedBy 1 = .ok (.getfield 9, 3) := by decide +kernel
theorem dX1_listedBy_4 : decode cX1_listedBy 4 = .ok (.iconst 2, 1) := by decide +kernel
theorem dX1_listedBy_5 : decode cX1_listedBy 5 = .ok (.iaload, 1) := by decide +kernel
theorem dX1_listedBy_6 : decode cX1_listedBy 6 = .ok (.istore_n 2, 1) := by decide +kernel
theorem dX1_listedBy_7 : decode cX1_listedBy 7 = .ok (.iconst 0, 1) := by decide +kernel
theorem dX1_listedBy_8 : decode cX1_listedBy 8 = .ok (.istore_n 3, 1) := by decide +kernel
theorem dX1_listedBy_9 : decode cX1_listedBy 9 = .ok (.iconst 0, 1) := by decide +kernel
theorem dX1_listedBy_10 : decode cX1_listedBy 10 = .ok (.istore 4, 2) := by decide +kernel
theorem dX1_listedBy_12 : decode cX1_listedBy 12 = .ok (.iload 4, 2) := by decide +kernel
theorem dX1_listedBy_14 : decode cX1_listedBy 14 = .ok (.iload_n 2, 1) := by decide +kernel
theorem dX1_listedBy_15 : decode cX1_listedBy 15 = .ok (.if_icmp .ge 41, 3) := by decide +kernel
theorem dX1_listedBy_18 : decode cX1_listedBy 18 = .ok (.aload_n 0, 1) := by decide +kernel
theorem dX1_listedBy_19 : decode cX1_listedBy 19 = .ok (.getfield 9, 3) := by decide +kernel
theorem dX1_listedBy_22 : decode cX1_listedBy 22 = .ok (.sipush 299, 3) := by decide +kernel
theorem dX1_listedBy_25 : decode cX1_listedBy 25 = .ok (.iload 4, 2) := by decide +kernel
theorem dX1_listedBy_27 : decode cX1_listedBy 27 = .ok (.iadd, 1) := by decide +kernel
theorem dX1_listedBy_28 : decode cX1_listedBy 28 = .ok (.iaload, 1) := by decide +kernel
theorem dX1_listedBy_29 : decode cX1_listedBy 29 = .ok (.iload_n 1, 1) := by decide +kernel
theorem dX1_listedBy_30 : decode cX1_listedBy 30 = .ok (.if_icmp .ne 20, 3) := by decide +kernel
theorem dX1_listedBy_33 : decode cX1_listedBy 33 = .ok (.aload_n 0, 1) := by decide +kernel
theorem dX1_listedBy_34 : decode cX1_listedBy 34 = .ok (.getfield 9, 3) := by decide +kernel
theorem dX1_listedBy_37 : decode cX1_listedBy 37 = .ok (.sipush 443, 3) := by decide +kernel
theorem dX1_listedBy_40 : decode cX1_listedBy 40 = .ok (.iload 4, 2) := by decide +kernel
theorem dX1_listedBy_42 : decode cX1_listedBy 42 = .ok (.iadd, 1) := by decide +kernel
theorem dX1_listedBy_43 : decode cX1_listedBy 43 = .ok (.iaload, 1) := by decide +kernel
theorem dX1_listedBy_44 : decode cX1_listedBy 44 = .ok (.ifCond .lt 6, 3) := by decide +kernel
theorem dX1_listedBy_47 : decode cX1_listedBy 47 = .ok (.iinc 3 1, 3) := by decide +kernel
theorem dX1_listedBy_50 : decode cX1_listedBy 50 = .ok (.iinc 4 1, 3) := by decide +kernel
theorem dX1_listedBy_53 : decode cX1_listedBy 53 = .ok (.goto (-41), 3) := by decide +kernel
theorem dX1_listedBy_56 : decode cX1_listedBy 56 = .ok (.iload_n 3, 1) := by decide +kernel
theorem dX1_listedBy_57 : decode cX1_listedBy 57 = .ok (.ireturn, 1) := by decide +kernel
theorem dX1_isShown_0 : decode cX1_isShown 0 = .ok (.aload_n 0, 1) := by decide +kernel
theorem dX1_isShown_1 : decode cX1_isShown 1 = .ok (.getfield 9, 3) := by decide +kernel
theorem dX1_isShown_4 : decode cX1_isShown 4 = .ok (.sipush 299, 3) := by decide +kernel
theorem dX1_isShown_7 : decode cX1_isShown 7 = .ok (.iload_n 1, 1) := by decide +kernel
theorem dX1_isShown_8 : decode cX1_isShown 8 = .ok (.iadd, 1) := by decide +kernel
theorem dX1_isShown_9 : decode cX1_isShown 9 = .ok (.iaload, 1) := by decide +kernel
theorem dX1_isShown_10 : decode cX1_isShown 10 = .ok (.iload_n 2, 1) := by decide +kernel
theorem dX1_isShown_11 : decode cX1_isShown 11 = .ok (.if_icmp .ne 28, 3) := by decide +kernel
theorem dX1_isShown_14 : decode cX1_isShown 14 = .ok (.aload_n 0, 1) := by decide +kernel
theorem dX1_isShown_15 : decode cX1_isShown 15 = .ok (.getfield 9, 3) := by decide +kernel
theorem dX1_isShown_18 : decode cX1_isShown 18 = .ok (.sipush 443, 3) := by decide +kernel
theorem dX1_isShown_21 : decode cX1_isShown 21 = .ok (.iload_n 1, 1) := by decide +kernel
theorem dX1_isShown_22 : decode cX1_isShown 22 = .ok (.iadd, 1) := by decide +kernel
theorem dX1_isShown_23 : decode cX1_isShown 23 = .ok (.iaload, 1) := by decide +kernel
theorem dX1_isShown_24 : decode cX1_isShown 24 = .ok (.ifCond .lt 15, 3) := by decide +kernel
theorem dX1_isShown_27 : decode cX1_isShown 27 = .ok (.aload_n 0, 1) := by decide +kernel
theorem dX1_isShown_28 : decode cX1_isShown 28 = .ok (.iload_n 1, 1) := by decide +kernel
theorem dX1_isShown_29 : decode cX1_isShown 29 = .ok (.invokevirtual 40, 3) := by decide +kernel
theorem dX1_isShown_32 : decode cX1_isShown 32 = .ok (.ifCond .eq 7, 3) := by decide +kernel
theorem dX1_isShown_35 : decode cX1_isShown 35 = .ok (.iconst 1, 1) := by decide +kernel
theorem dX1_isShown_36 : decode cX1_isShown 36 = .ok (.goto 4, 3) := by decide +kernel
theorem dX1_isShown_39 : decode cX1_isShown 39 = .ok (.iconst 0, 1) := by decide +kernel
theorem dX1_isShown_40 : decode cX1_isShown 40 = .ok (.ireturn, 1) := by decide +kernel
theorem dX1_shownBy_0 : decode cX1_shownBy 0 = .ok (.aload_n 0, 1) := by decide +kernel
theorem dX1_shownBy_1 : decode cX1_shownBy 1 = .ok (.getfield 9, 3) := by decide +kernel
theorem dX1_shownBy_4 : decode cX1_shownBy 4 = .ok (.iconst 2, 1) := by decide +kernel
theorem dX1_shownBy_5 : decode cX1_shownBy 5 = .ok (.iaload, 1) := by decide +kernel
theorem dX1_shownBy_6 : decode cX1_shownBy 6 = .ok (.istore_n 2, 1) := by decide +kernel
theorem dX1_shownBy_7 : decode cX1_shownBy 7 = .ok (.iconst 0, 1) := by decide +kernel
theorem dX1_shownBy_8 : decode cX1_shownBy 8 = .ok (.istore_n 3, 1) := by decide +kernel
theorem dX1_shownBy_9 : decode cX1_shownBy 9 = .ok (.iconst 0, 1) := by decide +kernel
theorem dX1_shownBy_10 : decode cX1_shownBy 10 = .ok (.istore 4, 2) := by decide +kernel
theorem dX1_shownBy_12 : decode cX1_shownBy 12 = .ok (.iload 4, 2) := by decide +kernel
theorem dX1_shownBy_14 : decode cX1_shownBy 14 = .ok (.iload_n 2, 1) := by decide +kernel
theorem dX1_shownBy_15 : decode cX1_shownBy 15 = .ok (.if_icmp .ge 22, 3) := by decide +kernel
theorem dX1_shownBy_18 : decode cX1_shownBy 18 = .ok (.aload_n 0, 1) := by decide +kernel
theorem dX1_shownBy_19 : decode cX1_shownBy 19 = .ok (.iload 4, 2) := by decide +kernel
theorem dX1_shownBy_21 : decode cX1_shownBy 21 = .ok (.iload_n 1, 1) := by decide +kernel
theorem dX1_shownBy_22 : decode cX1_shownBy 22 = .ok (.invokevirtual 43, 3) := by decide +kernel
theorem dX1_shownBy_25 : decode cX1_shownBy 25 = .ok (.ifCond .eq 6, 3) := by decide +kernel
theorem dX1_shownBy_28 : decode cX1_shownBy 28 = .ok (.iinc 3 1, 3) := by decide +kernel
theorem dX1_shownBy_31 : decode cX1_shownBy 31 = .ok (.iinc 4 1, 3) := by decide +kernel
theorem dX1_shownBy_34 : decode cX1_shownBy 34 = .ok (.goto (-22), 3) := by decide +kernel
theorem dX1_shownBy_37 : decode cX1_shownBy 37 = .ok (.iload_n 3, 1) := by decide +kernel
theorem dX1_shownBy_38 : decode cX1_shownBy 38 = .ok (.ireturn, 1) := by decide +kernel
theorem dX1_showing_0 : decode cX1_showing 0 = .ok (.aload_n 0, 1) := by decide +kernel
theorem dX1_showing_1 : decode cX1_showing 1 = .ok (.getfield 9, 3) := by decide +kernel
theorem dX1_showing_4 : decode cX1_showing 4 = .ok (.iconst 2, 1) := by decide +kernel
theorem dX1_showing_5 : decode cX1_showing 5 = .ok (.iaload, 1) := by decide +kernel
theorem dX1_showing_6 : decode cX1_showing 6 = .ok (.istore_n 3, 1) := by decide +kernel
theorem dX1_showing_7 : decode cX1_showing 7 = .ok (.iconst 0, 1) := by decide +kernel
theorem dX1_showing_8 : decode cX1_showing 8 = .ok (.istore 4, 2) := by decide +kernel
theorem dX1_showing_10 : decode cX1_showing 10 = .ok (.iload 4, 2) := by decide +kernel
theorem dX1_showing_12 : decode cX1_showing 12 = .ok (.iload_n 3, 1) := by decide +kernel
theorem dX1_showing_13 : decode cX1_showing 13 = .ok (.if_icmp .ge 33, 3) := by decide +kernel
theorem dX1_showing_16 : decode cX1_showing 16 = .ok (.aload_n 0, 1) := by decide +kernel
theorem dX1_showing_17 : decode cX1_showing 17 = .ok (.iload 4, 2) := by decide +kernel
theorem dX1_showing_19 : decode cX1_showing 19 = .ok (.iload_n 1, 1) := by decide +kernel
theorem dX1_showing_20 : decode cX1_showing 20 = .ok (.invokevirtual 43, 3) := by decide +kernel
theorem dX1_showing_23 : decode cX1_showing 23 = .ok (.ifCond .eq 17, 3) := by decide +kernel
theorem dX1_showing_26 : decode cX1_showing 26 = .ok (.aload_n 0, 1) := by decide +kernel
theorem dX1_showing_27 : decode cX1_showing 27 = .ok (.iload 4, 2) := by decide +kernel
theorem dX1_showing_29 : decode cX1_showing 29 = .ok (.iconst 1, 1) := by decide +kernel
theorem dX1_showing_30 : decode cX1_showing 30 = .ok (.invokevirtual 36, 3) := by decide +kernel
theorem dX1_showing_33 : decode cX1_showing 33 = .ok (.iload_n 2, 1) := by decide +kernel
theorem dX1_showing_34 : decode cX1_showing 34 = .ok (.if_icmp .ne 6, 3) := by decide +kernel
theorem dX1_showing_37 : decode cX1_showing 37 = .ok (.iload 4, 2) := by decide +kernel
theorem dX1_showing_39 : decode cX1_showing 39 = .ok (.ireturn, 1) := by decide +kernel
theorem dX1_showing_40 : decode cX1_showing 40 = .ok (.iinc 4 1, 3) := by decide +kernel
theorem dX1_showing_43 : decode cX1_showing 43 = .ok (.goto (-33), 3) := by decide +kernel
theorem dX1_showing_46 : decode cX1_showing 46 = .ok (.iconst (-1), 1) := by decide +kernel
theorem dX1_showing_47 : decode cX1_showing 47 = .ok (.ireturn, 1) := by decide +kernel
theorem dX1_showsOlder_0 : decode cX1_showsOlder 0 = .ok (.aload_n 0, 1) := by decide +kernel
theorem dX1_showsOlder_1 : decode cX1_showsOlder 1 = .ok (.getfield 9, 3) := by decide +kernel
theorem dX1_showsOlder_4 : decode cX1_showsOlder 4 = .ok (.iconst 2, 1) := by decide +kernel
theorem dX1_showsOlder_5 : decode cX1_showsOlder 5 = .ok (.iaload, 1) := by decide +kernel
theorem dX1_showsOlder_6 : decode cX1_showsOlder 6 = .ok (.istore_n 3, 1) := by decide +kernel
theorem dX1_showsOlder_7 : decode cX1_showsOlder 7 = .ok (.iconst 0, 1) := by decide +kernel
theorem dX1_showsOlder_8 : decode cX1_showsOlder 8 = .ok (.istore 4, 2) := by decide +kernel
theorem dX1_showsOlder_10 : decode cX1_showsOlder 10 = .ok (.iload 4, 2) := by decide +kernel
theorem dX1_showsOlder_12 : decode cX1_showsOlder 12 = .ok (.iload_n 3, 1) := by decide +kernel
theorem dX1_showsOlder_13 : decode cX1_showsOlder 13 = .ok (.if_icmp .ge 95, 3) := by decide +kernel
theorem dX1_showsOlder_16 : decode cX1_showsOlder 16 = .ok (.aload_n 0, 1) := by decide +kernel
theorem dX1_showsOlder_17 : decode cX1_showsOlder 17 = .ok (.getfield 9, 3) := by decide +kernel
theorem dX1_showsOlder_20 : decode cX1_showsOlder 20 = .ok (.sipush 299, 3) := by decide +kernel
theorem dX1_showsOlder_23 : decode cX1_showsOlder 23 = .ok (.iload 4, 2) := by decide +kernel
theorem dX1_showsOlder_25 : decode cX1_showsOlder 25 = .ok (.iadd, 1) := by decide +kernel
theorem dX1_showsOlder_26 : decode cX1_showsOlder 26 = .ok (.iaload, 1) := by decide +kernel
theorem dX1_showsOlder_27 : decode cX1_showsOlder 27 = .ok (.iload_n 1, 1) := by decide +kernel
theorem dX1_showsOlder_28 : decode cX1_showsOlder 28 = .ok (.if_icmp .ne 74, 3) := by decide +kernel
theorem dX1_showsOlder_31 : decode cX1_showsOlder 31 = .ok (.aload_n 0, 1) := by decide +kernel
theorem dX1_showsOlder_32 : decode cX1_showsOlder 32 = .ok (.getfield 9, 3) := by decide +kernel
theorem dX1_showsOlder_35 : decode cX1_showsOlder 35 = .ok (.sipush 443, 3) := by decide +kernel
theorem dX1_showsOlder_38 : decode cX1_showsOlder 38 = .ok (.iload 4, 2) := by decide +kernel
theorem dX1_showsOlder_40 : decode cX1_showsOlder 40 = .ok (.iadd, 1) := by decide +kernel
theorem dX1_showsOlder_41 : decode cX1_showsOlder 41 = .ok (.iaload, 1) := by decide +kernel
theorem dX1_showsOlder_42 : decode cX1_showsOlder 42 = .ok (.ifCond .lt 60, 3) := by decide +kernel
theorem dX1_showsOlder_45 : decode cX1_showsOlder 45 = .ok (.aload_n 0, 1) := by decide +kernel
theorem dX1_showsOlder_46 : decode cX1_showsOlder 46 = .ok (.getfield 9, 3) := by decide +kernel
theorem dX1_showsOlder_49 : decode cX1_showsOlder 49 = .ok (.sipush 443, 3) := by decide +kernel
theorem dX1_showsOlder_52 : decode cX1_showsOlder 52 = .ok (.iload 4, 2) := by decide +kernel
theorem dX1_showsOlder_54 : decode cX1_showsOlder 54 = .ok (.iadd, 1) := by decide +kernel
theorem dX1_showsOlder_55 : decode cX1_showsOlder 55 = .ok (.iaload, 1) := by decide +kernel
theorem dX1_showsOlder_56 : decode cX1_showsOlder 56 = .ok (.iload_n 2, 1) := by decide +kernel
theorem dX1_showsOlder_57 : decode cX1_showsOlder 57 = .ok (.if_icmp .ge 45, 3) := by decide +kernel
theorem dX1_showsOlder_60 : decode cX1_showsOlder 60 = .ok (.aload_n 0, 1) := by decide +kernel
theorem dX1_showsOlder_61 : decode cX1_showsOlder 61 = .ok (.getfield 9, 3) := by decide +kernel
theorem dX1_showsOlder_64 : decode cX1_showsOlder 64 = .ok (.sipush 419, 3) := by decide +kernel
theorem dX1_showsOlder_67 : decode cX1_showsOlder 67 = .ok (.iload 4, 2) := by decide +kernel
theorem dX1_showsOlder_69 : decode cX1_showsOlder 69 = .ok (.iadd, 1) := by decide +kernel
theorem dX1_showsOlder_70 : decode cX1_showsOlder 70 = .ok (.iaload, 1) := by decide +kernel
theorem dX1_showsOlder_71 : decode cX1_showsOlder 71 = .ok (.ifCond .eq 31, 3) := by decide +kernel
theorem dX1_showsOlder_74 : decode cX1_showsOlder 74 = .ok (.aload_n 0, 1) := by decide +kernel
theorem dX1_showsOlder_75 : decode cX1_showsOlder 75 = .ok (.iload 4, 2) := by decide +kernel
theorem dX1_showsOlder_77 : decode cX1_showsOlder 77 = .ok (.invokevirtual 29, 3) := by decide +kernel
theorem dX1_showsOlder_80 : decode cX1_showsOlder 80 = .ok (.aload_n 0, 1) := by decide +kernel
theorem dX1_showsOlder_81 : decode cX1_showsOlder 81 = .ok (.aload_n 0, 1) := by decide +kernel
theorem dX1_showsOlder_82 : decode cX1_showsOlder 82 = .ok (.getfield 9, 3) := by decide +kernel
theorem dX1_showsOlder_85 : decode cX1_showsOlder 85 = .ok (.sipush 323, 3) := by decide +kernel
theorem dX1_showsOlder_88 : decode cX1_showsOlder 88 = .ok (.iload 4, 2) := by decide +kernel
theorem dX1_showsOlder_90 : decode cX1_showsOlder 90 = .ok (.iadd, 1) := by decide +kernel
theorem dX1_showsOlder_91 : decode cX1_showsOlder 91 = .ok (.iaload, 1) := by decide +kernel
theorem dX1_showsOlder_92 : decode cX1_showsOlder 92 = .ok (.iconst 0, 1) := by decide +kernel
theorem dX1_showsOlder_93 : decode cX1_showsOlder 93 = .ok (.invokevirtual 33, 3) := by decide +kernel
theorem dX1_showsOlder_96 : decode cX1_showsOlder 96 = .ok (.iand, 1) := by decide +kernel
theorem dX1_showsOlder_97 : decode cX1_showsOlder 97 = .ok (.ifCond .eq 5, 3) := by decide +kernel
theorem dX1_showsOlder_100 : decode cX1_showsOlder 100 = .ok (.iconst 1, 1) := by decide +kernel
theorem dX1_showsOlder_101 : decode cX1_showsOlder 101 = .ok (.ireturn, 1) := by decide +kernel
theorem dX1_showsOlder_102 : decode cX1_showsOlder 102 = .ok (.iinc 4 1, 3) := by decide +kernel
theorem dX1_showsOlder_105 : decode cX1_showsOlder 105 = .ok (.goto (-95), 3) := by decide +kernel
theorem dX1_showsOlder_108 : decode cX1_showsOlder 108 = .ok (.iconst 0, 1) := by decide +kernel
theorem dX1_showsOlder_109 : decode cX1_showsOlder 109 = .ok (.ireturn, 1) := by decide +kernel
theorem dX1_countLeft_0 : decode cX1_countLeft 0 = .ok (.aload_n 0, 1) := by decide +kernel
theorem dX1_countLeft_1 : decode cX1_countLeft 1 = .ok (.getfield 9, 3) := by decide +kernel
theorem dX1_countLeft_4 : decode cX1_countLeft 4 = .ok (.iconst 2, 1) := by decide +kernel
theorem dX1_countLeft_5 : decode cX1_countLeft 5 = .ok (.iaload, 1) := by decide +kernel
theorem dX1_countLeft_6 : decode cX1_countLeft 6 = .ok (.istore_n 2, 1) := by decide +kernel
theorem dX1_countLeft_7 : decode cX1_countLeft 7 = .ok (.iconst 0, 1) := by decide +kernel
theorem dX1_countLeft_8 : decode cX1_countLeft 8 = .ok (.istore_n 3, 1) := by decide +kernel
theorem dX1_countLeft_9 : decode cX1_countLeft 9 = .ok (.iload_n 3, 1) := by decide +kernel
theorem dX1_countLeft_10 : decode cX1_countLeft 10 = .ok (.iload_n 2, 1) := by decide +kernel
theorem dX1_countLeft_11 : decode cX1_countLeft 11 = .ok (.if_icmp .ge 50, 3) := by decide +kernel
theorem dX1_countLeft_14 : decode cX1_countLeft 14 = .ok (.aload_n 0, 1) := by decide +kernel
theorem dX1_countLeft_15 : decode cX1_countLeft 15 = .ok (.getfield 9, 3) := by decide +kernel
theorem dX1_countLeft_18 : decode cX1_countLeft 18 = .ok (.sipush 299, 3) := by decide +kernel
theorem dX1_countLeft_21 : decode cX1_countLeft 21 = .ok (.iload_n 3, 1) := by decide +kernel
theorem dX1_countLeft_22 : decode cX1_countLeft 22 = .ok (.iadd, 1) := by decide +kernel
theorem dX1_countLeft_23 : decode cX1_countLeft 23 = .ok (.iaload, 1) := by decide +kernel
theorem dX1_countLeft_24 : decode cX1_countLeft 24 = .ok (.iload_n 1, 1) := by decide +kernel
theorem dX1_countLeft_25 : decode cX1_countLeft 25 = .ok (.if_icmp .ne 30, 3) := by decide +kernel
theorem dX1_countLeft_28 : decode cX1_countLeft 28 = .ok (.aload_n 0, 1) := by decide +kernel
theorem dX1_countLeft_29 : decode cX1_countLeft 29 = .ok (.getfield 9, 3) := by decide +kernel
theorem dX1_countLeft_32 : decode cX1_countLeft 32 = .ok (.sipush 443, 3) := by decide +kernel
theorem dX1_countLeft_35 : decode cX1_countLeft 35 = .ok (.iload_n 3, 1) := by decide +kernel
theorem dX1_countLeft_36 : decode cX1_countLeft 36 = .ok (.iadd, 1) := by decide +kernel
theorem dX1_countLeft_37 : decode cX1_countLeft 37 = .ok (.iaload, 1) := by decide +kernel
theorem dX1_countLeft_38 : decode cX1_countLeft 38 = .ok (.ifCond .lt 17, 3) := by decide +kernel
theorem dX1_countLeft_41 : decode cX1_countLeft 41 = .ok (.aload_n 0, 1) := by decide +kernel
theorem dX1_countLeft_42 : decode cX1_countLeft 42 = .ok (.getfield 9, 3) := by decide +kernel
theorem dX1_countLeft_45 : decode cX1_countLeft 45 = .ok (.sipush 515, 3) := by decide +kernel
theorem dX1_countLeft_48 : decode cX1_countLeft 48 = .ok (.iload_n 3, 1) := by decide +kernel
theorem dX1_countLeft_49 : decode cX1_countLeft 49 = .ok (.iadd, 1) := by decide +kernel
theorem dX1_countLeft_50 : decode cX1_countLeft 50 = .ok (.dup2, 1) := by decide +kernel
theorem dX1_countLeft_51 : decode cX1_countLeft 51 = .ok (.iaload, 1) := by decide +kernel
theorem dX1_countLeft_52 : decode cX1_countLeft 52 = .ok (.iconst 1, 1) := by decide +kernel
theorem dX1_countLeft_53 : decode cX1_countLeft 53 = .ok (.iadd, 1) := by decide +kernel
theorem dX1_countLeft_54 : decode cX1_countLeft 54 = .ok (.iastore, 1) := by decide +kernel
theorem dX1_countLeft_55 : decode cX1_countLeft 55 = .ok (.iinc 3 1, 3) := by decide +kernel
theorem dX1_countLeft_58 : decode cX1_countLeft 58 = .ok (.goto (-49), 3) := by decide +kernel
theorem dX1_countLeft_61 : decode cX1_countLeft 61 = .ok (.return_, 1) := by decide +kernel
theorem dX1_deepBelow_0 : decode cX1_deepBelow 0 = .ok (.aload_n 0, 1) := by decide +kernel
theorem dX1_deepBelow_1 : decode cX1_deepBelow 1 = .ok (.getfield 9, 3) := by decide +kernel
theorem dX1_deepBelow_4 : decode cX1_deepBelow 4 = .ok (.iconst 2, 1) := by decide +kernel
theorem dX1_deepBelow_5 : decode cX1_deepBelow 5 = .ok (.iaload, 1) := by decide +kernel
theorem dX1_deepBelow_6 : decode cX1_deepBelow 6 = .ok (.istore_n 3, 1) := by decide +kernel
theorem dX1_deepBelow_7 : decode cX1_deepBelow 7 = .ok (.iconst 1, 1) := by decide +kernel
theorem dX1_deepBelow_8 : decode cX1_deepBelow 8 = .ok (.istore 4, 2) := by decide +kernel
theorem dX1_deepBelow_10 : decode cX1_deepBelow 10 = .ok (.iconst 0, 1) := by decide +kernel
theorem dX1_deepBelow_11 : decode cX1_deepBelow 11 = .ok (.istore 5, 2) := by decide +kernel
theorem dX1_deepBelow_13 : decode cX1_deepBelow 13 = .ok (.iload 5, 2) := by decide +kernel
theorem dX1_deepBelow_15 : decode cX1_deepBelow 15 = .ok (.iload_n 3, 1) := by decide +kernel
theorem dX1_deepBelow_16 : decode cX1_deepBelow 16 = .ok (.if_icmp .ge 79, 3) := by decide +kernel
theorem dX1_deepBelow_19 : decode cX1_deepBelow 19 = .ok (.iload_n 2, 1) := by decide +kernel
theorem dX1_deepBelow_20 : decode cX1_deepBelow 20 = .ok (.iconst 3, 1) := by decide +kernel
theorem dX1_deepBelow_21 : decode cX1_deepBelow 21 = .ok (.if_icmp .ge 74, 3) := by decide +kernel
theorem dX1_deepBelow_24 : decode cX1_deepBelow 24 = .ok (.aload_n 0, 1) := by decide +kernel
theorem dX1_deepBelow_25 : decode cX1_deepBelow 25 = .ok (.getfield 9, 3) := by decide +kernel
theorem dX1_deepBelow_28 : decode cX1_deepBelow 28 = .ok (.sipush 299, 3) := by decide +kernel
theorem dX1_deepBelow_31 : decode cX1_deepBelow 31 = .ok (.iload 5, 2) := by decide +kernel
theorem dX1_deepBelow_33 : decode cX1_deepBelow 33 = .ok (.iadd, 1) := by decide +kernel
theorem dX1_deepBelow_34 : decode cX1_deepBelow 34 = .ok (.iaload, 1) := by decide +kernel
theorem dX1_deepBelow_35 : decode cX1_deepBelow 35 = .ok (.iload_n 1, 1) := by decide +kernel
theorem dX1_deepBelow_36 : decode cX1_deepBelow 36 = .ok (.if_icmp .ne 53, 3) := by decide +kernel
theorem dX1_deepBelow_39 : decode cX1_deepBelow 39 = .ok (.aload_n 0, 1) := by decide +kernel
theorem dX1_deepBelow_40 : decode cX1_deepBelow 40 = .ok (.getfield 9, 3) := by decide +kernel
theorem dX1_deepBelow_43 : decode cX1_deepBelow 43 = .ok (.bipush 19, 2) := by decide +kernel
theorem dX1_deepBelow_45 : decode cX1_deepBelow 45 = .ok (.aload_n 0, 1) := by decide +kernel
theorem dX1_deepBelow_46 : decode cX1_deepBelow 46 = .ok (.getfield 9, 3) := by decide +kernel
theorem dX1_deepBelow_49 : decode cX1_deepBelow 49 = .ok (.sipush 323, 3) := by decide +kernel
theorem dX1_deepBelow_52 : decode cX1_deepBelow 52 = .ok (.iload 5, 2) := by decide +kernel
theorem dX1_deepBelow_54 : decode cX1_deepBelow 54 = .ok (.iadd, 1) := by decide +kernel
theorem dX1_deepBelow_55 : decode cX1_deepBelow 55 = .ok (.iaload, 1) := by decide +kernel
theorem dX1_deepBelow_56 : decode cX1_deepBelow 56 = .ok (.iadd, 1) := by decide +kernel
theorem dX1_deepBelow_57 : decode cX1_deepBelow 57 = .ok (.iaload, 1) := by decide +kernel
theorem dX1_deepBelow_58 : decode cX1_deepBelow 58 = .ok (.iconst 4, 1) := by decide +kernel
theorem dX1_deepBelow_59 : decode cX1_deepBelow 59 = .ok (.if_icmp .ne 30, 3) := by decide +kernel
theorem dX1_deepBelow_62 : decode cX1_deepBelow 62 = .ok (.iload 4, 2) := by decide +kernel
theorem dX1_deepBelow_64 : decode cX1_deepBelow 64 = .ok (.iconst 1, 1) := by decide +kernel
theorem dX1_deepBelow_65 : decode cX1_deepBelow 65 = .ok (.aload_n 0, 1) := by decide +kernel
theorem dX1_deepBelow_66 : decode cX1_deepBelow 66 = .ok (.aload_n 0, 1) := by decide +kernel
theorem dX1_deepBelow_67 : decode cX1_deepBelow 67 = .ok (.getfield 9, 3) := by decide +kernel
theorem dX1_deepBelow_70 : decode cX1_deepBelow 70 = .ok (.sipush 323, 3) := by decide +kernel
theorem dX1_deepBelow_73 : decode cX1_deepBelow 73 = .ok (.iload 5, 2) := by decide +kernel
theorem dX1_deepBelow_75 : decode cX1_deepBelow 75 = .ok (.iadd, 1) := by decide +kernel
theorem dX1_deepBelow_76 : decode cX1_deepBelow 76 = .ok (.iaload, 1) := by decide +kernel
theorem dX1_deepBelow_77 : decode cX1_deepBelow 77 = .ok (.iload_n 2, 1) := by decide +kernel
theorem dX1_deepBelow_78 : decode cX1_deepBelow 78 = .ok (.iconst 1, 1) := by decide +kernel
theorem dX1_deepBelow_79 : decode cX1_deepBelow 79 = .ok (.iadd, 1) := by decide +kernel
theorem dX1_deepBelow_80 : decode cX1_deepBelow 80 = .ok (.invokevirtual 47, 3) := by decide +kernel
theorem dX1_deepBelow_83 : decode cX1_deepBelow 83 = .ok (.iadd, 1) := by decide +kernel
theorem dX1_deepBelow_84 : decode cX1_deepBelow 84 = .ok (.invokestatic 50, 3) := by decide +kernel
theorem dX1_deepBelow_87 : decode cX1_deepBelow 87 = .ok (.istore 4, 2) := by decide +kernel
theorem dX1_deepBelow_89 : decode cX1_deepBelow 89 = .ok (.iinc 5 1, 3) := by decide +kernel
theorem dX1_deepBelow_92 : decode cX1_deepBelow 92 = .ok (.goto (-79), 3) := by decide +kernel
theorem dX1_deepBelow_95 : decode cX1_deepBelow 95 = .ok (.iload 4, 2) := by decide +kernel
theorem dX1_deepBelow_97 : decode cX1_deepBelow 97 = .ok (.ireturn, 1) := by decide +kernel
theorem dX1_deepAbove_0 : decode cX1_deepAbove 0 = .ok (.aload_n 0, 1) := by decide +kernel
theorem dX1_deepAbove_1 : decode cX1_deepAbove 1 = .ok (.getfield 9, 3) := by decide +kernel
theorem dX1_deepAbove_4 : decode cX1_deepAbove 4 = .ok (.iconst 2, 1) := by decide +kernel
theorem dX1_deepAbove_5 : decode cX1_deepAbove 5 = .ok (.iaload, 1) := by decide +kernel
theorem dX1_deepAbove_6 : decode cX1_deepAbove 6 = .ok (.istore_n 3, 1) := by decide +kernel
theorem dX1_deepAbove_7 : decode cX1_deepAbove 7 = .ok (.iconst 1, 1) := by decide +kernel
theorem dX1_deepAbove_8 : decode cX1_deepAbove 8 = .ok (.istore 4, 2) := by decide +kernel
theorem dX1_deepAbove_10 : decode cX1_deepAbove 10 = .ok (.iconst 0, 1) := by decide +kernel
theorem dX1_deepAbove_11 : decode cX1_deepAbove 11 = .ok (.istore 5, 2) := by decide +kernel
theorem dX1_deepAbove_13 : decode cX1_deepAbove 13 = .ok (.iload 5, 2) := by decide +kernel
theorem dX1_deepAbove_15 : decode cX1_deepAbove 15 = .ok (.iload_n 3, 1) := by decide +kernel
theorem dX1_deepAbove_16 : decode cX1_deepAbove 16 = .ok (.if_icmp .ge 56, 3) := by decide +kernel
theorem dX1_deepAbove_19 : decode cX1_deepAbove 19 = .ok (.iload_n 2, 1) := by decide +kernel
theorem dX1_deepAbove_20 : decode cX1_deepAbove 20 = .ok (.iconst 3, 1) := by decide +kernel
theorem dX1_deepAbove_21 : decode cX1_deepAbove 21 = .ok (.if_icmp .ge 51, 3) := by decide +kernel
theorem dX1_deepAbove_24 : decode cX1_deepAbove 24 = .ok (.aload_n 0, 1) := by decide +kernel
theorem dX1_deepAbove_25 : decode cX1_deepAbove 25 = .ok (.getfield 9, 3) := by decide +kernel
theorem dX1_deepAbove_28 : decode cX1_deepAbove 28 = .ok (.sipush 323, 3) := by decide +kernel
theorem dX1_deepAbove_31 : decode cX1_deepAbove 31 = .ok (.iload 5, 2) := by decide +kernel
theorem dX1_deepAbove_33 : decode cX1_deepAbove 33 = .ok (.iadd, 1) := by decide +kernel
theorem dX1_deepAbove_34 : decode cX1_deepAbove 34 = .ok (.iaload, 1) := by decide +kernel
theorem dX1_deepAbove_35 : decode cX1_deepAbove 35 = .ok (.iload_n 1, 1) := by decide +kernel
theorem dX1_deepAbove_36 : decode cX1_deepAbove 36 = .ok (.if_icmp .ne 30, 3) := by decide +kernel
theorem dX1_deepAbove_39 : decode cX1_deepAbove 39 = .ok (.iload 4, 2) := by decide +kernel
theorem dX1_deepAbove_41 : decode cX1_deepAbove 41 = .ok (.iconst 1, 1) := by decide +kernel
theorem dX1_deepAbove_42 : decode cX1_deepAbove 42 = .ok (.aload_n 0, 1) := by decide +kernel
theorem dX1_deepAbove_43 : decode cX1_deepAbove 43 = .ok (.aload_n 0, 1) := by decide +kernel
theorem dX1_deepAbove_44 : decode cX1_deepAbove 44 = .ok (.getfield 9, 3) := by decide +kernel
theorem dX1_deepAbove_47 : decode cX1_deepAbove 47 = .ok (.sipush 299, 3) := by decide +kernel
theorem dX1_deepAbove_50 : decode cX1_deepAbove 50 = .ok (.iload 5, 2) := by decide +kernel
theorem dX1_deepAbove_52 : decode cX1_deepAbove 52 = .ok (.iadd, 1) := by decide +kernel
theorem dX1_deepAbove_53 : decode cX1_deepAbove 53 = .ok (.iaload, 1) := by decide +kernel
theorem dX1_deepAbove_54 : decode cX1_deepAbove 54 = .ok (.iload_n 2, 1) := by decide +kernel
theorem dX1_deepAbove_55 : decode cX1_deepAbove 55 = .ok (.iconst 1, 1) := by decide +kernel
theorem dX1_deepAbove_56 : decode cX1_deepAbove 56 = .ok (.iadd, 1) := by decide +kernel
theorem dX1_deepAbove_57 : decode cX1_deepAbove 57 = .ok (.invokevirtual 55, 3) := by decide +kernel
theorem dX1_deepAbove_60 : decode cX1_deepAbove 60 = .ok (.iadd, 1) := by decide +kernel
theorem dX1_deepAbove_61 : decode cX1_deepAbove 61 = .ok (.invokestatic 50, 3) := by decide +kernel
theorem dX1_deepAbove_64 : decode cX1_deepAbove 64 = .ok (.istore 4, 2) := by decide +kernel
theorem dX1_deepAbove_66 : decode cX1_deepAbove 66 = .ok (.iinc 5 1, 3) := by decide +kernel
theorem dX1_deepAbove_69 : decode cX1_deepAbove 69 = .ok (.goto (-56), 3) := by decide +kernel
theorem dX1_deepAbove_72 : decode cX1_deepAbove 72 = .ok (.iload 4, 2) := by decide +kernel
theorem dX1_deepAbove_74 : decode cX1_deepAbove 74 = .ok (.ireturn, 1) := by decide +kernel
theorem dX2_init_0 : decode cX2_init 0 = .ok (.aload_n 0, 1) := by decide +kernel
theorem dX2_init_1 : decode cX2_init 1 = .ok (.invokespecial 3, 3) := by decide +kernel
theorem dX2_init_4 : decode cX2_init 4 = .ok (.aload_n 0, 1) := by decide +kernel
theorem dX2_init_5 : decode cX2_init 5 = .ok (.sipush 10049, 3) := by decide +kernel
theorem dX2_init_8 : decode cX2_init 8 = .ok (.newarray .int, 2) := by decide +kernel
theorem dX2_init_10 : decode cX2_init 10 = .ok (.putfield 11, 3) := by decide +kernel
theorem dX2_init_13 : decode cX2_init 13 = .ok (.aload_n 0, 1) := by decide +kernel
theorem dX2_init_14 : decode cX2_init 14 = .ok (.iconst 0, 1) := by decide +kernel
theorem dX2_init_15 : decode cX2_init 15 = .ok (.putfield 15, 3) := by decide +kernel
theorem dX2_init_18 : decode cX2_init 18 = .ok (.aload_n 0, 1) := by decide +kernel
theorem dX2_init_19 : decode cX2_init 19 = .ok (.iconst 0, 1) := by decide +kernel
theorem dX2_init_20 : decode cX2_init 20 = .ok (.putfield 19, 3) := by decide +kernel
theorem dX2_init_23 : decode cX2_init 23 = .ok (.aload_n 0, 1) := by decide +kernel
theorem dX2_init_24 : decode cX2_init 24 = .ok (.iconst 0, 1) := by decide +kernel
theorem dX2_init_25 : decode cX2_init 25 = .ok (.putfield 22, 3) := by decide +kernel
theorem dX2_init_28 : decode cX2_init 28 = .ok (.return_, 1) := by decide +kernel
theorem dX2_restart_0 : decode cX2_restart 0 = .ok (.aload_n 0, 1) := by decide +kernel
theorem dX2_restart_1 : decode cX2_restart 1 = .ok (.iconst 0, 1) := by decide +kernel
theorem dX2_restart_2 : decode cX2_restart 2 = .ok (.putfield 19, 3) := by decide +kernel
theorem dX2_restart_5 : decode cX2_restart 5 = .ok (.aload_n 0, 1) := by decide +kernel
theorem dX2_restart_6 : decode cX2_restart 6 = .ok (.iconst 0, 1) := by decide +kernel
theorem dX2_restart_7 : decode cX2_restart 7 = .ok (.putfield 22, 3) := by decide +kernel
theorem dX2_restart_10 : decode cX2_restart 10 = .ok (.aload_n 1, 1) := by decide +kernel
theorem dX2_restart_11 : decode cX2_restart 11 = .ok (.iconst 0, 1) := by decide +kernel
theorem dX2_restart_12 : decode cX2_restart 12 = .ok (.aload_n 0, 1) := by decide +kernel
theorem dX2_restart_13 : decode cX2_restart 13 = .ok (.getfield 11, 3) := by decide +kernel
theorem dX2_restart_16 : decode cX2_restart 16 = .ok (.aload_n 0, 1) := by decide +kernel
theorem dX2_restart_17 : decode cX2_restart 17 = .ok (.getfield 15, 3) := by decide +kernel
theorem dX2_restart_20 : decode cX2_restart 20 = .ok (.sipush 773, 3) := by decide +kernel
theorem dX2_restart_23 : decode cX2_restart 23 = .ok (.imul, 1) := by decide +kernel
theorem dX2_restart_24 : decode cX2_restart 24 = .ok (.sipush 773, 3) := by decide +kernel
theorem dX2_restart_27 : decode cX2_restart 27 = .ok (.invokestatic 25, 3) := by decide +kernel
theorem dX2_restart_30 : decode cX2_restart 30 = .ok (.return_, 1) := by decide +kernel
theorem dX2_keep_0 : decode cX2_keep 0 = .ok (.aload_n 0, 1) := by decide +kernel
theorem dX2_keep_1 : decode cX2_keep 1 = .ok (.aload_n 0, 1) := by decide +kernel
theorem dX2_keep_2 : decode cX2_keep 2 = .ok (.getfield 15, 3) := by decide +kernel
theorem dX2_keep_5 : decode cX2_keep 5 = .ok (.iconst 1, 1) := by decide +kernel
theorem dX2_keep_6 : decode cX2_keep 6 = .ok (.iadd, 1) := by decide +kernel
theorem dX2_keep_7 : decode cX2_keep 7 = .ok (.bipush 13, 2) := by decide +kernel
theorem dX2_keep_9 : decode cX2_keep 9 = .ok (.irem, 1) := by decide +kernel
theorem dX2_keep_10 : decode cX2_keep 10 = .ok (.putfield 15, 3) := by decide +kernel
theorem dX2_keep_13 : decode cX2_keep 13 = .ok (.aload_n 0, 1) := by decide +kernel
theorem dX2_keep_14 : decode cX2_keep 14 = .ok (.bipush 12, 2) := by decide +kernel
theorem dX2_keep_16 : decode cX2_keep 16 = .ok (.aload_n 0, 1) := by decide +kernel
theorem dX2_keep_17 : decode cX2_keep 17 = .ok (.getfield 19, 3) := by decide +kernel
theorem dX2_keep_20 : decode cX2_keep 20 = .ok (.iconst 1, 1) := by decide +kernel
theorem dX2_keep_21 : decode cX2_keep 21 = .ok (.iadd, 1) := by decide +kernel
theorem dX2_keep_22 : decode cX2_keep 22 = .ok (.invokestatic 31, 3) := by decide +kernel
theorem dX2_keep_25 : decode cX2_keep 25 = .ok (.putfield 19, 3) := by decide +kernel
theorem dX2_keep_28 : decode cX2_keep 28 = .ok (.aload_n 0, 1) := by decide +kernel
theorem dX2_keep_29 : decode cX2_keep 29 = .ok (.iconst 0, 1) := by decide +kernel
theorem dX2_keep_30 : decode cX2_keep 30 = .ok (.putfield 22, 3) := by decide +kernel
theorem dX2_keep_33 : decode cX2_keep 33 = .ok (.aload_n 1, 1) := by decide +kernel
theorem dX2_keep_34 : decode cX2_keep 34 = .ok (.iconst 0, 1) := by decide +kernel
theorem dX2_keep_35 : decode cX2_keep 35 = .ok (.aload_n 0, 1) := by decide +kernel
theorem dX2_keep_36 : decode cX2_keep 36 = .ok (.getfield 11, 3) := by decide +kernel
theorem dX2_keep_39 : decode cX2_keep 39 = .ok (.aload_n 0, 1) := by decide +kernel
theorem dX2_keep_40 : decode cX2_keep 40 = .ok (.getfield 15, 3) := by decide +kernel
theorem dX2_keep_43 : decode cX2_keep 43 = .ok (.sipush 773, 3) := by decide +kernel
theorem dX2_keep_46 : decode cX2_keep 46 = .ok (.imul, 1) := by decide +kernel
theorem dX2_keep_47 : decode cX2_keep 47 = .ok (.sipush 773, 3) := by decide +kernel
theorem dX2_keep_50 : decode cX2_keep 50 = .ok (.invokestatic 25, 3) := by decide +kernel
theorem dX2_keep_53 : decode cX2_keep 53 = .ok (.return_, 1) := by decide +kernel
theorem dX2_goBack_0 : decode cX2_goBack 0 = .ok (.aload_n 0, 1) := by decide +kernel
theorem dX2_goBack_1 : decode cX2_goBack 1 = .ok (.getfield 19, 3) := by decide +kernel
theorem dX2_goBack_4 : decode cX2_goBack 4 = .ok (.ifCond .ne 5, 3) := by decide +kernel
theorem dX2_goBack_7 : decode cX2_goBack 7 = .ok (.iconst 0, 1) := by decide +kernel
theorem dX2_goBack_8 : decode cX2_goBack 8 = .ok (.ireturn, 1) := by decide +kernel
theorem dX2_goBack_9 : decode cX2_goBack 9 = .ok (.aload_n 0, 1) := by decide +kernel
theorem dX2_goBack_10 : decode cX2_goBack 10 = .ok (.aload_n 0, 1) := by decide +kernel
theorem dX2_goBack_11 : decode cX2_goBack 11 = .ok (.getfield 15, 3) := by decide +kernel
theorem dX2_goBack_14 : decode cX2_goBack 14 = .ok (.bipush 13, 2) := by decide +kernel
theorem dX2_goBack_16 : decode cX2_goBack 16 = .ok (.iadd, 1) := by decide +kernel
theorem dX2_goBack_17 : decode cX2_goBack 17 = .ok (.iconst 1, 1) := by decide +kernel
theorem dX2_goBack_18 : decode cX2_goBack 18 = .ok (.isub, 1) := by decide +kernel
theorem dX2_goBack_19 : decode cX2_goBack 19 = .ok (.bipush 13, 2) := by decide +kernel
theorem dX2_goBack_21 : decode cX2_goBack 21 = .ok (.irem, 1) := by decide +kernel
theorem dX2_goBack_22 : decode cX2_goBack 22 = .ok (.putfield 15, 3) := by decide +kernel
theorem dX2_goBack_25 : decode cX2_goBack 25 = .ok (.aload_n 0, 1) := by decide +kernel
theorem dX2_goBack_26 : decode cX2_goBack 26 = .ok (.dup, 1) := by decide +kernel
theorem dX2_goBack_27 : decode cX2_goBack 27 = .ok (.getfield 19, 3) := by decide +kernel
theorem dX2_goBack_30 : decode cX2_goBack 30 = .ok (.iconst 1, 1) := by decide +kernel
theorem dX2_goBack_31 : decode cX2_goBack 31 = .ok (.isub, 1) := by decide +kernel
theorem dX2_goBack_32 : decode cX2_goBack 32 = .ok (.putfield 19, 3) := by decide +kernel
theorem dX2_goBack_35 : decode cX2_goBack 35 = .ok (.aload_n 0, 1) := by decide +kernel
theorem dX2_goBack_36 : decode cX2_goBack 36 = .ok (.dup, 1) := by decide +kernel
theorem dX2_goBack_37 : decode cX2_goBack 37 = .ok (.getfield 22, 3) := by decide +kernel
theorem dX2_goBack_40 : decode cX2_goBack 40 = .ok (.iconst 1, 1) := by decide +kernel
theorem dX2_goBack_41 : decode cX2_goBack 41 = .ok (.iadd, 1) := by decide +kernel
theorem dX2_goBack_42 : decode cX2_goBack 42 = .ok (.putfield 22, 3) := by decide +kernel
theorem dX2_goBack_45 : decode cX2_goBack 45 = .ok (.aload_n 0, 1) := by decide +kernel
theorem dX2_goBack_46 : decode cX2_goBack 46 = .ok (.getfield 11, 3) := by decide +kernel
theorem dX2_goBack_49 : decode cX2_goBack 49 = .ok (.aload_n 0, 1) := by decide +kernel
theorem dX2_goBack_50 : decode cX2_goBack 50 = .ok (.getfield 15, 3) := by decide +kernel
theorem dX2_goBack_53 : decode cX2_goBack 53 = .ok (.sipush 773, 3) := by decide +kernel
theorem dX2_goBack_56 : decode cX2_goBack 56 = .ok (.imul, 1) := by decide +kernel
theorem dX2_goBack_57 : decode cX2_goBack 57 = .ok (.aload_n 1, 1) := by decide +kernel
theorem dX2_goBack_58 : decode cX2_goBack 58 = .ok (.iconst 0, 1) := by decide +kernel
theorem dX2_goBack_59 : decode cX2_goBack 59 = .ok (.sipush 773, 3) := by decide +kernel
theorem dX2_goBack_62 : decode cX2_goBack 62 = .ok (.invokestatic 25, 3) := by decide +kernel
theorem dX2_goBack_65 : decode cX2_goBack 65 = .ok (.iconst 1, 1) := by decide +kernel
theorem dX2_goBack_66 : decode cX2_goBack 66 = .ok (.ireturn, 1) := by decide +kernel
theorem dX2_goForth_0 : decode cX2_goForth 0 = .ok (.aload_n 0, 1) := by decide +kernel
theorem dX2_goForth_1 : decode cX2_goForth 1 = .ok (.getfield 22, 3) := by decide +kernel
theorem dX2_goForth_4 : decode cX2_goForth 4 = .ok (.ifCond .ne 5, 3) := by decide +kernel
theorem dX2_goForth_7 : decode cX2_goForth 7 = .ok (.iconst 0, 1) := by decide +kernel
theorem dX2_goForth_8 : decode cX2_goForth 8 = .ok (.ireturn, 1) := by decide +kernel
theorem dX2_goForth_9 : decode cX2_goForth 9 = .ok (.aload_n 0, 1) := by decide +kernel
theorem dX2_goForth_10 : decode cX2_goForth 10 = .ok (.aload_n 0, 1) := by decide +kernel
theorem dX2_goForth_11 : decode cX2_goForth 11 = .ok (.getfield 15, 3) := by decide +kernel
theorem dX2_goForth_14 : decode cX2_goForth 14 = .ok (.iconst 1, 1) := by decide +kernel
theorem dX2_goForth_15 : decode cX2_goForth 15 = .ok (.iadd, 1) := by decide +kernel
theorem dX2_goForth_16 : decode cX2_goForth 16 = .ok (.bipush 13, 2) := by decide +kernel
theorem dX2_goForth_18 : decode cX2_goForth 18 = .ok (.irem, 1) := by decide +kernel
theorem dX2_goForth_19 : decode cX2_goForth 19 = .ok (.putfield 15, 3) := by decide +kernel
theorem dX2_goForth_22 : decode cX2_goForth 22 = .ok (.aload_n 0, 1) := by decide +kernel
theorem dX2_goForth_23 : decode cX2_goForth 23 = .ok (.dup, 1) := by decide +kernel
theorem dX2_goForth_24 : decode cX2_goForth 24 = .ok (.getfield 19, 3) := by decide +kernel
theorem dX2_goForth_27 : decode cX2_goForth 27 = .ok (.iconst 1, 1) := by decide +kernel
theorem dX2_goForth_28 : decode cX2_goForth 28 = .ok (.iadd, 1) := by decide +kernel
theorem dX2_goForth_29 : decode cX2_goForth 29 = .ok (.putfield 19, 3) := by decide +kernel
theorem dX2_goForth_32 : decode cX2_goForth 32 = .ok (.aload_n 0, 1) := by decide +kernel
theorem dX2_goForth_33 : decode cX2_goForth 33 = .ok (.dup, 1) := by decide +kernel
theorem dX2_goForth_34 : decode cX2_goForth 34 = .ok (.getfield 22, 3) := by decide +kernel
theorem dX2_goForth_37 : decode cX2_goForth 37 = .ok (.iconst 1, 1) := by decide +kernel
theorem dX2_goForth_38 : decode cX2_goForth 38 = .ok (.isub, 1) := by decide +kernel
theorem dX2_goForth_39 : decode cX2_goForth 39 = .ok (.putfield 22, 3) := by decide +kernel
theorem dX2_goForth_42 : decode cX2_goForth 42 = .ok (.aload_n 0, 1) := by decide +kernel
theorem dX2_goForth_43 : decode cX2_goForth 43 = .ok (.getfield 11, 3) := by decide +kernel
theorem dX2_goForth_46 : decode cX2_goForth 46 = .ok (.aload_n 0, 1) := by decide +kernel
theorem dX2_goForth_47 : decode cX2_goForth 47 = .ok (.getfield 15, 3) := by decide +kernel
theorem dX2_goForth_50 : decode cX2_goForth 50 = .ok (.sipush 773, 3) := by decide +kernel
theorem dX2_goForth_53 : decode cX2_goForth 53 = .ok (.imul, 1) := by decide +kernel
theorem dX2_goForth_54 : decode cX2_goForth 54 = .ok (.aload_n 1, 1) := by decide +kernel
theorem dX2_goForth_55 : decode cX2_goForth 55 = .ok (.iconst 0, 1) := by decide +kernel
theorem dX2_goForth_56 : decode cX2_goForth 56 = .ok (.sipush 773, 3) := by decide +kernel
theorem dX2_goForth_59 : decode cX2_goForth 59 = .ok (.invokestatic 25, 3) := by decide +kernel
theorem dX2_goForth_62 : decode cX2_goForth 62 = .ok (.iconst 1, 1) := by decide +kernel
theorem dX2_goForth_63 : decode cX2_goForth 63 = .ok (.ireturn, 1) := by decide +kernel
theorem dX3_init_0 : decode cX3_init 0 = .ok (.aload_n 0, 1) := by decide +kernel
theorem dX3_init_1 : decode cX3_init 1 = .ok (.invokespecial 3, 3) := by decide +kernel
theorem dX3_init_4 : decode cX3_init 4 = .ok (.aload_n 0, 1) := by decide +kernel
theorem dX3_init_5 : decode cX3_init 5 = .ok (.aload_n 1, 1) := by decide +kernel
theorem dX3_init_6 : decode cX3_init 6 = .ok (.putfield 9, 3) := by decide +kernel
theorem dX3_init_9 : decode cX3_init 9 = .ok (.aload_n 0, 1) := by decide +kernel
theorem dX3_init_10 : decode cX3_init 10 = .ok (.aload_n 2, 1) := by decide +kernel
theorem dX3_init_11 : decode cX3_init 11 = .ok (.putfield 15, 3) := by decide +kernel
theorem dX3_init_14 : decode cX3_init 14 = .ok (.aload_n 0, 1) := by decide +kernel
theorem dX3_init_15 : decode cX3_init 15 = .ok (.sipush 6184, 3) := by decide +kernel
theorem dX3_init_18 : decode cX3_init 18 = .ok (.newarray .int, 2) := by decide +kernel
theorem dX3_init_20 : decode cX3_init 20 = .ok (.putfield 19, 3) := by decide +kernel
theorem dX3_init_23 : decode cX3_init 23 = .ok (.aload_n 0, 1) := by decide +kernel
theorem dX3_init_24 : decode cX3_init 24 = .ok (.iconst 5, 1) := by decide +kernel
theorem dX3_init_25 : decode cX3_init 25 = .ok (.newarray .int, 2) := by decide +kernel
theorem dX3_init_27 : decode cX3_init 27 = .ok (.putfield 22, 3) := by decide +kernel
theorem dX3_init_30 : decode cX3_init 30 = .ok (.return_, 1) := by decide +kernel
theorem dX3_begin_0 : decode cX3_begin 0 = .ok (.aload_n 0, 1) := by decide +kernel
theorem dX3_begin_1 : decode cX3_begin 1 = .ok (.iload_n 1, 1) := by decide +kernel
theorem dX3_begin_2 : decode cX3_begin 2 = .ok (.putfield 25, 3) := by decide +kernel
theorem dX3_begin_5 : decode cX3_begin 5 = .ok (.aload_n 0, 1) := by decide +kernel
theorem dX3_begin_6 : decode cX3_begin 6 = .ok (.iload_n 2, 1) := by decide +kernel
theorem dX3_begin_7 : decode cX3_begin 7 = .ok (.putfield 29, 3) := by decide +kernel
theorem dX3_begin_10 : decode cX3_begin 10 = .ok (.aload_n 0, 1) := by decide +kernel
theorem dX3_begin_11 : decode cX3_begin 11 = .ok (.aload_n 0, 1) := by decide +kernel
theorem dX3_begin_12 : decode cX3_begin 12 = .ok (.getfield 15, 3) := by decide +kernel
theorem dX3_begin_15 : decode cX3_begin 15 = .ok (.sipush 569, 3) := by decide +kernel
theorem dX3_begin_18 : decode cX3_begin 18 = .ok (.aload_n 0, 1) := by decide +kernel
theorem dX3_begin_19 : decode cX3_begin 19 = .ok (.getfield 25, 3) := by decide +kernel
theorem dX3_begin_22 : decode cX3_begin 22 = .ok (.iadd, 1) := by decide +kernel
theorem dX3_begin_23 : decode cX3_begin 23 = .ok (.iaload, 1) := by decide +kernel
theorem dX3_begin_24 : decode cX3_begin 24 = .ok (.aload_n 0, 1) := by decide +kernel
theorem dX3_begin_25 : decode cX3_begin 25 = .ok (.getfield 15, 3) := by decide +kernel
theorem dX3_begin_28 : decode cX3_begin 28 = .ok (.sipush 569, 3) := by decide +kernel
theorem dX3_begin_31 : decode cX3_begin 31 = .ok (.aload_n 0, 1) := by decide +kernel
theorem dX3_begin_32 : decode cX3_begin 32 = .ok (.getfield 29, 3) := by decide +kernel
theorem dX3_begin_35 : decode cX3_begin 35 = .ok (.iadd, 1) := by decide +kernel
theorem dX3_begin_36 : decode cX3_begin 36 = .ok (.iaload, 1) := by decide +kernel
theorem dX3_begin_37 : decode cX3_begin 37 = .ok (.iadd, 1) := by decide +kernel
theorem dX3_begin_38 : decode cX3_begin 38 = .ok (.putfield 32, 3) := by decide +kernel
theorem dX3_begin_41 : decode cX3_begin 41 = .ok (.iconst 0, 1) := by decide +kernel
theorem dX3_begin_42 : decode cX3_begin 42 = .ok (.istore_n 3, 1) := by decide +kernel
theorem dX3_begin_43 : decode cX3_begin 43 = .ok (.iload_n 3, 1) := by decide +kernel
theorem dX3_begin_44 : decode cX3_begin 44 = .ok (.iconst 5, 1) := by decide +kernel
theorem dX3_begin_45 : decode cX3_begin 45 = .ok (.if_icmp .ge 16, 3) := by decide +kernel
theorem dX3_begin_48 : decode cX3_begin 48 = .ok (.aload_n 0, 1) := by decide +kernel
theorem dX3_begin_49 : decode cX3_begin 49 = .ok (.getfield 22, 3) := by decide +kernel
theorem dX3_begin_52 : decode cX3_begin 52 = .ok (.iload_n 3, 1) := by decide +kernel
theorem dX3_begin_53 : decode cX3_begin 53 = .ok (.iconst 0, 1) := by decide +kernel
theorem dX3_begin_54 : decode cX3_begin 54 = .ok (.iastore, 1) := by decide +kernel
theorem dX3_begin_55 : decode cX3_begin 55 = .ok (.iinc 3 1, 3) := by decide +kernel
theorem dX3_begin_58 : decode cX3_begin 58 = .ok (.goto (-15), 3) := by decide +kernel
theorem dX3_begin_61 : decode cX3_begin 61 = .ok (.return_, 1) := by decide +kernel
theorem dX3_tallyOf_0 : decode cX3_tallyOf 0 = .ok (.iload_n 1, 1) := by decide +kernel
theorem dX3_tallyOf_1 : decode cX3_tallyOf 1 = .ok (.ifCond .lt 17, 3) := by decide +kernel
theorem dX3_tallyOf_4 : decode cX3_tallyOf 4 = .ok (.iload_n 1, 1) := by decide +kernel
theorem dX3_tallyOf_5 : decode cX3_tallyOf 5 = .ok (.iconst 5, 1) := by decide +kernel
theorem dX3_tallyOf_6 : decode cX3_tallyOf 6 = .ok (.if_icmp .ge 12, 3) := by decide +kernel
theorem dX3_tallyOf_9 : decode cX3_tallyOf 9 = .ok (.aload_n 0, 1) := by decide +kernel
theorem dX3_tallyOf_10 : decode cX3_tallyOf 10 = .ok (.getfield 22, 3) := by decide +kernel
theorem dX3_tallyOf_13 : decode cX3_tallyOf 13 = .ok (.iload_n 1, 1) := by decide +kernel
theorem dX3_tallyOf_14 : decode cX3_tallyOf 14 = .ok (.iaload, 1) := by decide +kernel
theorem dX3_tallyOf_15 : decode cX3_tallyOf 15 = .ok (.goto 4, 3) := by decide +kernel
theorem dX3_tallyOf_18 : decode cX3_tallyOf 18 = .ok (.iconst (-1), 1) := by decide +kernel
theorem dX3_tallyOf_19 : decode cX3_tallyOf 19 = .ok (.ireturn, 1) := by decide +kernel
theorem dX3_explore_0 : decode cX3_explore 0 = .ok (.iconst 0, 1) := by decide +kernel
theorem dX3_explore_1 : decode cX3_explore 1 = .ok (.istore_n 2, 1) := by decide +kernel
theorem dX3_explore_2 : decode cX3_explore 2 = .ok (.iconst 0, 1) := by decide +kernel
theorem dX3_explore_3 : decode cX3_explore 3 = .ok (.istore_n 3, 1) := by decide +kernel
theorem dX3_explore_4 : decode cX3_explore 4 = .ok (.iload_n 3, 1) := by decide +kernel
theorem dX3_explore_5 : decode cX3_explore 5 = .ok (.iconst 2, 1) := by decide +kernel
theorem dX3_explore_6 : decode cX3_explore 6 = .ok (.if_icmp .ge 106, 3) := by decide +kernel
theorem dX3_explore_9 : decode cX3_explore 9 = .ok (.iload_n 1, 1) := by decide +kernel
theorem dX3_explore_10 : decode cX3_explore 10 = .ok (.bipush 8, 2) := by decide +kernel
theorem dX3_explore_12 : decode cX3_explore 12 = .ok (.if_icmp .ge 100, 3) := by decide +kernel
theorem dX3_explore_15 : decode cX3_explore 15 = .ok (.iload_n 3, 1) := by decide +kernel
theorem dX3_explore_16 : decode cX3_explore 16 = .ok (.ifCond .ne 10, 3) := by decide +kernel
theorem dX3_explore_19 : decode cX3_explore 19 = .ok (.aload_n 0, 1) := by decide +kernel
theorem dX3_explore_20 : decode cX3_explore 20 = .ok (.getfield 25, 3) := by decide +kernel
theorem dX3_explore_23 : decode cX3_explore 23 = .ok (.goto 7, 3) := by decide +kernel
theorem dX3_explore_26 : decode cX3_explore 26 = .ok (.aload_n 0, 1) := by decide +kernel
theorem dX3_explore_27 : decode cX3_explore 27 = .ok (.getfield 29, 3) := by decide +kernel
theorem dX3_explore_30 : decode cX3_explore 30 = .ok (.istore 4, 2) := by decide +kernel
theorem dX3_explore_32 : decode cX3_explore 32 = .ok (.aload_n 0, 1) := by decide +kernel
theorem dX3_explore_33 : decode cX3_explore 33 = .ok (.getfield 9, 3) := by decide +kernel
theorem dX3_explore_36 : decode cX3_explore 36 = .ok (.getfield 35, 3) := by decide +kernel
theorem dX3_explore_39 : decode cX3_explore 39 = .ok (.iload 4, 2) := by decide +kernel
theorem dX3_explore_41 : decode cX3_explore 41 = .ok (.invokevirtual 41, 3) := by decide +kernel
theorem dX3_explore_44 : decode cX3_explore 44 = .ok (.ifCond .eq 62, 3) := by decide +kernel
theorem dX3_explore_47 : decode cX3_explore 47 = .ok (.iconst 1, 1) := by decide +kernel
theorem dX3_explore_48 : decode cX3_explore 48 = .ok (.istore_n 2, 1) := by decide +kernel
theorem dX3_explore_49 : decode cX3_explore 49 = .ok (.aload_n 0, 1) := by decide +kernel
theorem dX3_explore_50 : decode cX3_explore 50 = .ok (.getfield 15, 3) := by decide +kernel
theorem dX3_explore_53 : decode cX3_explore 53 = .ok (.iconst 0, 1) := by decide +kernel
theorem dX3_explore_54 : decode cX3_explore 54 = .ok (.aload_n 0, 1) := by decide +kernel
theorem dX3_explore_55 : decode cX3_explore 55 = .ok (.getfield 19, 3) := by decide +kernel
theorem dX3_explore_58 : decode cX3_explore 58 = .ok (.iload_n 1, 1) := by decide +kernel
theorem dX3_explore_59 : decode cX3_explore 59 = .ok (.sipush 773, 3) := by decide +kernel
theorem dX3_explore_62 : decode cX3_explore 62 = .ok (.imul, 1) := by decide +kernel
theorem dX3_explore_63 : decode cX3_explore 63 = .ok (.sipush 773, 3) := by decide +kernel
theorem dX3_explore_66 : decode cX3_explore 66 = .ok (.invokestatic 47, 3) := by decide +kernel
theorem dX3_explore_69 : decode cX3_explore 69 = .ok (.aload_n 0, 1) := by decide +kernel
theorem dX3_explore_70 : decode cX3_explore 70 = .ok (.getfield 9, 3) := by decide +kernel
theorem dX3_explore_73 : decode cX3_explore 73 = .ok (.iload 4, 2) := by decide +kernel
theorem dX3_explore_75 : decode cX3_explore 75 = .ok (.invokevirtual 53, 3) := by decide +kernel
theorem dX3_explore_78 : decode cX3_explore 78 = .ok (.pop, 1) := by decide +kernel
theorem dX3_explore_79 : decode cX3_explore 79 = .ok (.aload_n 0, 1) := by decide +kernel
theorem dX3_explore_80 : decode cX3_explore 80 = .ok (.iload_n 1, 1) := by decide +kernel
theorem dX3_explore_81 : decode cX3_explore 81 = .ok (.iconst 1, 1) := by decide +kernel
theorem dX3_explore_82 : decode cX3_explore 82 = .ok (.iadd, 1) := by decide +kernel
theorem dX3_explore_83 : decode cX3_explore 83 = .ok (.invokevirtual 57, 3) := by decide +kernel
theorem dX3_explore_86 : decode cX3_explore 86 = .ok (.aload_n 0, 1) := by decide +kernel
theorem dX3_explore_87 : decode cX3_explore 87 = .ok (.getfield 19, 3) := by decide +kernel
theorem dX3_explore_90 : decode cX3_explore 90 = .ok (.iload_n 1, 1) := by decide +kernel
theorem dX3_explore_91 : decode cX3_explore 91 = .ok (.sipush 773, 3) := by decide +kernel
theorem dX3_explore_94 : decode cX3_explore 94 = .ok (.imul, 1) := by decide +kernel
theorem dX3_explore_95 : decode cX3_explore 95 = .ok (.aload_n 0, 1) := by decide +kernel
theorem dX3_explore_96 : decode cX3_explore 96 = .ok (.getfield 15, 3) := by decide +kernel
theorem dX3_explore_99 : decode cX3_explore 99 = .ok (.iconst 0, 1) := by decide +kernel
theorem dX3_explore_100 : decode cX3_explore 100 = .ok (.sipush 773, 3) := by decide +kernel
theorem dX3_explore_103 : decode cX3_explore 103 = .ok (.invokestatic 47, 3) := by decide +kernel
theorem dX3_explore_106 : decode cX3_explore 106 = .ok (.iinc 3 1, 3) := by decide +kernel
theorem dX3_explore_109 : decode cX3_explore 109 = .ok (.goto (-105), 3) := by decide +kernel
theorem dX3_explore_112 : decode cX3_explore 112 = .ok (.iload_n 2, 1) := by decide +kernel
theorem dX3_explore_113 : decode cX3_explore 113 = .ok (.ifCond .ne 7, 3) := by decide +kernel
theorem dX3_explore_116 : decode cX3_explore 116 = .ok (.aload_n 0, 1) := by decide +kernel
theorem dX3_explore_117 : decode cX3_explore 117 = .ok (.invokevirtual 61, 3) := by decide +kernel
theorem dX3_explore_120 : decode cX3_explore 120 = .ok (.return_, 1) := by decide +kernel
theorem dX3_countEnd_0 : decode cX3_countEnd 0 = .ok (.aload_n 0, 1) := by decide +kernel
theorem dX3_countEnd_1 : decode cX3_countEnd 1 = .ok (.getfield 15, 3) := by decide +kernel
theorem dX3_countEnd_4 : decode cX3_countEnd 4 = .ok (.sipush 569, 3) := by decide +kernel
theorem dX3_countEnd_7 : decode cX3_countEnd 7 = .ok (.aload_n 0, 1) := by decide +kernel
theorem dX3_countEnd_8 : decode cX3_countEnd 8 = .ok (.getfield 25, 3) := by decide +kernel
theorem dX3_countEnd_11 : decode cX3_countEnd 11 = .ok (.iadd, 1) := by decide +kernel
theorem dX3_countEnd_12 : decode cX3_countEnd 12 = .ok (.iaload, 1) := by decide +kernel
theorem dX3_countEnd_13 : decode cX3_countEnd 13 = .ok (.aload_n 0, 1) := by decide +kernel
theorem dX3_countEnd_14 : decode cX3_countEnd 14 = .ok (.getfield 15, 3) := by decide +kernel
theorem dX3_countEnd_17 : decode cX3_countEnd 17 = .ok (.sipush 569, 3) := by decide +kernel
theorem dX3_countEnd_20 : decode cX3_countEnd 20 = .ok (.aload_n 0, 1) := by decide +kernel
theorem dX3_countEnd_21 : decode cX3_countEnd 21 = .ok (.getfield 29, 3) := by decide +kernel
theorem dX3_countEnd_24 : decode cX3_countEnd 24 = .ok (.iadd, 1) := by decide +kernel
theorem dX3_countEnd_25 : decode cX3_countEnd 25 = .ok (.iaload, 1) := by decide +kernel
theorem dX3_countEnd_26 : decode cX3_countEnd 26 = .ok (.iadd, 1) := by decide +kernel
theorem dX3_countEnd_27 : decode cX3_countEnd 27 = .ok (.aload_n 0, 1) := by decide +kernel
theorem dX3_countEnd_28 : decode cX3_countEnd 28 = .ok (.getfield 32, 3) := by decide +kernel
theorem dX3_countEnd_31 : decode cX3_countEnd 31 = .ok (.isub, 1) := by decide +kernel
theorem dX3_countEnd_32 : decode cX3_countEnd 32 = .ok (.istore_n 1, 1) := by decide +kernel
theorem dX3_countEnd_33 : decode cX3_countEnd 33 = .ok (.aload_n 0, 1) := by decide +kernel
theorem dX3_countEnd_34 : decode cX3_countEnd 34 = .ok (.getfield 22, 3) := by decide +kernel
theorem dX3_countEnd_37 : decode cX3_countEnd 37 = .ok (.iconst 3, 1) := by decide +kernel
theorem dX3_countEnd_38 : decode cX3_countEnd 38 = .ok (.aload_n 0, 1) := by decide +kernel
theorem dX3_countEnd_39 : decode cX3_countEnd 39 = .ok (.getfield 22, 3) := by decide +kernel
theorem dX3_countEnd_42 : decode cX3_countEnd 42 = .ok (.iconst 0, 1) := by decide +kernel
theorem dX3_countEnd_43 : decode cX3_countEnd 43 = .ok (.iaload, 1) := by decide +kernel
theorem dX3_countEnd_44 : decode cX3_countEnd 44 = .ok (.ifCond .ne 7, 3) := by decide +kernel
theorem dX3_countEnd_47 : decode cX3_countEnd 47 = .ok (.iload_n 1, 1) := by decide +kernel
theorem dX3_countEnd_48 : decode cX3_countEnd 48 = .ok (.goto 13, 3) := by decide +kernel
theorem dX3_countEnd_51 : decode cX3_countEnd 51 = .ok (.aload_n 0, 1) := by decide +kernel
theorem dX3_countEnd_52 : decode cX3_countEnd 52 = .ok (.getfield 22, 3) := by decide +kernel
theorem dX3_countEnd_55 : decode cX3_countEnd 55 = .ok (.iconst 3, 1) := by decide +kernel
theorem dX3_countEnd_56 : decode cX3_countEnd 56 = .ok (.iaload, 1) := by decide +kernel
theorem dX3_countEnd_57 : decode cX3_countEnd 57 = .ok (.iload_n 1, 1) := by decide +kernel
theorem dX3_countEnd_58 : decode cX3_countEnd 58 = .ok (.invokestatic 64, 3) := by decide +kernel
theorem dX3_countEnd_61 : decode cX3_countEnd 61 = .ok (.iastore, 1) := by decide +kernel
theorem dX3_countEnd_62 : decode cX3_countEnd 62 = .ok (.aload_n 0, 1) := by decide +kernel
theorem dX3_countEnd_63 : decode cX3_countEnd 63 = .ok (.getfield 22, 3) := by decide +kernel
theorem dX3_countEnd_66 : decode cX3_countEnd 66 = .ok (.iconst 4, 1) := by decide +kernel
theorem dX3_countEnd_67 : decode cX3_countEnd 67 = .ok (.aload_n 0, 1) := by decide +kernel
theorem dX3_countEnd_68 : decode cX3_countEnd 68 = .ok (.getfield 22, 3) := by decide +kernel
theorem dX3_countEnd_71 : decode cX3_countEnd 71 = .ok (.iconst 4, 1) := by decide +kernel
theorem dX3_countEnd_72 : decode cX3_countEnd 72 = .ok (.iaload, 1) := by decide +kernel
theorem dX3_countEnd_73 : decode cX3_countEnd 73 = .ok (.iload_n 1, 1) := by decide +kernel
theorem dX3_countEnd_74 : decode cX3_countEnd 74 = .ok (.invokestatic 70, 3) := by decide +kernel
theorem dX3_countEnd_77 : decode cX3_countEnd 77 = .ok (.iastore, 1) := by decide +kernel
theorem dX3_countEnd_78 : decode cX3_countEnd 78 = .ok (.aload_n 0, 1) := by decide +kernel
theorem dX3_countEnd_79 : decode cX3_countEnd 79 = .ok (.getfield 22, 3) := by decide +kernel
theorem dX3_countEnd_82 : decode cX3_countEnd 82 = .ok (.iconst 0, 1) := by decide +kernel
theorem dX3_countEnd_83 : decode cX3_countEnd 83 = .ok (.dup2, 1) := by decide +kernel
theorem dX3_countEnd_84 : decode cX3_countEnd 84 = .ok (.iaload, 1) := by decide +kernel
theorem dX3_countEnd_85 : decode cX3_countEnd 85 = .ok (.iconst 1, 1) := by decide +kernel
theorem dX3_countEnd_86 : decode cX3_countEnd 86 = .ok (.iadd, 1) := by decide +kernel
theorem dX3_countEnd_87 : decode cX3_countEnd 87 = .ok (.iastore, 1) := by decide +kernel
theorem dX3_countEnd_88 : decode cX3_countEnd 88 = .ok (.aload_n 0, 1) := by decide +kernel
theorem dX3_countEnd_89 : decode cX3_countEnd 89 = .ok (.getfield 15, 3) := by decide +kernel
theorem dX3_countEnd_92 : decode cX3_countEnd 92 = .ok (.sipush 539, 3) := by decide +kernel
theorem dX3_countEnd_95 : decode cX3_countEnd 95 = .ok (.aload_n 0, 1) := by decide +kernel
theorem dX3_countEnd_96 : decode cX3_countEnd 96 = .ok (.getfield 25, 3) := by decide +kernel
theorem dX3_countEnd_99 : decode cX3_countEnd 99 = .ok (.iadd, 1) := by decide +kernel
theorem dX3_countEnd_100 : decode cX3_countEnd 100 = .ok (.iaload, 1) := by decide +kernel
theorem dX3_countEnd_101 : decode cX3_countEnd 101 = .ok (.ifCond .ge 19, 3) := by decide +kernel
theorem dX3_countEnd_104 : decode cX3_countEnd 104 = .ok (.aload_n 0, 1) := by decide +kernel
theorem dX3_countEnd_105 : decode cX3_countEnd 105 = .ok (.getfield 15, 3) := by decide +kernel
theorem dX3_countEnd_108 : decode cX3_countEnd 108 = .ok (.sipush 539, 3) := by decide +kernel
theorem dX3_countEnd_111 : decode cX3_countEnd 111 = .ok (.aload_n 0, 1) := by decide +kernel
theorem dX3_countEnd_112 : decode cX3_countEnd 112 = .ok (.getfield 29, 3) := by decide +kernel
theorem dX3_countEnd_115 : decode cX3_countEnd 115 = .ok (.iadd, 1) := by decide +kernel
theorem dX3_countEnd_116 : decode cX3_countEnd 116 = .ok (.iaload, 1) := by decide +kernel
theorem dX3_countEnd_117 : decode cX3_countEnd 117 = .ok (.ifCond .lt 13, 3) := by decide +kernel
theorem dX3_countEnd_120 : decode cX3_countEnd 120 = .ok (.aload_n 0, 1) := by decide +kernel
theorem dX3_countEnd_121 : decode cX3_countEnd 121 = .ok (.getfield 22, 3) := by decide +kernel
theorem dX3_countEnd_124 : decode cX3_countEnd 124 = .ok (.iconst 1, 1) := by decide +kernel
theorem dX3_countEnd_125 : decode cX3_countEnd 125 = .ok (.dup2, 1) := by decide +kernel
theorem dX3_countEnd_126 : decode cX3_countEnd 126 = .ok (.iaload, 1) := by decide +kernel
theorem dX3_countEnd_127 : decode cX3_countEnd 127 = .ok (.iconst 1, 1) := by decide +kernel
theorem dX3_countEnd_128 : decode cX3_countEnd 128 = .ok (.iadd, 1) := by decide +kernel
theorem dX3_countEnd_129 : decode cX3_countEnd 129 = .ok (.iastore, 1) := by decide +kernel
theorem dX3_countEnd_130 : decode cX3_countEnd 130 = .ok (.aload_n 0, 1) := by decide +kernel
theorem dX3_countEnd_131 : decode cX3_countEnd 131 = .ok (.aload_n 0, 1) := by decide +kernel
theorem dX3_countEnd_132 : decode cX3_countEnd 132 = .ok (.getfield 25, 3) := by decide +kernel
theorem dX3_countEnd_135 : decode cX3_countEnd 135 = .ok (.invokevirtual 73, 3) := by decide +kernel
theorem dX3_countEnd_138 : decode cX3_countEnd 138 = .ok (.ifCond .ne 14, 3) := by decide +kernel
theorem dX3_countEnd_141 : decode cX3_countEnd 141 = .ok (.aload_n 0, 1) := by decide +kernel
theorem dX3_countEnd_142 : decode cX3_countEnd 142 = .ok (.aload_n 0, 1) := by decide +kernel
theorem dX3_countEnd_143 : decode cX3_countEnd 143 = .ok (.getfield 29, 3) := by decide +kernel
theorem dX3_countEnd_146 : decode cX3_countEnd 146 = .ok (.invokevirtual 73, 3) := by decide +kernel
theorem dX3_countEnd_149 : decode cX3_countEnd 149 = .ok (.ifCond .eq 13, 3) := by decide +kernel
theorem dX3_countEnd_152 : decode cX3_countEnd 152 = .ok (.aload_n 0, 1) := by decide +kernel
theorem dX3_countEnd_153 : decode cX3_countEnd 153 = .ok (.getfield 22, 3) := by decide +kernel
theorem dX3_countEnd_156 : decode cX3_countEnd 156 = .ok (.iconst 2, 1) := by decide +kernel
theorem dX3_countEnd_157 : decode cX3_countEnd 157 = .ok (.dup2, 1) := by decide +kernel
theorem dX3_countEnd_158 : decode cX3_countEnd 158 = .ok (.iaload, 1) := by decide +kernel
theorem dX3_countEnd_159 : decode cX3_countEnd 159 = .ok (.iconst 1, 1) := by decide +kernel
theorem dX3_countEnd_160 : decode cX3_countEnd 160 = .ok (.iadd, 1) := by decide +kernel
theorem dX3_countEnd_161 : decode cX3_countEnd 161 = .ok (.iastore, 1) := by decide +kernel
theorem dX3_countEnd_162 : decode cX3_countEnd 162 = .ok (.return_, 1) := by decide +kernel
theorem dX3_missesSome_0 : decode cX3_missesSome 0 = .ok (.aload_n 0, 1) := by decide +kernel
theorem dX3_missesSome_1 : decode cX3_missesSome 1 = .ok (.getfield 15, 3) := by decide +kernel
theorem dX3_missesSome_4 : decode cX3_missesSome 4 = .ok (.sipush 539, 3) := by decide +kernel
theorem dX3_missesSome_7 : decode cX3_missesSome 7 = .ok (.iload_n 1, 1) := by decide +kernel
theorem dX3_missesSome_8 : decode cX3_missesSome 8 = .ok (.iadd, 1) := by decide +kernel
theorem dX3_missesSome_9 : decode cX3_missesSome 9 = .ok (.iaload, 1) := by decide +kernel
theorem dX3_missesSome_10 : decode cX3_missesSome 10 = .ok (.istore_n 2, 1) := by decide +kernel
theorem dX3_missesSome_11 : decode cX3_missesSome 11 = .ok (.iload_n 2, 1) := by decide +kernel
theorem dX3_missesSome_12 : decode cX3_missesSome 12 = .ok (.ifCond .lt 22, 3) := by decide +kernel
theorem dX3_missesSome_15 : decode cX3_missesSome 15 = .ok (.aload_n 0, 1) := by decide +kernel
theorem dX3_missesSome_16 : decode cX3_missesSome 16 = .ok (.getfield 9, 3) := by decide +kernel
theorem dX3_missesSome_19 : decode cX3_missesSome 19 = .ok (.getfield 76, 3) := by decide +kernel
theorem dX3_missesSome_22 : decode cX3_missesSome 22 = .ok (.iload_n 2, 1) := by decide +kernel
theorem dX3_missesSome_23 : decode cX3_missesSome 23 = .ok (.iconst 0, 1) := by decide +kernel
theorem dX3_missesSome_24 : decode cX3_missesSome 24 = .ok (.invokevirtual 80, 3) := by decide +kernel
theorem dX3_missesSome_27 : decode cX3_missesSome 27 = .ok (.ifCond .eq 7, 3) := by decide +kernel
theorem dX3_missesSome_30 : decode cX3_missesSome 30 = .ok (.iconst 1, 1) := by decide +kernel
theorem dX3_missesSome_31 : decode cX3_missesSome 31 = .ok (.goto 4, 3) := by decide +kernel
theorem dX3_missesSome_34 : decode cX3_missesSome 34 = .ok (.iconst 0, 1) := by decide +kernel
theorem dX3_missesSome_35 : decode cX3_missesSome 35 = .ok (.ireturn, 1) := by decide +kernel
theorem dX4_init_0 : decode cX4_init 0 = .ok (.aload_n 0, 1) := by decide +kernel
theorem dX4_init_1 : decode cX4_init 1 = .ok (.invokespecial 3, 3) := by decide +kernel
theorem dX4_init_4 : decode cX4_init 4 = .ok (.aload_n 0, 1) := by decide +kernel
theorem dX4_init_5 : decode cX4_init 5 = .ok (.aload_n 1, 1) := by decide +kernel
theorem dX4_init_6 : decode cX4_init 6 = .ok (.putfield 9, 3) := by decide +kernel
theorem dX4_init_9 : decode cX4_init 9 = .ok (.return_, 1) := by decide +kernel
theorem dX4_asleep_0 : decode cX4_asleep 0 = .ok (.iconst 0, 1) := by decide +kernel
theorem dX4_asleep_1 : decode cX4_asleep 1 = .ok (.istore_n 1, 1) := by decide +kernel
theorem dX4_asleep_2 : decode cX4_asleep 2 = .ok (.iconst 0, 1) := by decide +kernel
theorem dX4_asleep_3 : decode cX4_asleep 3 = .ok (.istore_n 2, 1) := by decide +kernel
theorem dX4_asleep_4 : decode cX4_asleep 4 = .ok (.iload_n 2, 1) := by decide +kernel
theorem dX4_asleep_5 : decode cX4_asleep 5 = .ok (.bipush 6, 2) := by decide +kernel
theorem dX4_asleep_7 : decode cX4_asleep 7 = .ok (.if_icmp .ge 28, 3) := by decide +kernel
theorem dX4_asleep_10 : decode cX4_asleep 10 = .ok (.aload_n 0, 1) := by decide +kernel
theorem dX4_asleep_11 : decode cX4_asleep 11 = .ok (.getfield 9, 3) := by decide +kernel
theorem dX4_asleep_14 : decode cX4_asleep 14 = .ok (.sipush 539, 3) := by decide +kernel
theorem dX4_asleep_17 : decode cX4_asleep 17 = .ok (.iload_n 2, 1) := by decide +kernel
theorem dX4_asleep_18 : decode cX4_asleep 18 = .ok (.iadd, 1) := by decide +kernel
theorem dX4_asleep_19 : decode cX4_asleep 19 = .ok (.iaload, 1) := by decide +kernel
theorem dX4_asleep_20 : decode cX4_asleep 20 = .ok (.ifCond .lt 9, 3) := by decide +kernel
theorem dX4_asleep_23 : decode cX4_asleep 23 = .ok (.iload_n 1, 1) := by decide +kernel
theorem dX4_asleep_24 : decode cX4_asleep 24 = .ok (.iconst 1, 1) := by decide +kernel
theorem dX4_asleep_25 : decode cX4_asleep 25 = .ok (.iload_n 2, 1) := by decide +kernel
theorem dX4_asleep_26 : decode cX4_asleep 26 = .ok (.ishl, 1) := by decide +kernel
theorem dX4_asleep_27 : decode cX4_asleep 27 = .ok (.ior, 1) := by decide +kernel
theorem dX4_asleep_28 : decode cX4_asleep 28 = .ok (.istore_n 1, 1) := by decide +kernel
theorem dX4_asleep_29 : decode cX4_asleep 29 = .ok (.iinc 2 1, 3) := by decide +kernel
theorem dX4_asleep_32 : decode cX4_asleep 32 = .ok (.goto (-28), 3) := by decide +kernel
theorem dX4_asleep_35 : decode cX4_asleep 35 = .ok (.iload_n 1, 1) := by decide +kernel
theorem dX4_asleep_36 : decode cX4_asleep 36 = .ok (.ireturn, 1) := by decide +kernel
theorem dX4_sleepersAt_0 : decode cX4_sleepersAt 0 = .ok (.iconst 0, 1) := by decide +kernel
theorem dX4_sleepersAt_1 : decode cX4_sleepersAt 1 = .ok (.istore_n 2, 1) := by decide +kernel
theorem dX4_sleepersAt_2 : decode cX4_sleepersAt 2 = .ok (.iconst 0, 1) := by decide +kernel
theorem dX4_sleepersAt_3 : decode cX4_sleepersAt 3 = .ok (.istore_n 3, 1) := by decide +kernel
theorem dX4_sleepersAt_4 : decode cX4_sleepersAt 4 = .ok (.iload_n 3, 1) := by decide +kernel
theorem dX4_sleepersAt_5 : decode cX4_sleepersAt 5 = .ok (.bipush 6, 2) := by decide +kernel
theorem dX4_sleepersAt_7 : decode cX4_sleepersAt 7 = .ok (.if_icmp .ge 26, 3) := by decide +kernel
theorem dX4_sleepersAt_10 : decode cX4_sleepersAt 10 = .ok (.aload_n 0, 1) := by decide +kernel
theorem dX4_sleepersAt_11 : decode cX4_sleepersAt 11 = .ok (.getfield 9, 3) := by decide +kernel
theorem dX4_sleepersAt_14 : decode cX4_sleepersAt 14 = .ok (.sipush 539, 3) := by decide +kernel
theorem dX4_sleepersAt_17 : decode cX4_sleepersAt 17 = .ok (.iload_n 3, 1) := by decide +kernel
theorem dX4_sleepersAt_18 : decode cX4_sleepersAt 18 = .ok (.iadd, 1) := by decide +kernel
theorem dX4_sleepersAt_19 : decode cX4_sleepersAt 19 = .ok (.iaload, 1) := by decide +kernel
theorem dX4_sleepersAt_20 : decode cX4_sleepersAt 20 = .ok (.iload_n 1, 1) := by decide +kernel
theorem dX4_sleepersAt_21 : decode cX4_sleepersAt 21 = .ok (.if_icmp .ne 6, 3) := by decide +kernel
theorem dX4_sleepersAt_24 : decode cX4_sleepersAt 24 = .ok (.iinc 2 1, 3) := by decide +kernel
theorem dX4_sleepersAt_27 : decode cX4_sleepersAt 27 = .ok (.iinc 3 1, 3) := by decide +kernel
theorem dX4_sleepersAt_30 : decode cX4_sleepersAt 30 = .ok (.goto (-26), 3) := by decide +kernel
theorem dX4_sleepersAt_33 : decode cX4_sleepersAt 33 = .ok (.iload_n 2, 1) := by decide +kernel
theorem dX4_sleepersAt_34 : decode cX4_sleepersAt 34 = .ok (.ireturn, 1) := by decide +kernel
theorem dX4_firstSleeper_0 : decode cX4_firstSleeper 0 = .ok (.iconst (-1), 1) := by decide +kernel
theorem dX4_firstSleeper_1 : decode cX4_firstSleeper 1 = .ok (.istore_n 2, 1) := by decide +kernel
theorem dX4_firstSleeper_2 : decode cX4_firstSleeper 2 = .ok (.iconst 0, 1) := by decide +kernel
theorem dX4_firstSleeper_3 : decode cX4_firstSleeper 3 = .ok (.istore_n 3, 1) := by decide +kernel
theorem dX4_firstSleeper_4 : decode cX4_firstSleeper 4 = .ok (.iload_n 3, 1) := by decide +kernel
theorem dX4_firstSleeper_5 : decode cX4_firstSleeper 5 = .ok (.bipush 6, 2) := by decide +kernel
theorem dX4_firstSleeper_7 : decode cX4_firstSleeper 7 = .ok (.if_icmp .ge 52, 3) := by decide +kernel
theorem dX4_firstSleeper_10 : decode cX4_firstSleeper 10 = .ok (.aload_n 0, 1) := by decide +kernel
theorem dX4_firstSleeper_11 : decode cX4_firstSleeper 11 = .ok (.getfield 9, 3) := by decide +kernel
theorem dX4_firstSleeper_14 : decode cX4_firstSleeper 14 = .ok (.sipush 539, 3) := by decide +kernel
theorem dX4_firstSleeper_17 : decode cX4_firstSleeper 17 = .ok (.iload_n 3, 1) := by decide +kernel
theorem dX4_firstSleeper_18 : decode cX4_firstSleeper 18 = .ok (.iadd, 1) := by decide +kernel
theorem dX4_firstSleeper_19 : decode cX4_firstSleeper 19 = .ok (.iaload, 1) := by decide +kernel
theorem dX4_firstSleeper_20 : decode cX4_firstSleeper 20 = .ok (.iload_n 1, 1) := by decide +kernel
theorem dX4_firstSleeper_21 : decode cX4_firstSleeper 21 = .ok (.if_icmp .ne 32, 3) := by decide +kernel
theorem dX4_firstSleeper_24 : decode cX4_firstSleeper 24 = .ok (.iload_n 2, 1) := by decide +kernel
theorem dX4_firstSleeper_25 : decode cX4_firstSleeper 25 = .ok (.ifCond .lt 26, 3) := by decide +kernel
theorem dX4_firstSleeper_28 : decode cX4_firstSleeper 28 = .ok (.aload_n 0, 1) := by decide +kernel
theorem dX4_firstSleeper_29 : decode cX4_firstSleeper 29 = .ok (.getfield 9, 3) := by decide +kernel
theorem dX4_firstSleeper_32 : decode cX4_firstSleeper 32 = .ok (.sipush 545, 3) := by decide +kernel
theorem dX4_firstSleeper_35 : decode cX4_firstSleeper 35 = .ok (.iload_n 3, 1) := by decide +kernel
theorem dX4_firstSleeper_36 : decode cX4_firstSleeper 36 = .ok (.iadd, 1) := by decide +kernel
theorem dX4_firstSleeper_37 : decode cX4_firstSleeper 37 = .ok (.iaload, 1) := by decide +kernel
theorem dX4_firstSleeper_38 : decode cX4_firstSleeper 38 = .ok (.aload_n 0, 1) := by decide +kernel
theorem dX4_firstSleeper_39 : decode cX4_firstSleeper 39 = .ok (.getfield 9, 3) := by decide +kernel
theorem dX4_firstSleeper_42 : decode cX4_firstSleeper 42 = .ok (.sipush 545, 3) := by decide +kernel
theorem dX4_firstSleeper_45 : decode cX4_firstSleeper 45 = .ok (.iload_n 2, 1) := by decide +kernel
theorem dX4_firstSleeper_46 : decode cX4_firstSleeper 46 = .ok (.iadd, 1) := by decide +kernel
theorem dX4_firstSleeper_47 : decode cX4_firstSleeper 47 = .ok (.iaload, 1) := by decide +kernel
theorem dX4_firstSleeper_48 : decode cX4_firstSleeper 48 = .ok (.if_icmp .ge 5, 3) := by decide +kernel
theorem dX4_firstSleeper_51 : decode cX4_firstSleeper 51 = .ok (.iload_n 3, 1) := by decide +kernel
theorem dX4_firstSleeper_52 : decode cX4_firstSleeper 52 = .ok (.istore_n 2, 1) := by decide +kernel
theorem dX4_firstSleeper_53 : decode cX4_firstSleeper 53 = .ok (.iinc 3 1, 3) := by decide +kernel
theorem dX4_firstSleeper_56 : decode cX4_firstSleeper 56 = .ok (.goto (-52), 3) := by decide +kernel
theorem dX4_firstSleeper_59 : decode cX4_firstSleeper 59 = .ok (.iload_n 2, 1) := by decide +kernel
theorem dX4_firstSleeper_60 : decode cX4_firstSleeper 60 = .ok (.ireturn, 1) := by decide +kernel
theorem dX4_sleeping_0 : decode cX4_sleeping 0 = .ok (.iconst 0, 1) := by decide +kernel
theorem dX4_sleeping_1 : decode cX4_sleeping 1 = .ok (.istore_n 3, 1) := by decide +kernel
theorem dX4_sleeping_2 : decode cX4_sleeping 2 = .ok (.iload_n 3, 1) := by decide +kernel
theorem dX4_sleeping_3 : decode cX4_sleeping 3 = .ok (.bipush 6, 2) := by decide +kernel
theorem dX4_sleeping_5 : decode cX4_sleeping 5 = .ok (.if_icmp .ge 34, 3) := by decide +kernel
theorem dX4_sleeping_8 : decode cX4_sleeping 8 = .ok (.aload_n 0, 1) := by decide +kernel
theorem dX4_sleeping_9 : decode cX4_sleeping 9 = .ok (.getfield 9, 3) := by decide +kernel
theorem dX4_sleeping_12 : decode cX4_sleeping 12 = .ok (.sipush 539, 3) := by decide +kernel
theorem dX4_sleeping_15 : decode cX4_sleeping 15 = .ok (.iload_n 3, 1) := by decide +kernel
theorem dX4_sleeping_16 : decode cX4_sleeping 16 = .ok (.iadd, 1) := by decide +kernel
theorem dX4_sleeping_17 : decode cX4_sleeping 17 = .ok (.iaload, 1) := by decide +kernel
theorem dX4_sleeping_18 : decode cX4_sleeping 18 = .ok (.iload_n 1, 1) := by decide +kernel
theorem dX4_sleeping_19 : decode cX4_sleeping 19 = .ok (.if_icmp .ne 14, 3) := by decide +kernel
theorem dX4_sleeping_22 : decode cX4_sleeping 22 = .ok (.aload_n 0, 1) := by decide +kernel
theorem dX4_sleeping_23 : decode cX4_sleeping 23 = .ok (.iload_n 3, 1) := by decide +kernel
theorem dX4_sleeping_24 : decode cX4_sleeping 24 = .ok (.invokevirtual 15, 3) := by decide +kernel
theorem dX4_sleeping_27 : decode cX4_sleeping 27 = .ok (.iload_n 2, 1) := by decide +kernel
theorem dX4_sleeping_28 : decode cX4_sleeping 28 = .ok (.if_icmp .ne 5, 3) := by decide +kernel
theorem dX4_sleeping_31 : decode cX4_sleeping 31 = .ok (.iload_n 3, 1) := by decide +kernel
theorem dX4_sleeping_32 : decode cX4_sleeping 32 = .ok (.ireturn, 1) := by decide +kernel
theorem dX4_sleeping_33 : decode cX4_sleeping 33 = .ok (.iinc 3 1, 3) := by decide +kernel
theorem dX4_sleeping_36 : decode cX4_sleeping 36 = .ok (.goto (-34), 3) := by decide +kernel
theorem dX4_sleeping_39 : decode cX4_sleeping 39 = .ok (.iconst (-1), 1) := by decide +kernel
theorem dX4_sleeping_40 : decode cX4_sleeping 40 = .ok (.ireturn, 1) := by decide +kernel
theorem dX4_sleepersAhead_0 : decode cX4_sleepersAhead 0 = .ok (.iconst 0, 1) := by decide +kernel
theorem dX4_sleepersAhead_1 : decode cX4_sleepersAhead 1 = .ok (.istore_n 2, 1) := by decide +kernel
theorem dX4_sleepersAhead_2 : decode cX4_sleepersAhead 2 = .ok (.iconst 0, 1) := by decide +kernel
theorem dX4_sleepersAhead_3 : decode cX4_sleepersAhead 3 = .ok (.istore_n 3, 1) := by decide +kernel
theorem dX4_sleepersAhead_4 : decode cX4_sleepersAhead 4 = .ok (.iload_n 3, 1) := by decide +kernel
theorem dX4_sleepersAhead_5 : decode cX4_sleepersAhead 5 = .ok (.bipush 6, 2) := by decide +kernel
theorem dX4_sleepersAhead_7 : decode cX4_sleepersAhead 7 = .ok (.if_icmp .ge 58, 3) := by decide +kernel
theorem dX4_sleepersAhead_10 : decode cX4_sleepersAhead 10 = .ok (.aload_n 0, 1) := by decide +kernel
theorem dX4_sleepersAhead_11 : decode cX4_sleepersAhead 11 = .ok (.getfield 9, 3) := by decide +kernel
theorem dX4_sleepersAhead_14 : decode cX4_sleepersAhead 14 = .ok (.sipush 539, 3) := by decide +kernel
theorem dX4_sleepersAhead_17 : decode cX4_sleepersAhead 17 = .ok (.iload_n 3, 1) := by decide +kernel
theorem dX4_sleepersAhead_18 : decode cX4_sleepersAhead 18 = .ok (.iadd, 1) := by decide +kernel
theorem dX4_sleepersAhead_19 : decode cX4_sleepersAhead 19 = .ok (.iaload, 1) := by decide +kernel
theorem dX4_sleepersAhead_20 : decode cX4_sleepersAhead 20 = .ok (.aload_n 0, 1) := by decide +kernel
theorem dX4_sleepersAhead_21 : decode cX4_sleepersAhead 21 = .ok (.getfield 9, 3) := by decide +kernel
theorem dX4_sleepersAhead_24 : decode cX4_sleepersAhead 24 = .ok (.sipush 539, 3) := by decide +kernel
theorem dX4_sleepersAhead_27 : decode cX4_sleepersAhead 27 = .ok (.iload_n 1, 1) := by decide +kernel
theorem dX4_sleepersAhead_28 : decode cX4_sleepersAhead 28 = .ok (.iadd, 1) := by decide +kernel
theorem dX4_sleepersAhead_29 : decode cX4_sleepersAhead 29 = .ok (.iaload, 1) := by decide +kernel
theorem dX4_sleepersAhead_30 : decode cX4_sleepersAhead 30 = .ok (.if_icmp .ne 29, 3) := by decide +kernel
theorem dX4_sleepersAhead_33 : decode cX4_sleepersAhead 33 = .ok (.aload_n 0, 1) := by decide +kernel
theorem dX4_sleepersAhead_34 : decode cX4_sleepersAhead 34 = .ok (.getfield 9, 3) := by decide +kernel
theorem dX4_sleepersAhead_37 : decode cX4_sleepersAhead 37 = .ok (.sipush 545, 3) := by decide +kernel
theorem dX4_sleepersAhead_40 : decode cX4_sleepersAhead 40 = .ok (.iload_n 3, 1) := by decide +kernel
theorem dX4_sleepersAhead_41 : decode cX4_sleepersAhead 41 = .ok (.iadd, 1) := by decide +kernel
theorem dX4_sleepersAhead_42 : decode cX4_sleepersAhead 42 = .ok (.iaload, 1) := by decide +kernel
theorem dX4_sleepersAhead_43 : decode cX4_sleepersAhead 43 = .ok (.aload_n 0, 1) := by decide +kernel
theorem dX4_sleepersAhead_44 : decode cX4_sleepersAhead 44 = .ok (.getfield 9, 3) := by decide +kernel
theorem dX4_sleepersAhead_47 : decode cX4_sleepersAhead 47 = .ok (.sipush 545, 3) := by decide +kernel
theorem dX4_sleepersAhead_50 : decode cX4_sleepersAhead 50 = .ok (.iload_n 1, 1) := by decide +kernel
theorem dX4_sleepersAhead_51 : decode cX4_sleepersAhead 51 = .ok (.iadd, 1) := by decide +kernel
theorem dX4_sleepersAhead_52 : decode cX4_sleepersAhead 52 = .ok (.iaload, 1) := by decide +kernel
theorem dX4_sleepersAhead_53 : decode cX4_sleepersAhead 53 = .ok (.if_icmp .ge 6, 3) := by decide +kernel
theorem dX4_sleepersAhead_56 : decode cX4_sleepersAhead 56 = .ok (.iinc 2 1, 3) := by decide +kernel
theorem dX4_sleepersAhead_59 : decode cX4_sleepersAhead 59 = .ok (.iinc 3 1, 3) := by decide +kernel
theorem dX4_sleepersAhead_62 : decode cX4_sleepersAhead 62 = .ok (.goto (-58), 3) := by decide +kernel
theorem dX4_sleepersAhead_65 : decode cX4_sleepersAhead 65 = .ok (.iload_n 2, 1) := by decide +kernel
theorem dX4_sleepersAhead_66 : decode cX4_sleepersAhead 66 = .ok (.ireturn, 1) := by decide +kernel
theorem dX4_fallAsleep_0 : decode cX4_fallAsleep 0 = .ok (.aload_n 0, 1) := by decide +kernel
theorem dX4_fallAsleep_1 : decode cX4_fallAsleep 1 = .ok (.getfield 9, 3) := by decide +kernel
theorem dX4_fallAsleep_4 : decode cX4_fallAsleep 4 = .ok (.sipush 539, 3) := by decide +kernel
theorem dX4_fallAsleep_7 : decode cX4_fallAsleep 7 = .ok (.iload_n 1, 1) := by decide +kernel
theorem dX4_fallAsleep_8 : decode cX4_fallAsleep 8 = .ok (.iadd, 1) := by decide +kernel
theorem dX4_fallAsleep_9 : decode cX4_fallAsleep 9 = .ok (.iload_n 2, 1) := by decide +kernel
theorem dX4_fallAsleep_10 : decode cX4_fallAsleep 10 = .ok (.iastore, 1) := by decide +kernel
theorem dX4_fallAsleep_11 : decode cX4_fallAsleep 11 = .ok (.aload_n 0, 1) := by decide +kernel
theorem dX4_fallAsleep_12 : decode cX4_fallAsleep 12 = .ok (.getfield 9, 3) := by decide +kernel
theorem dX4_fallAsleep_15 : decode cX4_fallAsleep 15 = .ok (.sipush 545, 3) := by decide +kernel
theorem dX4_fallAsleep_18 : decode cX4_fallAsleep 18 = .ok (.iload_n 1, 1) := by decide +kernel
theorem dX4_fallAsleep_19 : decode cX4_fallAsleep 19 = .ok (.iadd, 1) := by decide +kernel
theorem dX4_fallAsleep_20 : decode cX4_fallAsleep 20 = .ok (.aload_n 0, 1) := by decide +kernel
theorem dX4_fallAsleep_21 : decode cX4_fallAsleep 21 = .ok (.getfield 9, 3) := by decide +kernel
theorem dX4_fallAsleep_24 : decode cX4_fallAsleep 24 = .ok (.iconst 1, 1) := by decide +kernel
theorem dX4_fallAsleep_25 : decode cX4_fallAsleep 25 = .ok (.dup2, 1) := by decide +kernel
theorem dX4_fallAsleep_26 : decode cX4_fallAsleep 26 = .ok (.iaload, 1) := by decide +kernel
theorem dX4_fallAsleep_27 : decode cX4_fallAsleep 27 = .ok (.dup_x2, 1) := by decide +kernel
theorem dX4_fallAsleep_28 : decode cX4_fallAsleep 28 = .ok (.iconst 1, 1) := by decide +kernel
theorem dX4_fallAsleep_29 : decode cX4_fallAsleep 29 = .ok (.iadd, 1) := by decide +kernel
theorem dX4_fallAsleep_30 : decode cX4_fallAsleep 30 = .ok (.iastore, 1) := by decide +kernel
theorem dX4_fallAsleep_31 : decode cX4_fallAsleep 31 = .ok (.iastore, 1) := by decide +kernel
theorem dX4_fallAsleep_32 : decode cX4_fallAsleep 32 = .ok (.aload_n 0, 1) := by decide +kernel
theorem dX4_fallAsleep_33 : decode cX4_fallAsleep 33 = .ok (.getfield 9, 3) := by decide +kernel
theorem dX4_fallAsleep_36 : decode cX4_fallAsleep 36 = .ok (.sipush 551, 3) := by decide +kernel
theorem dX4_fallAsleep_39 : decode cX4_fallAsleep 39 = .ok (.iload_n 1, 1) := by decide +kernel
theorem dX4_fallAsleep_40 : decode cX4_fallAsleep 40 = .ok (.iadd, 1) := by decide +kernel
theorem dX4_fallAsleep_41 : decode cX4_fallAsleep 41 = .ok (.iload_n 3, 1) := by decide +kernel
theorem dX4_fallAsleep_42 : decode cX4_fallAsleep 42 = .ok (.iastore, 1) := by decide +kernel
theorem dX4_fallAsleep_43 : decode cX4_fallAsleep 43 = .ok (.aload_n 0, 1) := by decide +kernel
theorem dX4_fallAsleep_44 : decode cX4_fallAsleep 44 = .ok (.getfield 9, 3) := by decide +kernel
theorem dX4_fallAsleep_47 : decode cX4_fallAsleep 47 = .ok (.sipush 557, 3) := by decide +kernel
theorem dX4_fallAsleep_50 : decode cX4_fallAsleep 50 = .ok (.iload_n 1, 1) := by decide +kernel
theorem dX4_fallAsleep_51 : decode cX4_fallAsleep 51 = .ok (.iadd, 1) := by decide +kernel
theorem dX4_fallAsleep_52 : decode cX4_fallAsleep 52 = .ok (.iload 4, 2) := by decide +kernel
theorem dX4_fallAsleep_54 : decode cX4_fallAsleep 54 = .ok (.ifCond .ne 7, 3) := by decide +kernel
theorem dX4_fallAsleep_57 : decode cX4_fallAsleep 57 = .ok (.iconst (-1), 1) := by decide +kernel
theorem dX4_fallAsleep_58 : decode cX4_fallAsleep 58 = .ok (.goto 12, 3) := by decide +kernel
theorem dX4_fallAsleep_61 : decode cX4_fallAsleep 61 = .ok (.aload_n 0, 1) := by decide +kernel
theorem dX4_fallAsleep_62 : decode cX4_fallAsleep 62 = .ok (.getfield 9, 3) := by decide +kernel
theorem dX4_fallAsleep_65 : decode cX4_fallAsleep 65 = .ok (.iconst 0, 1) := by decide +kernel
theorem dX4_fallAsleep_66 : decode cX4_fallAsleep 66 = .ok (.iaload, 1) := by decide +kernel
theorem dX4_fallAsleep_67 : decode cX4_fallAsleep 67 = .ok (.iload 4, 2) := by decide +kernel
theorem dX4_fallAsleep_69 : decode cX4_fallAsleep 69 = .ok (.iadd, 1) := by decide +kernel
theorem dX4_fallAsleep_70 : decode cX4_fallAsleep 70 = .ok (.iastore, 1) := by decide +kernel
theorem dX4_fallAsleep_71 : decode cX4_fallAsleep 71 = .ok (.return_, 1) := by decide +kernel
theorem dX4_getUp_0 : decode cX4_getUp 0 = .ok (.aload_n 0, 1) := by decide +kernel
theorem dX4_getUp_1 : decode cX4_getUp 1 = .ok (.getfield 9, 3) := by decide +kernel
theorem dX4_getUp_4 : decode cX4_getUp 4 = .ok (.sipush 539, 3) := by decide +kernel
theorem dX4_getUp_7 : decode cX4_getUp 7 = .ok (.iload_n 1, 1) := by decide +kernel
theorem dX4_getUp_8 : decode cX4_getUp 8 = .ok (.iadd, 1) := by decide +kernel
theorem dX4_getUp_9 : decode cX4_getUp 9 = .ok (.iconst (-1), 1) := by decide +kernel
theorem dX4_getUp_10 : decode cX4_getUp 10 = .ok (.iastore, 1) := by decide +kernel
theorem dX4_getUp_11 : decode cX4_getUp 11 = .ok (.aload_n 0, 1) := by decide +kernel
theorem dX4_getUp_12 : decode cX4_getUp 12 = .ok (.getfield 9, 3) := by decide +kernel
theorem dX4_getUp_15 : decode cX4_getUp 15 = .ok (.sipush 557, 3) := by decide +kernel
theorem dX4_getUp_18 : decode cX4_getUp 18 = .ok (.iload_n 1, 1) := by decide +kernel
theorem dX4_getUp_19 : decode cX4_getUp 19 = .ok (.iadd, 1) := by decide +kernel
theorem dX4_getUp_20 : decode cX4_getUp 20 = .ok (.iconst (-1), 1) := by decide +kernel
theorem dX4_getUp_21 : decode cX4_getUp 21 = .ok (.iastore, 1) := by decide +kernel
theorem dX4_getUp_22 : decode cX4_getUp 22 = .ok (.return_, 1) := by decide +kernel
theorem dX4_giveUp_0 : decode cX4_giveUp 0 = .ok (.aload_n 0, 1) := by decide +kernel
theorem dX4_giveUp_1 : decode cX4_giveUp 1 = .ok (.iload_n 1, 1) := by decide +kernel
theorem dX4_giveUp_2 : decode cX4_giveUp 2 = .ok (.invokevirtual 19, 3) := by decide +kernel
theorem dX4_giveUp_5 : decode cX4_giveUp 5 = .ok (.aload_n 0, 1) := by decide +kernel
theorem dX4_giveUp_6 : decode cX4_giveUp 6 = .ok (.getfield 9, 3) := by decide +kernel
theorem dX4_giveUp_9 : decode cX4_giveUp 9 = .ok (.sipush 563, 3) := by decide +kernel
theorem dX4_giveUp_12 : decode cX4_giveUp 12 = .ok (.iload_n 1, 1) := by decide +kernel
theorem dX4_giveUp_13 : decode cX4_giveUp 13 = .ok (.iadd, 1) := by decide +kernel
theorem dX4_giveUp_14 : decode cX4_giveUp 14 = .ok (.iconst 0, 1) := by decide +kernel
theorem dX4_giveUp_15 : decode cX4_giveUp 15 = .ok (.iastore, 1) := by decide +kernel
theorem dX4_giveUp_16 : decode cX4_giveUp 16 = .ok (.aload_n 0, 1) := by decide +kernel
theorem dX4_giveUp_17 : decode cX4_giveUp 17 = .ok (.getfield 9, 3) := by decide +kernel
theorem dX4_giveUp_20 : decode cX4_giveUp 20 = .ok (.sipush 587, 3) := by decide +kernel
theorem dX4_giveUp_23 : decode cX4_giveUp 23 = .ok (.iload_n 1, 1) := by decide +kernel
theorem dX4_giveUp_24 : decode cX4_giveUp 24 = .ok (.iadd, 1) := by decide +kernel
theorem dX4_giveUp_25 : decode cX4_giveUp 25 = .ok (.dup2, 1) := by decide +kernel
theorem dX4_giveUp_26 : decode cX4_giveUp 26 = .ok (.iaload, 1) := by decide +kernel
theorem dX4_giveUp_27 : decode cX4_giveUp 27 = .ok (.iconst 1, 1) := by decide +kernel
theorem dX4_giveUp_28 : decode cX4_giveUp 28 = .ok (.iadd, 1) := by decide +kernel
theorem dX4_giveUp_29 : decode cX4_giveUp 29 = .ok (.iastore, 1) := by decide +kernel
theorem dX4_giveUp_30 : decode cX4_giveUp 30 = .ok (.return_, 1) := by decide +kernel
theorem dX4_dismissFrom_0 : decode cX4_dismissFrom 0 = .ok (.iconst 0, 1) := by decide +kernel
theorem dX4_dismissFrom_1 : decode cX4_dismissFrom 1 = .ok (.istore_n 2, 1) := by decide +kernel
theorem dX4_dismissFrom_2 : decode cX4_dismissFrom 2 = .ok (.iload_n 2, 1) := by decide +kernel
theorem dX4_dismissFrom_3 : decode cX4_dismissFrom 3 = .ok (.bipush 6, 2) := by decide +kernel
theorem dX4_dismissFrom_5 : decode cX4_dismissFrom 5 = .ok (.if_icmp .ge 28, 3) := by decide +kernel
theorem dX4_dismissFrom_8 : decode cX4_dismissFrom 8 = .ok (.aload_n 0, 1) := by decide +kernel
theorem dX4_dismissFrom_9 : decode cX4_dismissFrom 9 = .ok (.getfield 9, 3) := by decide +kernel
theorem dX4_dismissFrom_12 : decode cX4_dismissFrom 12 = .ok (.sipush 539, 3) := by decide +kernel
theorem dX4_dismissFrom_15 : decode cX4_dismissFrom 15 = .ok (.iload_n 2, 1) := by decide +kernel
theorem dX4_dismissFrom_16 : decode cX4_dismissFrom 16 = .ok (.iadd, 1) := by decide +kernel
theorem dX4_dismissFrom_17 : decode cX4_dismissFrom 17 = .ok (.iaload, 1) := by decide +kernel
theorem dX4_dismissFrom_18 : decode cX4_dismissFrom 18 = .ok (.iload_n 1, 1) := by decide +kernel
theorem dX4_dismissFrom_19 : decode cX4_dismissFrom 19 = .ok (.if_icmp .ne 8, 3) := by decide +kernel
theorem dX4_dismissFrom_22 : decode cX4_dismissFrom 22 = .ok (.aload_n 0, 1) := by decide +kernel
theorem dX4_dismissFrom_23 : decode cX4_dismissFrom 23 = .ok (.iload_n 2, 1) := by decide +kernel
theorem dX4_dismissFrom_24 : decode cX4_dismissFrom 24 = .ok (.invokevirtual 23, 3) := by decide +kernel
theorem dX4_dismissFrom_27 : decode cX4_dismissFrom 27 = .ok (.iinc 2 1, 3) := by decide +kernel
theorem dX4_dismissFrom_30 : decode cX4_dismissFrom 30 = .ok (.goto (-28), 3) := by decide +kernel
theorem dX4_dismissFrom_33 : decode cX4_dismissFrom 33 = .ok (.return_, 1) := by decide +kernel
theorem dX4_dismissLate_0 : decode cX4_dismissLate 0 = .ok (.iconst 0, 1) := by decide +kernel
theorem dX4_dismissLate_1 : decode cX4_dismissLate 1 = .ok (.istore_n 1, 1) := by decide +kernel
theorem dX4_dismissLate_2 : decode cX4_dismissLate 2 = .ok (.iload_n 1, 1) := by decide +kernel
theorem dX4_dismissLate_3 : decode cX4_dismissLate 3 = .ok (.bipush 6, 2) := by decide +kernel
theorem dX4_dismissLate_5 : decode cX4_dismissLate 5 = .ok (.if_icmp .ge 46, 3) := by decide +kernel
theorem dX4_dismissLate_8 : decode cX4_dismissLate 8 = .ok (.aload_n 0, 1) := by decide +kernel
theorem dX4_dismissLate_9 : decode cX4_dismissLate 9 = .ok (.getfield 9, 3) := by decide +kernel
theorem dX4_dismissLate_12 : decode cX4_dismissLate 12 = .ok (.sipush 539, 3) := by decide +kernel
theorem dX4_dismissLate_15 : decode cX4_dismissLate 15 = .ok (.iload_n 1, 1) := by decide +kernel
theorem dX4_dismissLate_16 : decode cX4_dismissLate 16 = .ok (.iadd, 1) := by decide +kernel
theorem dX4_dismissLate_17 : decode cX4_dismissLate 17 = .ok (.iaload, 1) := by decide +kernel
theorem dX4_dismissLate_18 : decode cX4_dismissLate 18 = .ok (.ifCond .lt 27, 3) := by decide +kernel
theorem dX4_dismissLate_21 : decode cX4_dismissLate 21 = .ok (.aload_n 0, 1) := by decide +kernel
theorem dX4_dismissLate_22 : decode cX4_dismissLate 22 = .ok (.getfield 9, 3) := by decide +kernel
theorem dX4_dismissLate_25 : decode cX4_dismissLate 25 = .ok (.sipush 557, 3) := by decide +kernel
theorem dX4_dismissLate_28 : decode cX4_dismissLate 28 = .ok (.iload_n 1, 1) := by decide +kernel
theorem dX4_dismissLate_29 : decode cX4_dismissLate 29 = .ok (.iadd, 1) := by decide +kernel
theorem dX4_dismissLate_30 : decode cX4_dismissLate 30 = .ok (.iaload, 1) := by decide +kernel
theorem dX4_dismissLate_31 : decode cX4_dismissLate 31 = .ok (.aload_n 0, 1) := by decide +kernel
theorem dX4_dismissLate_32 : decode cX4_dismissLate 32 = .ok (.getfield 9, 3) := by decide +kernel
theorem dX4_dismissLate_35 : decode cX4_dismissLate 35 = .ok (.iconst 0, 1) := by decide +kernel
theorem dX4_dismissLate_36 : decode cX4_dismissLate 36 = .ok (.iaload, 1) := by decide +kernel
theorem dX4_dismissLate_37 : decode cX4_dismissLate 37 = .ok (.if_icmp .ne 8, 3) := by decide +kernel
theorem dX4_dismissLate_40 : decode cX4_dismissLate 40 = .ok (.aload_n 0, 1) := by decide +kernel
theorem dX4_dismissLate_41 : decode cX4_dismissLate 41 = .ok (.iload_n 1, 1) := by decide +kernel
theorem dX4_dismissLate_42 : decode cX4_dismissLate 42 = .ok (.invokevirtual 23, 3) := by decide +kernel
theorem dX4_dismissLate_45 : decode cX4_dismissLate 45 = .ok (.iinc 1 1, 3) := by decide +kernel
theorem dX4_dismissLate_48 : decode cX4_dismissLate 48 = .ok (.goto (-46), 3) := by decide +kernel
theorem dX4_dismissLate_51 : decode cX4_dismissLate 51 = .ok (.return_, 1) := by decide +kernel
theorem dX4_canGo_0 : decode cX4_canGo 0 = .ok (.aload_n 0, 1) := by decide +kernel
theorem dX4_canGo_1 : decode cX4_canGo 1 = .ok (.getfield 9, 3) := by decide +kernel
theorem dX4_canGo_4 : decode cX4_canGo 4 = .ok (.sipush 539, 3) := by decide +kernel
theorem dX4_canGo_7 : decode cX4_canGo 7 = .ok (.iload_n 1, 1) := by decide +kernel
theorem dX4_canGo_8 : decode cX4_canGo 8 = .ok (.iadd, 1) := by decide +kernel
theorem dX4_canGo_9 : decode cX4_canGo 9 = .ok (.iaload, 1) := by decide +kernel
theorem dX4_canGo_10 : decode cX4_canGo 10 = .ok (.ifCond .ge 20, 3) := by decide +kernel
theorem dX4_canGo_13 : decode cX4_canGo 13 = .ok (.aload_n 0, 1) := by decide +kernel
theorem dX4_canGo_14 : decode cX4_canGo 14 = .ok (.getfield 9, 3) := by decide +kernel
theorem dX4_canGo_17 : decode cX4_canGo 17 = .ok (.sipush 599, 3) := by decide +kernel
theorem dX4_canGo_20 : decode cX4_canGo 20 = .ok (.iload_n 1, 1) := by decide +kernel
theorem dX4_canGo_21 : decode cX4_canGo 21 = .ok (.iadd, 1) := by decide +kernel
theorem dX4_canGo_22 : decode cX4_canGo 22 = .ok (.iaload, 1) := by decide +kernel
theorem dX4_canGo_23 : decode cX4_canGo 23 = .ok (.ifCond .le 7, 3) := by decide +kernel
theorem dX4_canGo_26 : decode cX4_canGo 26 = .ok (.iconst 1, 1) := by decide +kernel
theorem dX4_canGo_27 : decode cX4_canGo 27 = .ok (.goto 4, 3) := by decide +kernel
theorem dX4_canGo_30 : decode cX4_canGo 30 = .ok (.iconst 0, 1) := by decide +kernel
theorem dX4_canGo_31 : decode cX4_canGo 31 = .ok (.ireturn, 1) := by decide +kernel
theorem dX4_putStep_0 : decode cX4_putStep 0 = .ok (.aload_n 0, 1) := by decide +kernel
theorem dX4_putStep_1 : decode cX4_putStep 1 = .ok (.getfield 9, 3) := by decide +kernel
theorem dX4_putStep_4 : decode cX4_putStep 4 = .ok (.sipush 599, 3) := by decide +kernel
theorem dX4_putStep_7 : decode cX4_putStep 7 = .ok (.iload_n 1, 1) := by decide +kernel
theorem dX4_putStep_8 : decode cX4_putStep 8 = .ok (.iadd, 1) := by decide +kernel
theorem dX4_putStep_9 : decode cX4_putStep 9 = .ok (.iaload, 1) := by decide +kernel
theorem dX4_putStep_10 : decode cX4_putStep 10 = .ok (.istore 5, 2) := by decide +kernel
theorem dX4_putStep_12 : decode cX4_putStep 12 = .ok (.iload 5, 2) := by decide +kernel
theorem dX4_putStep_14 : decode cX4_putStep 14 = .ok (.iconst 4, 1) := by decide +kernel
theorem dX4_putStep_15 : decode cX4_putStep 15 = .ok (.if_icmp .lt 5, 3) := by decide +kernel
theorem dX4_putStep_18 : decode cX4_putStep 18 = .ok (.iconst (-1), 1) := by decide +kernel
theorem dX4_putStep_19 : decode cX4_putStep 19 = .ok (.ireturn, 1) := by decide +kernel
theorem dX4_putStep_20 : decode cX4_putStep 20 = .ok (.iload_n 1, 1) := by decide +kernel
theorem dX4_putStep_21 : decode cX4_putStep 21 = .ok (.iconst 4, 1) := by decide +kernel
theorem dX4_putStep_22 : decode cX4_putStep 22 = .ok (.imul, 1) := by decide +kernel
theorem dX4_putStep_23 : decode cX4_putStep 23 = .ok (.iload 5, 2) := by decide +kernel
theorem dX4_putStep_25 : decode cX4_putStep 25 = .ok (.iadd, 1) := by decide +kernel
theorem dX4_putStep_26 : decode cX4_putStep 26 = .ok (.istore 6, 2) := by decide +kernel
theorem dX4_putStep_28 : decode cX4_putStep 28 = .ok (.aload_n 0, 1) := by decide +kernel
theorem dX4_putStep_29 : decode cX4_putStep 29 = .ok (.getfield 9, 3) := by decide +kernel
theorem dX4_putStep_32 : decode cX4_putStep 32 = .ok (.sipush 605, 3) := by decide +kernel
theorem dX4_putStep_35 : decode cX4_putStep 35 = .ok (.iload 6, 2) := by decide +kernel
theorem dX4_putStep_37 : decode cX4_putStep 37 = .ok (.iadd, 1) := by decide +kernel
theorem dX4_putStep_38 : decode cX4_putStep 38 = .ok (.iload_n 2, 1) := by decide +kernel
theorem dX4_putStep_39 : decode cX4_putStep 39 = .ok (.iastore, 1) := by decide +kernel
theorem dX4_putStep_40 : decode cX4_putStep 40 = .ok (.aload_n 0, 1) := by decide +kernel
theorem dX4_putStep_41 : decode cX4_putStep 41 = .ok (.getfield 9, 3) := by decide +kernel
theorem dX4_putStep_44 : decode cX4_putStep 44 = .ok (.sipush 629, 3) := by decide +kernel
theorem dX4_putStep_47 : decode cX4_putStep 47 = .ok (.iload 6, 2) := by decide +kernel
theorem dX4_putStep_49 : decode cX4_putStep 49 = .ok (.iadd, 1) := by decide +kernel
theorem dX4_putStep_50 : decode cX4_putStep 50 = .ok (.iload_n 3, 1) := by decide +kernel
theorem dX4_putStep_51 : decode cX4_putStep 51 = .ok (.iastore, 1) := by decide +kernel
theorem dX4_putStep_52 : decode cX4_putStep 52 = .ok (.aload_n 0, 1) := by decide +kernel
theorem dX4_putStep_53 : decode cX4_putStep 53 = .ok (.getfield 9, 3) := by decide +kernel
theorem dX4_putStep_56 : decode cX4_putStep 56 = .ok (.sipush 653, 3) := by decide +kernel
theorem dX4_putStep_59 : decode cX4_putStep 59 = .ok (.iload 6, 2) := by decide +kernel
theorem dX4_putStep_61 : decode cX4_putStep 61 = .ok (.iadd, 1) := by decide +kernel
theorem dX4_putStep_62 : decode cX4_putStep 62 = .ok (.iload 4, 2) := by decide +kernel
theorem dX4_putStep_64 : decode cX4_putStep 64 = .ok (.iastore, 1) := by decide +kernel
theorem dX4_putStep_65 : decode cX4_putStep 65 = .ok (.aload_n 0, 1) := by decide +kernel
theorem dX4_putStep_66 : decode cX4_putStep 66 = .ok (.getfield 9, 3) := by decide +kernel
theorem dX4_putStep_69 : decode cX4_putStep 69 = .ok (.sipush 599, 3) := by decide +kernel
theorem dX4_putStep_72 : decode cX4_putStep 72 = .ok (.iload_n 1, 1) := by decide +kernel
theorem dX4_putStep_73 : decode cX4_putStep 73 = .ok (.iadd, 1) := by decide +kernel
theorem dX4_putStep_74 : decode cX4_putStep 74 = .ok (.iload 5, 2) := by decide +kernel
theorem dX4_putStep_76 : decode cX4_putStep 76 = .ok (.iconst 1, 1) := by decide +kernel
theorem dX4_putStep_77 : decode cX4_putStep 77 = .ok (.iadd, 1) := by decide +kernel
theorem dX4_putStep_78 : decode cX4_putStep 78 = .ok (.iastore, 1) := by decide +kernel
theorem dX4_putStep_79 : decode cX4_putStep 79 = .ok (.iload 5, 2) := by decide +kernel
theorem dX4_putStep_81 : decode cX4_putStep 81 = .ok (.iconst 1, 1) := by decide +kernel
theorem dX4_putStep_82 : decode cX4_putStep 82 = .ok (.iadd, 1) := by decide +kernel
theorem dX4_putStep_83 : decode cX4_putStep 83 = .ok (.ireturn, 1) := by decide +kernel
theorem dX4_turnProgram_0 : decode cX4_turnProgram 0 = .ok (.aload_n 0, 1) := by decide +kernel
theorem dX4_turnProgram_1 : decode cX4_turnProgram 1 = .ok (.sipush 605, 3) := by decide +kernel
theorem dX4_turnProgram_4 : decode cX4_turnProgram 4 = .ok (.iload_n 1, 1) := by decide +kernel
theorem dX4_turnProgram_5 : decode cX4_turnProgram 5 = .ok (.invokevirtual 26, 3) := by decide +kernel
theorem dX4_turnProgram_8 : decode cX4_turnProgram 8 = .ok (.aload_n 0, 1) := by decide +kernel
theorem dX4_turnProgram_9 : decode cX4_turnProgram 9 = .ok (.sipush 629, 3) := by decide +kernel
theorem dX4_turnProgram_12 : decode cX4_turnProgram 12 = .ok (.iload_n 1, 1) := by decide +kernel
theorem dX4_turnProgram_13 : decode cX4_turnProgram 13 = .ok (.invokevirtual 26, 3) := by decide +kernel
theorem dX4_turnProgram_16 : decode cX4_turnProgram 16 = .ok (.aload_n 0, 1) := by decide +kernel
theorem dX4_turnProgram_17 : decode cX4_turnProgram 17 = .ok (.sipush 653, 3) := by decide +kernel
theorem dX4_turnProgram_20 : decode cX4_turnProgram 20 = .ok (.iload_n 1, 1) := by decide +kernel
theorem dX4_turnProgram_21 : decode cX4_turnProgram 21 = .ok (.invokevirtual 26, 3) := by decide +kernel
theorem dX4_turnProgram_24 : decode cX4_turnProgram 24 = .ok (.aload_n 0, 1) := by decide +kernel
theorem dX4_turnProgram_25 : decode cX4_turnProgram 25 = .ok (.getfield 9, 3) := by decide +kernel
theorem dX4_turnProgram_28 : decode cX4_turnProgram 28 = .ok (.sipush 593, 3) := by decide +kernel
theorem dX4_turnProgram_31 : decode cX4_turnProgram 31 = .ok (.iload_n 1, 1) := by decide +kernel
theorem dX4_turnProgram_32 : decode cX4_turnProgram 32 = .ok (.iadd, 1) := by decide +kernel
theorem dX4_turnProgram_33 : decode cX4_turnProgram 33 = .ok (.iaload, 1) := by decide +kernel
theorem dX4_turnProgram_34 : decode cX4_turnProgram 34 = .ok (.ifCond .ne 30, 3) := by decide +kernel
theorem dX4_turnProgram_37 : decode cX4_turnProgram 37 = .ok (.aload_n 0, 1) := by decide +kernel
theorem dX4_turnProgram_38 : decode cX4_turnProgram 38 = .ok (.getfield 9, 3) := by decide +kernel
theorem dX4_turnProgram_41 : decode cX4_turnProgram 41 = .ok (.sipush 599, 3) := by decide +kernel
theorem dX4_turnProgram_44 : decode cX4_turnProgram 44 = .ok (.iload_n 1, 1) := by decide +kernel
theorem dX4_turnProgram_45 : decode cX4_turnProgram 45 = .ok (.iadd, 1) := by decide +kernel
theorem dX4_turnProgram_46 : decode cX4_turnProgram 46 = .ok (.iaload, 1) := by decide +kernel
theorem dX4_turnProgram_47 : decode cX4_turnProgram 47 = .ok (.ifCond .le 17, 3) := by decide +kernel
theorem dX4_turnProgram_50 : decode cX4_turnProgram 50 = .ok (.aload_n 0, 1) := by decide +kernel
theorem dX4_turnProgram_51 : decode cX4_turnProgram 51 = .ok (.getfield 9, 3) := by decide +kernel
theorem dX4_turnProgram_54 : decode cX4_turnProgram 54 = .ok (.sipush 599, 3) := by decide +kernel
theorem dX4_turnProgram_57 : decode cX4_turnProgram 57 = .ok (.iload_n 1, 1) := by decide +kernel
theorem dX4_turnProgram_58 : decode cX4_turnProgram 58 = .ok (.iadd, 1) := by decide +kernel
theorem dX4_turnProgram_59 : decode cX4_turnProgram 59 = .ok (.dup2, 1) := by decide +kernel
theorem dX4_turnProgram_60 : decode cX4_turnProgram 60 = .ok (.iaload, 1) := by decide +kernel
theorem dX4_turnProgram_61 : decode cX4_turnProgram 61 = .ok (.iconst 1, 1) := by decide +kernel
theorem dX4_turnProgram_62 : decode cX4_turnProgram 62 = .ok (.isub, 1) := by decide +kernel
theorem dX4_turnProgram_63 : decode cX4_turnProgram 63 = .ok (.iastore, 1) := by decide +kernel
theorem dX4_turnProgram_64 : decode cX4_turnProgram 64 = .ok (.return_, 1) := by decide +kernel
theorem dX4_turnColumn_0 : decode cX4_turnColumn 0 = .ok (.iload_n 1, 1) := by decide +kernel
theorem dX4_turnColumn_1 : decode cX4_turnColumn 1 = .ok (.iload_n 2, 1) := by decide +kernel
theorem dX4_turnColumn_2 : decode cX4_turnColumn 2 = .ok (.iconst 4, 1) := by decide +kernel
theorem dX4_turnColumn_3 : decode cX4_turnColumn 3 = .ok (.imul, 1) := by decide +kernel
theorem dX4_turnColumn_4 : decode cX4_turnColumn 4 = .ok (.iadd, 1) := by decide +kernel
theorem dX4_turnColumn_5 : decode cX4_turnColumn 5 = .ok (.istore_n 3, 1) := by decide +kernel
theorem dX4_turnColumn_6 : decode cX4_turnColumn 6 = .ok (.aload_n 0, 1) := by decide +kernel
theorem dX4_turnColumn_7 : decode cX4_turnColumn 7 = .ok (.getfield 9, 3) := by decide +kernel
theorem dX4_turnColumn_10 : decode cX4_turnColumn 10 = .ok (.sipush 599, 3) := by decide +kernel
theorem dX4_turnColumn_13 : decode cX4_turnColumn 13 = .ok (.iload_n 2, 1) := by decide +kernel
theorem dX4_turnColumn_14 : decode cX4_turnColumn 14 = .ok (.iadd, 1) := by decide +kernel
theorem dX4_turnColumn_15 : decode cX4_turnColumn 15 = .ok (.iaload, 1) := by decide +kernel
theorem dX4_turnColumn_16 : decode cX4_turnColumn 16 = .ok (.iconst 1, 1) := by decide +kernel
theorem dX4_turnColumn_17 : decode cX4_turnColumn 17 = .ok (.isub, 1) := by decide +kernel
theorem dX4_turnColumn_18 : decode cX4_turnColumn 18 = .ok (.istore 4, 2) := by decide +kernel
theorem dX4_turnColumn_20 : decode cX4_turnColumn 20 = .ok (.aload_n 0, 1) := by decide +kernel
theorem dX4_turnColumn_21 : decode cX4_turnColumn 21 = .ok (.getfield 9, 3) := by decide +kernel
theorem dX4_turnColumn_24 : decode cX4_turnColumn 24 = .ok (.iload_n 3, 1) := by decide +kernel
theorem dX4_turnColumn_25 : decode cX4_turnColumn 25 = .ok (.iaload, 1) := by decide +kernel
theorem dX4_turnColumn_26 : decode cX4_turnColumn 26 = .ok (.istore 5, 2) := by decide +kernel
theorem dX4_turnColumn_28 : decode cX4_turnColumn 28 = .ok (.iconst 0, 1) := by decide +kernel
theorem dX4_turnColumn_29 : decode cX4_turnColumn 29 = .ok (.istore 6, 2) := by decide +kernel
theorem dX4_turnColumn_31 : decode cX4_turnColumn 31 = .ok (.iload 6, 2) := by decide +kernel
theorem dX4_turnColumn_33 : decode cX4_turnColumn 33 = .ok (.iload 4, 2) := by decide +kernel
theorem dX4_turnColumn_35 : decode cX4_turnColumn 35 = .ok (.if_icmp .ge 35, 3) := by decide +kernel
theorem dX4_turnColumn_38 : decode cX4_turnColumn 38 = .ok (.iload 6, 2) := by decide +kernel
theorem dX4_turnColumn_40 : decode cX4_turnColumn 40 = .ok (.iconst 3, 1) := by decide +kernel
theorem dX4_turnColumn_41 : decode cX4_turnColumn 41 = .ok (.if_icmp .ge 29, 3) := by decide +kernel
theorem dX4_turnColumn_44 : decode cX4_turnColumn 44 = .ok (.aload_n 0, 1) := by decide +kernel
theorem dX4_turnColumn_45 : decode cX4_turnColumn 45 = .ok (.getfield 9, 3) := by decide +kernel
theorem dX4_turnColumn_48 : decode cX4_turnColumn 48 = .ok (.iload_n 3, 1) := by decide +kernel
theorem dX4_turnColumn_49 : decode cX4_turnColumn 49 = .ok (.iload 6, 2) := by decide +kernel
theorem dX4_turnColumn_51 : decode cX4_turnColumn 51 = .ok (.iadd, 1) := by decide +kernel
theorem dX4_turnColumn_52 : decode cX4_turnColumn 52 = .ok (.aload_n 0, 1) := by decide +kernel
theorem dX4_turnColumn_53 : decode cX4_turnColumn 53 = .ok (.getfield 9, 3) := by decide +kernel
theorem dX4_turnColumn_56 : decode cX4_turnColumn 56 = .ok (.iload_n 3, 1) := by decide +kernel
theorem dX4_turnColumn_57 : decode cX4_turnColumn 57 = .ok (.iload 6, 2) := by decide +kernel
theorem dX4_turnColumn_59 : decode cX4_turnColumn 59 = .ok (.iadd, 1) := by decide +kernel
theorem dX4_turnColumn_60 : decode cX4_turnColumn 60 = .ok (.iconst 1, 1) := by decide +kernel
theorem dX4_turnColumn_61 : decode cX4_turnColumn 61 = .ok (.iadd, 1) := by decide +kernel
theorem dX4_turnColumn_62 : decode cX4_turnColumn 62 = .ok (.iaload, 1) := by decide +kernel
theorem dX4_turnColumn_63 : decode cX4_turnColumn 63 = .ok (.iastore, 1) := by decide +kernel
theorem dX4_turnColumn_64 : decode cX4_turnColumn 64 = .ok (.iinc 6 1, 3) := by decide +kernel
theorem dX4_turnColumn_67 : decode cX4_turnColumn 67 = .ok (.goto (-36), 3) := by decide +kernel
theorem dX4_turnColumn_70 : decode cX4_turnColumn 70 = .ok (.iload 4, 2) := by decide +kernel
theorem dX4_turnColumn_72 : decode cX4_turnColumn 72 = .ok (.ifCond .lt 20, 3) := by decide +kernel
theorem dX4_turnColumn_75 : decode cX4_turnColumn 75 = .ok (.iload 4, 2) := by decide +kernel
theorem dX4_turnColumn_77 : decode cX4_turnColumn 77 = .ok (.iconst 4, 1) := by decide +kernel
theorem dX4_turnColumn_78 : decode cX4_turnColumn 78 = .ok (.if_icmp .ge 14, 3) := by decide +kernel
theorem dX4_turnColumn_81 : decode cX4_turnColumn 81 = .ok (.aload_n 0, 1) := by decide +kernel
theorem dX4_turnColumn_82 : decode cX4_turnColumn 82 = .ok (.getfield 9, 3) := by decide +kernel
theorem dX4_turnColumn_85 : decode cX4_turnColumn 85 = .ok (.iload_n 3, 1) := by decide +kernel
theorem dX4_turnColumn_86 : decode cX4_turnColumn 86 = .ok (.iload 4, 2) := by decide +kernel
theorem dX4_turnColumn_88 : decode cX4_turnColumn 88 = .ok (.iadd, 1) := by decide +kernel
theorem dX4_turnColumn_89 : decode cX4_turnColumn 89 = .ok (.iload 5, 2) := by decide +kernel
theorem dX4_turnColumn_91 : decode cX4_turnColumn 91 = .ok (.iastore, 1) := by decide +kernel
theorem dX4_turnColumn_92 : decode cX4_turnColumn 92 = .ok (.return_, 1) := by decide +kernel
theorem dX5_init_0 : decode cX5_init 0 = .ok (.aload_n 0, 1) := by decide +kernel
theorem dX5_init_1 : decode cX5_init 1 = .ok (.invokespecial 3, 3) := by decide +kernel
theorem dX5_init_4 : decode cX5_init 4 = .ok (.aload_n 0, 1) := by decide +kernel
theorem dX5_init_5 : decode cX5_init 5 = .ok (.aload_n 1, 1) := by decide +kernel
theorem dX5_init_6 : decode cX5_init 6 = .ok (.putfield 9, 3) := by decide +kernel
theorem dX5_init_9 : decode cX5_init 9 = .ok (.return_, 1) := by decide +kernel
theorem dX5_thingOf_0 : decode cX5_thingOf 0 = .ok (.iload_n 1, 1) := by decide +kernel
theorem dX5_thingOf_1 : decode cX5_thingOf 1 = .ok (.ifCond .lt 20, 3) := by decide +kernel
theorem dX5_thingOf_4 : decode cX5_thingOf 4 = .ok (.iload_n 1, 1) := by decide +kernel
theorem dX5_thingOf_5 : decode cX5_thingOf 5 = .ok (.bipush 16, 2) := by decide +kernel
theorem dX5_thingOf_7 : decode cX5_thingOf 7 = .ok (.if_icmp .ge 14, 3) := by decide +kernel
theorem dX5_thingOf_10 : decode cX5_thingOf 10 = .ok (.aload_n 0, 1) := by decide +kernel
theorem dX5_thingOf_11 : decode cX5_thingOf 11 = .ok (.getfield 9, 3) := by decide +kernel
theorem dX5_thingOf_14 : decode cX5_thingOf 14 = .ok (.iconst 3, 1) := by decide +kernel
theorem dX5_thingOf_15 : decode cX5_thingOf 15 = .ok (.iload_n 1, 1) := by decide +kernel
theorem dX5_thingOf_16 : decode cX5_thingOf 16 = .ok (.iadd, 1) := by decide +kernel
theorem dX5_thingOf_17 : decode cX5_thingOf 17 = .ok (.iaload, 1) := by decide +kernel
theorem dX5_thingOf_18 : decode cX5_thingOf 18 = .ok (.goto 4, 3) := by decide +kernel
theorem dX5_thingOf_21 : decode cX5_thingOf 21 = .ok (.iconst (-1), 1) := by decide +kernel
theorem dX5_thingOf_22 : decode cX5_thingOf 22 = .ok (.ireturn, 1) := by decide +kernel
theorem dX5_thingOfKind_0 : decode cX5_thingOfKind 0 = .ok (.aload_n 0, 1) := by decide +kernel
theorem dX5_thingOfKind_1 : decode cX5_thingOfKind 1 = .ok (.iload_n 1, 1) := by decide +kernel
theorem dX5_thingOfKind_2 : decode cX5_thingOfKind 2 = .ok (.invokevirtual 15, 3) := by decide +kernel
theorem dX5_thingOfKind_5 : decode cX5_thingOfKind 5 = .ok (.istore_n 3, 1) := by decide +kernel
theorem dX5_thingOfKind_6 : decode cX5_thingOfKind 6 = .ok (.iload_n 3, 1) := by decide +kernel
theorem dX5_thingOfKind_7 : decode cX5_thingOfKind 7 = .ok (.ifCond .lt 20, 3) := by decide +kernel
theorem dX5_thingOfKind_10 : decode cX5_thingOfKind 10 = .ok (.aload_n 0, 1) := by decide +kernel
theorem dX5_thingOfKind_11 : decode cX5_thingOfKind 11 = .ok (.getfield 9, 3) := by decide +kernel
theorem dX5_thingOfKind_14 : decode cX5_thingOfKind 14 = .ok (.bipush 19, 2) := by decide +kernel
theorem dX5_thingOfKind_16 : decode cX5_thingOfKind 16 = .ok (.iload_n 3, 1) := by decide +kernel
theorem dX5_thingOfKind_17 : decode cX5_thingOfKind 17 = .ok (.iadd, 1) := by decide +kernel
theorem dX5_thingOfKind_18 : decode cX5_thingOfKind 18 = .ok (.iaload, 1) := by decide +kernel
theorem dX5_thingOfKind_19 : decode cX5_thingOfKind 19 = .ok (.iload_n 2, 1) := by decide +kernel
theorem dX5_thingOfKind_20 : decode cX5_thingOfKind 20 = .ok (.if_icmp .ne 7, 3) := by decide +kernel
theorem dX5_thingOfKind_23 : decode cX5_thingOfKind 23 = .ok (.iload_n 3, 1) := by decide +kernel
theorem dX5_thingOfKind_24 : decode cX5_thingOfKind 24 = .ok (.goto 4, 3) := by decide +kernel
theorem dX5_thingOfKind_27 : decode cX5_thingOfKind 27 = .ok (.iconst (-1), 1) := by decide +kernel
theorem dX5_thingOfKind_28 : decode cX5_thingOfKind 28 = .ok (.ireturn, 1) := by decide +kernel
theorem dX5_freeHandle_0 : decode cX5_freeHandle 0 = .ok (.aload_n 0, 1) := by decide +kernel
theorem dX5_freeHandle_1 : decode cX5_freeHandle 1 = .ok (.iconst (-1), 1) := by decide +kernel
theorem dX5_freeHandle_2 : decode cX5_freeHandle 2 = .ok (.invokevirtual 19, 3) := by decide +kernel
theorem dX5_freeHandle_5 : decode cX5_freeHandle 5 = .ok (.ireturn, 1) := by decide +kernel
theorem dX5_freeHandles_0 : decode cX5_freeHandles 0 = .ok (.aload_n 0, 1) := by decide +kernel
theorem dX5_freeHandles_1 : decode cX5_freeHandles 1 = .ok (.iconst (-1), 1) := by decide +kernel
theorem dX5_freeHandles_2 : decode cX5_freeHandles 2 = .ok (.invokevirtual 22, 3) := by decide +kernel
theorem dX5_freeHandles_5 : decode cX5_freeHandles 5 = .ok (.ireturn, 1) := by decide +kernel
theorem dX5_lowestHandle_0 : decode cX5_lowestHandle 0 = .ok (.iload_n 1, 1) := by decide +kernel
theorem dX5_lowestHandle_1 : decode cX5_lowestHandle 1 = .ok (.ifCond .ge 7, 3) := by decide +kernel
theorem dX5_lowestHandle_4 : decode cX5_lowestHandle 4 = .ok (.iconst (-1), 1) := by decide +kernel
theorem dX5_lowestHandle_5 : decode cX5_lowestHandle 5 = .ok (.goto 8, 3) := by decide +kernel
theorem dX5_lowestHandle_8 : decode cX5_lowestHandle 8 = .ok (.aload_n 0, 1) := by decide +kernel
theorem dX5_lowestHandle_9 : decode cX5_lowestHandle 9 = .ok (.iload_n 1, 1) := by decide +kernel
theorem dX5_lowestHandle_10 : decode cX5_lowestHandle 10 = .ok (.invokevirtual 19, 3) := by decide +kernel
theorem dX5_lowestHandle_13 : decode cX5_lowestHandle 13 = .ok (.ireturn, 1) := by decide +kernel
theorem dX5_firstNaming_0 : decode cX5_firstNaming 0 = .ok (.iconst 0, 1) := by decide +kernel
theorem dX5_firstNaming_1 : decode cX5_firstNaming 1 = .ok (.istore_n 2, 1) := by decide +kernel
theorem dX5_firstNaming_2 : decode cX5_firstNaming 2 = .ok (.iload_n 2, 1) := by decide +kernel
theorem dX5_firstNaming_3 : decode cX5_firstNaming 3 = .ok (.bipush 16, 2) := by decide +kernel
theorem dX5_firstNaming_5 : decode cX5_firstNaming 5 = .ok (.if_icmp .ge 23, 3) := by decide +kernel
theorem dX5_firstNaming_8 : decode cX5_firstNaming 8 = .ok (.aload_n 0, 1) := by decide +kernel
theorem dX5_firstNaming_9 : decode cX5_firstNaming 9 = .ok (.getfield 9, 3) := by decide +kernel
theorem dX5_firstNaming_12 : decode cX5_firstNaming 12 = .ok (.iconst 3, 1) := by decide +kernel
theorem dX5_firstNaming_13 : decode cX5_firstNaming 13 = .ok (.iload_n 2, 1) := by decide +kernel
theorem dX5_firstNaming_14 : decode cX5_firstNaming 14 = .ok (.iadd, 1) := by decide +kernel
theorem dX5_firstNaming_15 : decode cX5_firstNaming 15 = .ok (.iaload, 1) := by decide +kernel
theorem dX5_firstNaming_16 : decode cX5_firstNaming 16 = .ok (.iload_n 1, 1) := by decide +kernel
theorem dX5_firstNaming_17 : decode cX5_firstNaming 17 = .ok (.if_icmp .ne 5, 3) := by decide +kernel
theorem dX5_firstNaming_20 : decode cX5_firstNaming 20 = .ok (.iload_n 2, 1) := by decide +kernel
theorem dX5_firstNaming_21 : decode cX5_firstNaming 21 = .ok (.ireturn, 1) := by decide +kernel
theorem dX5_firstNaming_22 : decode cX5_firstNaming 22 = .ok (.iinc 2 1, 3) := by decide +kernel
theorem dX5_firstNaming_25 : decode cX5_firstNaming 25 = .ok (.goto (-23), 3) := by decide +kernel
theorem dX5_firstNaming_28 : decode cX5_firstNaming 28 = .ok (.iconst (-1), 1) := by decide +kernel
theorem dX5_firstNaming_29 : decode cX5_firstNaming 29 = .ok (.ireturn, 1) := by decide +kernel
theorem dX5_handlesOf_0 : decode cX5_handlesOf 0 = .ok (.iconst 0, 1) := by decide +kernel
theorem dX5_handlesOf_1 : decode cX5_handlesOf 1 = .ok (.istore_n 2, 1) := by decide +kernel
theorem dX5_handlesOf_2 : decode cX5_handlesOf 2 = .ok (.iconst 0, 1) := by decide +kernel
theorem dX5_handlesOf_3 : decode cX5_handlesOf 3 = .ok (.istore_n 3, 1) := by decide +kernel
theorem dX5_handlesOf_4 : decode cX5_handlesOf 4 = .ok (.iload_n 3, 1) := by decide +kernel
theorem dX5_handlesOf_5 : decode cX5_handlesOf 5 = .ok (.bipush 16, 2) := by decide +kernel
theorem dX5_handlesOf_7 : decode cX5_handlesOf 7 = .ok (.if_icmp .ge 24, 3) := by decide +kernel
theorem dX5_handlesOf_10 : decode cX5_handlesOf 10 = .ok (.aload_n 0, 1) := by decide +kernel
theorem dX5_handlesOf_11 : decode cX5_handlesOf 11 = .ok (.getfield 9, 3) := by decide +kernel
theorem dX5_handlesOf_14 : decode cX5_handlesOf 14 = .ok (.iconst 3, 1) := by decide +kernel
theorem dX5_handlesOf_15 : decode cX5_handlesOf 15 = .ok (.iload_n 3, 1) := by decide +kernel
theorem dX5_handlesOf_16 : decode cX5_handlesOf 16 = .ok (.iadd, 1) := by decide +kernel
theorem dX5_handlesOf_17 : decode cX5_handlesOf 17 = .ok (.iaload, 1) := by decide +kernel
theorem dX5_handlesOf_18 : decode cX5_handlesOf 18 = .ok (.iload_n 1, 1) := by decide +kernel
theorem dX5_handlesOf_19 : decode cX5_handlesOf 19 = .ok (.if_icmp .ne 6, 3) := by decide +kernel
theorem dX5_handlesOf_22 : decode cX5_handlesOf 22 = .ok (.iinc 2 1, 3) := by decide +kernel
theorem dX5_handlesOf_25 : decode cX5_handlesOf 25 = .ok (.iinc 3 1, 3) := by decide +kernel
theorem dX5_handlesOf_28 : decode cX5_handlesOf 28 = .ok (.goto (-24), 3) := by decide +kernel
theorem dX5_handlesOf_31 : decode cX5_handlesOf 31 = .ok (.iload_n 2, 1) := by decide +kernel
theorem dX5_handlesOf_32 : decode cX5_handlesOf 32 = .ok (.ireturn, 1) := by decide +kernel
theorem dX5_handleBits_0 : decode cX5_handleBits 0 = .ok (.iconst 0, 1) := by decide +kernel
theorem dX5_handleBits_1 : decode cX5_handleBits 1 = .ok (.istore_n 1, 1) := by decide +kernel
theorem dX5_handleBits_2 : decode cX5_handleBits 2 = .ok (.iconst 0, 1) := by decide +kernel
theorem dX5_handleBits_3 : decode cX5_handleBits 3 = .ok (.istore_n 2, 1) := by decide +kernel
theorem dX5_handleBits_4 : decode cX5_handleBits 4 = .ok (.iload_n 2, 1) := by decide +kernel
theorem dX5_handleBits_5 : decode cX5_handleBits 5 = .ok (.bipush 16, 2) := by decide +kernel
theorem dX5_handleBits_7 : decode cX5_handleBits 7 = .ok (.if_icmp .ge 26, 3) := by decide +kernel
theorem dX5_handleBits_10 : decode cX5_handleBits 10 = .ok (.aload_n 0, 1) := by decide +kernel
theorem dX5_handleBits_11 : decode cX5_handleBits 11 = .ok (.getfield 9, 3) := by decide +kernel
theorem dX5_handleBits_14 : decode cX5_handleBits 14 = .ok (.iconst 3, 1) := by decide +kernel
theorem dX5_handleBits_15 : decode cX5_handleBits 15 = .ok (.iload_n 2, 1) := by decide +kernel
theorem dX5_handleBits_16 : decode cX5_handleBits 16 = .ok (.iadd, 1) := by decide +kernel
theorem dX5_handleBits_17 : decode cX5_handleBits 17 = .ok (.iaload, 1) := by decide +kernel
theorem dX5_handleBits_18 : decode cX5_handleBits 18 = .ok (.ifCond .lt 9, 3) := by decide +kernel
theorem dX5_handleBits_21 : decode cX5_handleBits 21 = .ok (.iload_n 1, 1) := by decide +kernel
theorem dX5_handleBits_22 : decode cX5_handleBits 22 = .ok (.iconst 1, 1) := by decide +kernel
theorem dX5_handleBits_23 : decode cX5_handleBits 23 = .ok (.iload_n 2, 1) := by decide +kernel
theorem dX5_handleBits_24 : decode cX5_handleBits 24 = .ok (.ishl, 1) := by decide +kernel
theorem dX5_handleBits_25 : decode cX5_handleBits 25 = .ok (.ior, 1) := by decide +kernel
theorem dX5_handleBits_26 : decode cX5_handleBits 26 = .ok (.istore_n 1, 1) := by decide +kernel
theorem dX5_handleBits_27 : decode cX5_handleBits 27 = .ok (.iinc 2 1, 3) := by decide +kernel
theorem dX5_handleBits_30 : decode cX5_handleBits 30 = .ok (.goto (-26), 3) := by decide +kernel
theorem dX5_handleBits_33 : decode cX5_handleBits 33 = .ok (.iload_n 1, 1) := by decide +kernel
theorem dX5_handleBits_34 : decode cX5_handleBits 34 = .ok (.ireturn, 1) := by decide +kernel
theorem dX5_giveName_0 : decode cX5_giveName 0 = .ok (.iload_n 1, 1) := by decide +kernel
theorem dX5_giveName_1 : decode cX5_giveName 1 = .ok (.ifCond .lt 18, 3) := by decide +kernel
theorem dX5_giveName_4 : decode cX5_giveName 4 = .ok (.iload_n 1, 1) := by decide +kernel
theorem dX5_giveName_5 : decode cX5_giveName 5 = .ok (.bipush 16, 2) := by decide +kernel
theorem dX5_giveName_7 : decode cX5_giveName 7 = .ok (.if_icmp .ge 12, 3) := by decide +kernel
theorem dX5_giveName_10 : decode cX5_giveName 10 = .ok (.aload_n 0, 1) := by decide +kernel
theorem dX5_giveName_11 : decode cX5_giveName 11 = .ok (.getfield 9, 3) := by decide +kernel
theorem dX5_giveName_14 : decode cX5_giveName 14 = .ok (.iconst 3, 1) := by decide +kernel
theorem dX5_giveName_15 : decode cX5_giveName 15 = .ok (.iload_n 1, 1) := by decide +kernel
theorem dX5_giveName_16 : decode cX5_giveName 16 = .ok (.iadd, 1) := by decide +kernel
theorem dX5_giveName_17 : decode cX5_giveName 17 = .ok (.iload_n 2, 1) := by decide +kernel
theorem dX5_giveName_18 : decode cX5_giveName 18 = .ok (.iastore, 1) := by decide +kernel
theorem dX5_giveName_19 : decode cX5_giveName 19 = .ok (.return_, 1) := by decide +kernel
theorem dX5_makeThing_0 : decode cX5_makeThing 0 = .ok (.iconst 0, 1) := by decide +kernel
theorem dX5_makeThing_1 : decode cX5_makeThing 1 = .ok (.istore_n 2, 1) := by decide +kernel
theorem dX5_makeThing_2 : decode cX5_makeThing 2 = .ok (.iload_n 2, 1) := by decide +kernel
theorem dX5_makeThing_3 : decode cX5_makeThing 3 = .ok (.bipush 28, 2) := by decide +kernel
theorem dX5_makeThing_5 : decode cX5_makeThing 5 = .ok (.if_icmp .ge 129, 3) := by decide +kernel
theorem dX5_makeThing_8 : decode cX5_makeThing 8 = .ok (.aload_n 0, 1) := by decide +kernel
theorem dX5_makeThing_9 : decode cX5_makeThing 9 = .ok (.getfield 9, 3) := by decide +kernel
theorem dX5_makeThing_12 : decode cX5_makeThing 12 = .ok (.bipush 19, 2) := by decide +kernel
theorem dX5_makeThing_14 : decode cX5_makeThing 14 = .ok (.iload_n 2, 1) := by decide +kernel
theorem dX5_makeThing_15 : decode cX5_makeThing 15 = .ok (.iadd, 1) := by decide +kernel
theorem dX5_makeThing_16 : decode cX5_makeThing 16 = .ok (.iaload, 1) := by decide +kernel
theorem dX5_makeThing_17 : decode cX5_makeThing 17 = .ok (.ifCond .ge 111, 3) := by decide +kernel
theorem dX5_makeThing_20 : decode cX5_makeThing 20 = .ok (.aload_n 0, 1) := by decide +kernel
theorem dX5_makeThing_21 : decode cX5_makeThing 21 = .ok (.getfield 9, 3) := by decide +kernel
theorem dX5_makeThing_24 : decode cX5_makeThing 24 = .ok (.bipush 19, 2) := by decide +kernel
theorem dX5_makeThing_26 : decode cX5_makeThing 26 = .ok (.iload_n 2, 1) := by decide +kernel
theorem dX5_makeThing_27 : decode cX5_makeThing 27 = .ok (.iadd, 1) := by decide +kernel
theorem dX5_makeThing_28 : decode cX5_makeThing 28 = .ok (.iload_n 1, 1) := by decide +kernel
theorem dX5_makeThing_29 : decode cX5_makeThing 29 = .ok (.iastore, 1) := by decide +kernel
theorem dX5_makeThing_30 : decode cX5_makeThing 30 = .ok (.aload_n 0, 1) := by decide +kernel
theorem dX5_makeThing_31 : decode cX5_makeThing 31 = .ok (.getfield 9, 3) := by decide +kernel
theorem dX5_makeThing_34 : decode cX5_makeThing 34 = .ok (.bipush 47, 2) := by decide +kernel
theorem dX5_makeThing_36 : decode cX5_makeThing 36 = .ok (.iload_n 2, 1) := by decide +kernel
theorem dX5_makeThing_37 : decode cX5_makeThing 37 = .ok (.iadd, 1) := by decide +kernel
theorem dX5_makeThing_38 : decode cX5_makeThing 38 = .ok (.iconst 0, 1) := by decide +kernel
theorem dX5_makeThing_39 : decode cX5_makeThing 39 = .ok (.iastore, 1) := by decide +kernel
theorem dX5_makeThing_40 : decode cX5_makeThing 40 = .ok (.aload_n 0, 1) := by decide +kernel
theorem dX5_makeThing_41 : decode cX5_makeThing 41 = .ok (.getfield 9, 3) := by decide +kernel
theorem dX5_makeThing_44 : decode cX5_makeThing 44 = .ok (.bipush 75, 2) := by decide +kernel
theorem dX5_makeThing_46 : decode cX5_makeThing 46 = .ok (.iload_n 2, 1) := by decide +kernel
theorem dX5_makeThing_47 : decode cX5_makeThing 47 = .ok (.iadd, 1) := by decide +kernel
theorem dX5_makeThing_48 : decode cX5_makeThing 48 = .ok (.iconst 0, 1) := by decide +kernel
theorem dX5_makeThing_49 : decode cX5_makeThing 49 = .ok (.iastore, 1) := by decide +kernel
theorem dX5_makeThing_50 : decode cX5_makeThing 50 = .ok (.aload_n 0, 1) := by decide +kernel
theorem dX5_makeThing_51 : decode cX5_makeThing 51 = .ok (.getfield 9, 3) := by decide +kernel
theorem dX5_makeThing_54 : decode cX5_makeThing 54 = .ok (.bipush 103, 2) := by decide +kernel
theorem dX5_makeThing_56 : decode cX5_makeThing 56 = .ok (.iload_n 2, 1) := by decide +kernel
theorem dX5_makeThing_57 : decode cX5_makeThing 57 = .ok (.iadd, 1) := by decide +kernel
theorem dX5_makeThing_58 : decode cX5_makeThing 58 = .ok (.iconst 0, 1) := by decide +kernel
theorem dX5_makeThing_59 : decode cX5_makeThing 59 = .ok (.iastore, 1) := by decide +kernel
theorem dX5_makeThing_60 : decode cX5_makeThing 60 = .ok (.aload_n 0, 1) := by decide +kernel
theorem dX5_makeThing_61 : decode cX5_makeThing 61 = .ok (.getfield 9, 3) := by decide +kernel
theorem dX5_makeThing_64 : decode cX5_makeThing 64 = .ok (.sipush 131, 3) := by decide +kernel
theorem dX5_makeThing_67 : decode cX5_makeThing 67 = .ok (.iload_n 2, 1) := by decide +kernel
theorem dX5_makeThing_68 : decode cX5_makeThing 68 = .ok (.iadd, 1) := by decide +kernel
theorem dX5_makeThing_69 : decode cX5_makeThing 69 = .ok (.iconst (-1), 1) := by decide +kernel
theorem dX5_makeThing_70 : decode cX5_makeThing 70 = .ok (.iastore, 1) := by decide +kernel
theorem dX5_makeThing_71 : decode cX5_makeThing 71 = .ok (.aload_n 0, 1) := by decide +kernel
theorem dX5_makeThing_72 : decode cX5_makeThing 72 = .ok (.getfield 9, 3) := by decide +kernel
theorem dX5_makeThing_75 : decode cX5_makeThing 75 = .ok (.sipush 159, 3) := by decide +kernel
theorem dX5_makeThing_78 : decode cX5_makeThing 78 = .ok (.iload_n 2, 1) := by decide +kernel
theorem dX5_makeThing_79 : decode cX5_makeThing 79 = .ok (.iadd, 1) := by decide +kernel
theorem dX5_makeThing_80 : decode cX5_makeThing 80 = .ok (.iconst (-1), 1) := by decide +kernel
theorem dX5_makeThing_81 : decode cX5_makeThing 81 = .ok (.iastore, 1) := by decide +kernel
theorem dX5_makeThing_82 : decode cX5_makeThing 82 = .ok (.aload_n 0, 1) := by decide +kernel
theorem dX5_makeThing_83 : decode cX5_makeThing 83 = .ok (.getfield 9, 3) := by decide +kernel
theorem dX5_makeThing_86 : decode cX5_makeThing 86 = .ok (.sipush 187, 3) := by decide +kernel
theorem dX5_makeThing_89 : decode cX5_makeThing 89 = .ok (.iload_n 2, 1) := by decide +kernel
theorem dX5_makeThing_90 : decode cX5_makeThing 90 = .ok (.iadd, 1) := by decide +kernel
theorem dX5_makeThing_91 : decode cX5_makeThing 91 = .ok (.iconst 0, 1) := by decide +kernel
theorem dX5_makeThing_92 : decode cX5_makeThing 92 = .ok (.iastore, 1) := by decide +kernel
theorem dX5_makeThing_93 : decode cX5_makeThing 93 = .ok (.aload_n 0, 1) := by decide +kernel
theorem dX5_makeThing_94 : decode cX5_makeThing 94 = .ok (.getfield 9, 3) := by decide +kernel
theorem dX5_makeThing_97 : decode cX5_makeThing 97 = .ok (.sipush 215, 3) := by decide +kernel
theorem dX5_makeThing_100 : decode cX5_makeThing 100 = .ok (.iload_n 2, 1) := by decide +kernel
theorem dX5_makeThing_101 : decode cX5_makeThing 101 = .ok (.iadd, 1) := by decide +kernel
theorem dX5_makeThing_102 : decode cX5_makeThing 102 = .ok (.iconst 0, 1) := by decide +kernel
theorem dX5_makeThing_103 : decode cX5_makeThing 103 = .ok (.iastore, 1) := by decide +kernel
theorem dX5_makeThing_104 : decode cX5_makeThing 104 = .ok (.aload_n 0, 1) := by decide +kernel
theorem dX5_makeThing_105 : decode cX5_makeThing 105 = .ok (.getfield 9, 3) := by decide +kernel
theorem dX5_makeThing_108 : decode cX5_makeThing 108 = .ok (.sipush 243, 3) := by decide +kernel
theorem dX5_makeThing_111 : decode cX5_makeThing 111 = .ok (.iload_n 2, 1) := by decide +kernel
theorem dX5_makeThing_112 : decode cX5_makeThing 112 = .ok (.iadd, 1) := by decide +kernel
theorem dX5_makeThing_113 : decode cX5_makeThing 113 = .ok (.iconst (-1), 1) := by decide +kernel
theorem dX5_makeThing_114 : decode cX5_makeThing 114 = .ok (.iastore, 1) := by decide +kernel
theorem dX5_makeThing_115 : decode cX5_makeThing 115 = .ok (.aload_n 0, 1) := by decide +kernel
theorem dX5_makeThing_116 : decode cX5_makeThing 116 = .ok (.getfield 9, 3) := by decide +kernel
theorem dX5_makeThing_119 : decode cX5_makeThing 119 = .ok (.sipush 271, 3) := by decide +kernel
theorem dX5_makeThing_122 : decode cX5_makeThing 122 = .ok (.iload_n 2, 1) := by decide +kernel
theorem dX5_makeThing_123 : decode cX5_makeThing 123 = .ok (.iadd, 1) := by decide +kernel
theorem dX5_makeThing_124 : decode cX5_makeThing 124 = .ok (.iconst 0, 1) := by decide +kernel
theorem dX5_makeThing_125 : decode cX5_makeThing 125 = .ok (.iastore, 1) := by decide +kernel
theorem dX5_makeThing_126 : decode cX5_makeThing 126 = .ok (.iload_n 2, 1) := by decide +kernel
theorem dX5_makeThing_127 : decode cX5_makeThing 127 = .ok (.ireturn, 1) := by decide +kernel
theorem dX5_makeThing_128 : decode cX5_makeThing 128 = .ok (.iinc 2 1, 3) := by decide +kernel
theorem dX5_makeThing_131 : decode cX5_makeThing 131 = .ok (.goto (-129), 3) := by decide +kernel
theorem dX5_makeThing_134 : decode cX5_makeThing 134 = .ok (.iconst (-1), 1) := by decide +kernel
theorem dX5_makeThing_135 : decode cX5_makeThing 135 = .ok (.ireturn, 1) := by decide +kernel
theorem dX5_makeEnds_0 : decode cX5_makeEnds 0 = .ok (.aload_n 0, 1) := by decide +kernel
theorem dX5_makeEnds_1 : decode cX5_makeEnds 1 = .ok (.iconst 0, 1) := by decide +kernel
theorem dX5_makeEnds_2 : decode cX5_makeEnds 2 = .ok (.invokevirtual 25, 3) := by decide +kernel
theorem dX5_makeEnds_5 : decode cX5_makeEnds 5 = .ok (.istore_n 2, 1) := by decide +kernel
theorem dX5_makeEnds_6 : decode cX5_makeEnds 6 = .ok (.aload_n 0, 1) := by decide +kernel
theorem dX5_makeEnds_7 : decode cX5_makeEnds 7 = .ok (.iconst 1, 1) := by decide +kernel
theorem dX5_makeEnds_8 : decode cX5_makeEnds 8 = .ok (.invokevirtual 25, 3) := by decide +kernel
theorem dX5_makeEnds_11 : decode cX5_makeEnds 11 = .ok (.istore_n 3, 1) := by decide +kernel
theorem dX5_makeEnds_12 : decode cX5_makeEnds 12 = .ok (.iload_n 2, 1) := by decide +kernel
theorem dX5_makeEnds_13 : decode cX5_makeEnds 13 = .ok (.ifCond .lt 7, 3) := by decide +kernel
theorem dX5_makeEnds_16 : decode cX5_makeEnds 16 = .ok (.iload_n 3, 1) := by decide +kernel
theorem dX5_makeEnds_17 : decode cX5_makeEnds 17 = .ok (.ifCond .ge 5, 3) := by decide +kernel
theorem dX5_makeEnds_20 : decode cX5_makeEnds 20 = .ok (.iconst (-1), 1) := by decide +kernel
theorem dX5_makeEnds_21 : decode cX5_makeEnds 21 = .ok (.ireturn, 1) := by decide +kernel
theorem dX5_makeEnds_22 : decode cX5_makeEnds 22 = .ok (.aload_n 0, 1) := by decide +kernel
theorem dX5_makeEnds_23 : decode cX5_makeEnds 23 = .ok (.getfield 9, 3) := by decide +kernel
theorem dX5_makeEnds_26 : decode cX5_makeEnds 26 = .ok (.bipush 75, 2) := by decide +kernel
theorem dX5_makeEnds_28 : decode cX5_makeEnds 28 = .ok (.iload_n 2, 1) := by decide +kernel
theorem dX5_makeEnds_29 : decode cX5_makeEnds 29 = .ok (.iadd, 1) := by decide +kernel
theorem dX5_makeEnds_30 : decode cX5_makeEnds 30 = .ok (.iload_n 1, 1) := by decide +kernel
theorem dX5_makeEnds_31 : decode cX5_makeEnds 31 = .ok (.iastore, 1) := by decide +kernel
theorem dX5_makeEnds_32 : decode cX5_makeEnds 32 = .ok (.aload_n 0, 1) := by decide +kernel
theorem dX5_makeEnds_33 : decode cX5_makeEnds 33 = .ok (.getfield 9, 3) := by decide +kernel
theorem dX5_makeEnds_36 : decode cX5_makeEnds 36 = .ok (.bipush 75, 2) := by decide +kernel
theorem dX5_makeEnds_38 : decode cX5_makeEnds 38 = .ok (.iload_n 3, 1) := by decide +kernel
theorem dX5_makeEnds_39 : decode cX5_makeEnds 39 = .ok (.iadd, 1) := by decide +kernel
theorem dX5_makeEnds_40 : decode cX5_makeEnds 40 = .ok (.iload_n 1, 1) := by decide +kernel
theorem dX5_makeEnds_41 : decode cX5_makeEnds 41 = .ok (.iastore, 1) := by decide +kernel
theorem dX5_makeEnds_42 : decode cX5_makeEnds 42 = .ok (.aload_n 0, 1) := by decide +kernel
theorem dX5_makeEnds_43 : decode cX5_makeEnds 43 = .ok (.getfield 9, 3) := by decide +kernel
theorem dX5_makeEnds_46 : decode cX5_makeEnds 46 = .ok (.sipush 131, 3) := by decide +kernel
theorem dX5_makeEnds_49 : decode cX5_makeEnds 49 = .ok (.iload_n 2, 1) := by decide +kernel
theorem dX5_makeEnds_50 : decode cX5_makeEnds 50 = .ok (.iadd, 1) := by decide +kernel
theorem dX5_makeEnds_51 : decode cX5_makeEnds 51 = .ok (.iload_n 3, 1) := by decide +kernel
theorem dX5_makeEnds_52 : decode cX5_makeEnds 52 = .ok (.iastore, 1) := by decide +kernel
theorem dX5_makeEnds_53 : decode cX5_makeEnds 53 = .ok (.aload_n 0, 1) := by decide +kernel
theorem dX5_makeEnds_54 : decode cX5_makeEnds 54 = .ok (.getfield 9, 3) := by decide +kernel
theorem dX5_makeEnds_57 : decode cX5_makeEnds 57 = .ok (.sipush 131, 3) := by decide +kernel
theorem dX5_makeEnds_60 : decode cX5_makeEnds 60 = .ok (.iload_n 3, 1) := by decide +kernel
theorem dX5_makeEnds_61 : decode cX5_makeEnds 61 = .ok (.iadd, 1) := by decide +kernel
theorem dX5_makeEnds_62 : decode cX5_makeEnds 62 = .ok (.iload_n 2, 1) := by decide +kernel
theorem dX5_makeEnds_63 : decode cX5_makeEnds 63 = .ok (.iastore, 1) := by decide +kernel
theorem dX5_makeEnds_64 : decode cX5_makeEnds 64 = .ok (.iload_n 2, 1) := by decide +kernel
theorem dX5_makeEnds_65 : decode cX5_makeEnds 65 = .ok (.ireturn, 1) := by decide +kernel
theorem dX5_remove_0 : decode cX5_remove 0 = .ok (.aload_n 0, 1) := by decide +kernel
theorem dX5_remove_1 : decode cX5_remove 1 = .ok (.getfield 9, 3) := by decide +kernel
theorem dX5_remove_4 : decode cX5_remove 4 = .ok (.sipush 131, 3) := by decide +kernel
theorem dX5_remove_7 : decode cX5_remove 7 = .ok (.iload_n 1, 1) := by decide +kernel
theorem dX5_remove_8 : decode cX5_remove 8 = .ok (.iadd, 1) := by decide +kernel
theorem dX5_remove_9 : decode cX5_remove 9 = .ok (.iaload, 1) := by decide +kernel
theorem dX5_remove_10 : decode cX5_remove 10 = .ok (.istore_n 2, 1) := by decide +kernel
theorem dX5_remove_11 : decode cX5_remove 11 = .ok (.iload_n 2, 1) := by decide +kernel
theorem dX5_remove_12 : decode cX5_remove 12 = .ok (.ifCond .lt 14, 3) := by decide +kernel
theorem dX5_remove_15 : decode cX5_remove 15 = .ok (.aload_n 0, 1) := by decide +kernel
theorem dX5_remove_16 : decode cX5_remove 16 = .ok (.getfield 9, 3) := by decide +kernel
theorem dX5_remove_19 : decode cX5_remove 19 = .ok (.sipush 131, 3) := by decide +kernel
theorem dX5_remove_22 : decode cX5_remove 22 = .ok (.iload_n 2, 1) := by decide +kernel
theorem dX5_remove_23 : decode cX5_remove 23 = .ok (.iadd, 1) := by decide +kernel
theorem dX5_remove_24 : decode cX5_remove 24 = .ok (.iconst (-1), 1) := by decide +kernel
theorem dX5_remove_25 : decode cX5_remove 25 = .ok (.iastore, 1) := by decide +kernel
theorem dX5_remove_26 : decode cX5_remove 26 = .ok (.aload_n 0, 1) := by decide +kernel
theorem dX5_remove_27 : decode cX5_remove 27 = .ok (.getfield 9, 3) := by decide +kernel
theorem dX5_remove_30 : decode cX5_remove 30 = .ok (.bipush 19, 2) := by decide +kernel
theorem dX5_remove_32 : decode cX5_remove 32 = .ok (.iload_n 1, 1) := by decide +kernel
theorem dX5_remove_33 : decode cX5_remove 33 = .ok (.iadd, 1) := by decide +kernel
theorem dX5_remove_34 : decode cX5_remove 34 = .ok (.iconst (-1), 1) := by decide +kernel
theorem dX5_remove_35 : decode cX5_remove 35 = .ok (.iastore, 1) := by decide +kernel
theorem dX5_remove_36 : decode cX5_remove 36 = .ok (.aload_n 0, 1) := by decide +kernel
theorem dX5_remove_37 : decode cX5_remove 37 = .ok (.getfield 9, 3) := by decide +kernel
theorem dX5_remove_40 : decode cX5_remove 40 = .ok (.sipush 243, 3) := by decide +kernel
theorem dX5_remove_43 : decode cX5_remove 43 = .ok (.iload_n 1, 1) := by decide +kernel
theorem dX5_remove_44 : decode cX5_remove 44 = .ok (.iadd, 1) := by decide +kernel
theorem dX5_remove_45 : decode cX5_remove 45 = .ok (.iconst (-1), 1) := by decide +kernel
theorem dX5_remove_46 : decode cX5_remove 46 = .ok (.iastore, 1) := by decide +kernel
theorem dX5_remove_47 : decode cX5_remove 47 = .ok (.return_, 1) := by decide +kernel
theorem dX5_setHeld_0 : decode cX5_setHeld 0 = .ok (.aload_n 0, 1) := by decide +kernel
theorem dX5_setHeld_1 : decode cX5_setHeld 1 = .ok (.getfield 9, 3) := by decide +kernel
theorem dX5_setHeld_4 : decode cX5_setHeld 4 = .ok (.sipush 131, 3) := by decide +kernel
theorem dX5_setHeld_7 : decode cX5_setHeld 7 = .ok (.iload_n 1, 1) := by decide +kernel
theorem dX5_setHeld_8 : decode cX5_setHeld 8 = .ok (.iadd, 1) := by decide +kernel
theorem dX5_setHeld_9 : decode cX5_setHeld 9 = .ok (.iaload, 1) := by decide +kernel
theorem dX5_setHeld_10 : decode cX5_setHeld 10 = .ok (.istore_n 3, 1) := by decide +kernel
theorem dX5_setHeld_11 : decode cX5_setHeld 11 = .ok (.aload_n 0, 1) := by decide +kernel
theorem dX5_setHeld_12 : decode cX5_setHeld 12 = .ok (.getfield 9, 3) := by decide +kernel
theorem dX5_setHeld_15 : decode cX5_setHeld 15 = .ok (.bipush 47, 2) := by decide +kernel
theorem dX5_setHeld_17 : decode cX5_setHeld 17 = .ok (.iload_n 1, 1) := by decide +kernel
theorem dX5_setHeld_18 : decode cX5_setHeld 18 = .ok (.iadd, 1) := by decide +kernel
theorem dX5_setHeld_19 : decode cX5_setHeld 19 = .ok (.iload_n 2, 1) := by decide +kernel
theorem dX5_setHeld_20 : decode cX5_setHeld 20 = .ok (.iastore, 1) := by decide +kernel
theorem dX5_setHeld_21 : decode cX5_setHeld 21 = .ok (.iload_n 3, 1) := by decide +kernel
theorem dX5_setHeld_22 : decode cX5_setHeld 22 = .ok (.ifCond .lt 13, 3) := by decide +kernel
theorem dX5_setHeld_25 : decode cX5_setHeld 25 = .ok (.aload_n 0, 1) := by decide +kernel
theorem dX5_setHeld_26 : decode cX5_setHeld 26 = .ok (.getfield 9, 3) := by decide +kernel
theorem dX5_setHeld_29 : decode cX5_setHeld 29 = .ok (.bipush 47, 2) := by decide +kernel
theorem dX5_setHeld_31 : decode cX5_setHeld 31 = .ok (.iload_n 3, 1) := by decide +kernel
theorem dX5_setHeld_32 : decode cX5_setHeld 32 = .ok (.iadd, 1) := by decide +kernel
theorem dX5_setHeld_33 : decode cX5_setHeld 33 = .ok (.iload_n 2, 1) := by decide +kernel
theorem dX5_setHeld_34 : decode cX5_setHeld 34 = .ok (.iastore, 1) := by decide +kernel
theorem dX5_setHeld_35 : decode cX5_setHeld 35 = .ok (.return_, 1) := by decide +kernel
theorem dX5_waitingInAll_0 : decode cX5_waitingInAll 0 = .ok (.iconst 0, 1) := by decide +kernel
theorem dX5_waitingInAll_1 : decode cX5_waitingInAll 1 = .ok (.istore_n 1, 1) := by decide +kernel
theorem dX5_waitingInAll_2 : decode cX5_waitingInAll 2 = .ok (.iconst 0, 1) := by decide +kernel
theorem dX5_waitingInAll_3 : decode cX5_waitingInAll 3 = .ok (.istore_n 2, 1) := by decide +kernel
theorem dX5_waitingInAll_4 : decode cX5_waitingInAll 4 = .ok (.iload_n 2, 1) := by decide +kernel
theorem dX5_waitingInAll_5 : decode cX5_waitingInAll 5 = .ok (.bipush 28, 2) := by decide +kernel
theorem dX5_waitingInAll_7 : decode cX5_waitingInAll 7 = .ok (.if_icmp .ge 25, 3) := by decide +kernel
theorem dX5_waitingInAll_10 : decode cX5_waitingInAll 10 = .ok (.aload_n 0, 1) := by decide +kernel
theorem dX5_waitingInAll_11 : decode cX5_waitingInAll 11 = .ok (.getfield 9, 3) := by decide +kernel
theorem dX5_waitingInAll_14 : decode cX5_waitingInAll 14 = .ok (.sipush 243, 3) := by decide +kernel
theorem dX5_waitingInAll_17 : decode cX5_waitingInAll 17 = .ok (.iload_n 2, 1) := by decide +kernel
theorem dX5_waitingInAll_18 : decode cX5_waitingInAll 18 = .ok (.iadd, 1) := by decide +kernel
theorem dX5_waitingInAll_19 : decode cX5_waitingInAll 19 = .ok (.iaload, 1) := by decide +kernel
theorem dX5_waitingInAll_20 : decode cX5_waitingInAll 20 = .ok (.ifCond .lt 6, 3) := by decide +kernel
theorem dX5_waitingInAll_23 : decode cX5_waitingInAll 23 = .ok (.iinc 1 1, 3) := by decide +kernel
theorem dX5_waitingInAll_26 : decode cX5_waitingInAll 26 = .ok (.iinc 2 1, 3) := by decide +kernel
theorem dX5_waitingInAll_29 : decode cX5_waitingInAll 29 = .ok (.goto (-25), 3) := by decide +kernel
theorem dX5_waitingInAll_32 : decode cX5_waitingInAll 32 = .ok (.iload_n 1, 1) := by decide +kernel
theorem dX5_waitingInAll_33 : decode cX5_waitingInAll 33 = .ok (.ireturn, 1) := by decide +kernel
theorem dX5_longestWaiting_0 : decode cX5_longestWaiting 0 = .ok (.iconst (-1), 1) := by decide +kernel
theorem dX5_longestWaiting_1 : decode cX5_longestWaiting 1 = .ok (.istore_n 2, 1) := by decide +kernel
theorem dX5_longestWaiting_2 : decode cX5_longestWaiting 2 = .ok (.iconst 0, 1) := by decide +kernel
theorem dX5_longestWaiting_3 : decode cX5_longestWaiting 3 = .ok (.istore_n 3, 1) := by decide +kernel
theorem dX5_longestWaiting_4 : decode cX5_longestWaiting 4 = .ok (.iload_n 3, 1) := by decide +kernel
theorem dX5_longestWaiting_5 : decode cX5_longestWaiting 5 = .ok (.bipush 28, 2) := by decide +kernel
theorem dX5_longestWaiting_7 : decode cX5_longestWaiting 7 = .ok (.if_icmp .ge 52, 3) := by decide +kernel
theorem dX5_longestWaiting_10 : decode cX5_longestWaiting 10 = .ok (.aload_n 0, 1) := by decide +kernel
theorem dX5_longestWaiting_11 : decode cX5_longestWaiting 11 = .ok (.getfield 9, 3) := by decide +kernel
theorem dX5_longestWaiting_14 : decode cX5_longestWaiting 14 = .ok (.sipush 243, 3) := by decide +kernel
theorem dX5_longestWaiting_17 : decode cX5_longestWaiting 17 = .ok (.iload_n 3, 1) := by decide +kernel
theorem dX5_longestWaiting_18 : decode cX5_longestWaiting 18 = .ok (.iadd, 1) := by decide +kernel
theorem dX5_longestWaiting_19 : decode cX5_longestWaiting 19 = .ok (.iaload, 1) := by decide +kernel
theorem dX5_longestWaiting_20 : decode cX5_longestWaiting 20 = .ok (.iload_n 1, 1) := by decide +kernel
theorem dX5_longestWaiting_21 : decode cX5_longestWaiting 21 = .ok (.if_icmp .ne 32, 3) := by decide +kernel
theorem dX5_longestWaiting_24 : decode cX5_longestWaiting 24 = .ok (.iload_n 2, 1) := by decide +kernel
theorem dX5_longestWaiting_25 : decode cX5_longestWaiting 25 = .ok (.ifCond .lt 26, 3) := by decide +kernel
theorem dX5_longestWaiting_28 : decode cX5_longestWaiting 28 = .ok (.aload_n 0, 1) := by decide +kernel
theorem dX5_longestWaiting_29 : decode cX5_longestWaiting 29 = .ok (.getfield 9, 3) := by decide +kernel
theorem dX5_longestWaiting_32 : decode cX5_longestWaiting 32 = .ok (.sipush 271, 3) := by decide +kernel
theorem dX5_longestWaiting_35 : decode cX5_longestWaiting 35 = .ok (.iload_n 3, 1) := by decide +kernel
theorem dX5_longestWaiting_36 : decode cX5_longestWaiting 36 = .ok (.iadd, 1) := by decide +kernel
theorem dX5_longestWaiting_37 : decode cX5_longestWaiting 37 = .ok (.iaload, 1) := by decide +kernel
theorem dX5_longestWaiting_38 : decode cX5_longestWaiting 38 = .ok (.aload_n 0, 1) := by decide +kernel
theorem dX5_longestWaiting_39 : decode cX5_longestWaiting 39 = .ok (.getfield 9, 3) := by decide +kernel
theorem dX5_longestWaiting_42 : decode cX5_longestWaiting 42 = .ok (.sipush 271, 3) := by decide +kernel
theorem dX5_longestWaiting_45 : decode cX5_longestWaiting 45 = .ok (.iload_n 2, 1) := by decide +kernel
theorem dX5_longestWaiting_46 : decode cX5_longestWaiting 46 = .ok (.iadd, 1) := by decide +kernel
theorem dX5_longestWaiting_47 : decode cX5_longestWaiting 47 = .ok (.iaload, 1) := by decide +kernel
theorem dX5_longestWaiting_48 : decode cX5_longestWaiting 48 = .ok (.if_icmp .ge 5, 3) := by decide +kernel
theorem dX5_longestWaiting_51 : decode cX5_longestWaiting 51 = .ok (.iload_n 3, 1) := by decide +kernel
theorem dX5_longestWaiting_52 : decode cX5_longestWaiting 52 = .ok (.istore_n 2, 1) := by decide +kernel
theorem dX5_longestWaiting_53 : decode cX5_longestWaiting 53 = .ok (.iinc 3 1, 3) := by decide +kernel
theorem dX5_longestWaiting_56 : decode cX5_longestWaiting 56 = .ok (.goto (-52), 3) := by decide +kernel
theorem dX5_longestWaiting_59 : decode cX5_longestWaiting 59 = .ok (.iload_n 2, 1) := by decide +kernel
theorem dX5_longestWaiting_60 : decode cX5_longestWaiting 60 = .ok (.ireturn, 1) := by decide +kernel
theorem dX5_living_0 : decode cX5_living 0 = .ok (.iconst 0, 1) := by decide +kernel
theorem dX5_living_1 : decode cX5_living 1 = .ok (.istore_n 1, 1) := by decide +kernel
theorem dX5_living_2 : decode cX5_living 2 = .ok (.iconst 0, 1) := by decide +kernel
theorem dX5_living_3 : decode cX5_living 3 = .ok (.istore_n 2, 1) := by decide +kernel
theorem dX5_living_4 : decode cX5_living 4 = .ok (.iload_n 2, 1) := by decide +kernel
theorem dX5_living_5 : decode cX5_living 5 = .ok (.bipush 28, 2) := by decide +kernel
theorem dX5_living_7 : decode cX5_living 7 = .ok (.if_icmp .ge 24, 3) := by decide +kernel
theorem dX5_living_10 : decode cX5_living 10 = .ok (.aload_n 0, 1) := by decide +kernel
theorem dX5_living_11 : decode cX5_living 11 = .ok (.getfield 9, 3) := by decide +kernel
theorem dX5_living_14 : decode cX5_living 14 = .ok (.bipush 19, 2) := by decide +kernel
theorem dX5_living_16 : decode cX5_living 16 = .ok (.iload_n 2, 1) := by decide +kernel
theorem dX5_living_17 : decode cX5_living 17 = .ok (.iadd, 1) := by decide +kernel
theorem dX5_living_18 : decode cX5_living 18 = .ok (.iaload, 1) := by decide +kernel
theorem dX5_living_19 : decode cX5_living 19 = .ok (.ifCond .lt 6, 3) := by decide +kernel
theorem dX5_living_22 : decode cX5_living 22 = .ok (.iinc 1 1, 3) := by decide +kernel
theorem dX5_living_25 : decode cX5_living 25 = .ok (.iinc 2 1, 3) := by decide +kernel
theorem dX5_living_28 : decode cX5_living 28 = .ok (.goto (-24), 3) := by decide +kernel
theorem dX5_living_31 : decode cX5_living 31 = .ok (.iload_n 1, 1) := by decide +kernel
theorem dX5_living_32 : decode cX5_living 32 = .ok (.ireturn, 1) := by decide +kernel
theorem dX6_init_0 : decode cX6_init 0 = .ok (.aload_n 0, 1) := by decide +kernel
theorem dX6_init_1 : decode cX6_init 1 = .ok (.invokespecial 3, 3) := by decide +kernel
theorem dX6_init_4 : decode cX6_init 4 = .ok (.aload_n 0, 1) := by decide +kernel
theorem dX6_init_5 : decode cX6_init 5 = .ok (.invokestatic 9, 3) := by decide +kernel
theorem dX6_init_8 : decode cX6_init 8 = .ok (.putfield 13, 3) := by decide +kernel
theorem dX6_init_11 : decode cX6_init 11 = .ok (.aload_n 0, 1) := by decide +kernel
theorem dX6_init_12 : decode cX6_init 12 = .ok (.new 17, 3) := by decide +kernel
theorem dX6_init_15 : decode cX6_init 15 = .ok (.dup, 1) := by decide +kernel
theorem dX6_init_16 : decode cX6_init 16 = .ok (.aload_n 0, 1) := by decide +kernel
theorem dX6_init_17 : decode cX6_init 17 = .ok (.getfield 13, 3) := by decide +kernel
theorem dX6_init_20 : decode cX6_init 20 = .ok (.invokespecial 19, 3) := by decide +kernel
theorem dX6_init_23 : decode cX6_init 23 = .ok (.putfield 22, 3) := by decide +kernel
theorem dX6_init_26 : decode cX6_init 26 = .ok (.invokestatic 9, 3) := by decide +kernel
theorem dX6_init_29 : decode cX6_init 29 = .ok (.astore_n 1, 1) := by decide +kernel
theorem dX6_init_30 : decode cX6_init 30 = .ok (.aload_n 0, 1) := by decide +kernel
theorem dX6_init_31 : decode cX6_init 31 = .ok (.new 17, 3) := by decide +kernel
theorem dX6_init_34 : decode cX6_init 34 = .ok (.dup, 1) := by decide +kernel
theorem dX6_init_35 : decode cX6_init 35 = .ok (.aload_n 1, 1) := by decide +kernel
theorem dX6_init_36 : decode cX6_init 36 = .ok (.invokespecial 19, 3) := by decide +kernel
theorem dX6_init_39 : decode cX6_init 39 = .ok (.putfield 26, 3) := by decide +kernel
theorem dX6_init_42 : decode cX6_init 42 = .ok (.aload_n 0, 1) := by decide +kernel
theorem dX6_init_43 : decode cX6_init 43 = .ok (.new 29, 3) := by decide +kernel
theorem dX6_init_46 : decode cX6_init 46 = .ok (.dup, 1) := by decide +kernel
theorem dX6_init_47 : decode cX6_init 47 = .ok (.aload_n 0, 1) := by decide +kernel
theorem dX6_init_48 : decode cX6_init 48 = .ok (.getfield 26, 3) := by decide +kernel
theorem dX6_init_51 : decode cX6_init 51 = .ok (.aload_n 1, 1) := by decide +kernel
theorem dX6_init_52 : decode cX6_init 52 = .ok (.invokespecial 31, 3) := by decide +kernel
theorem dX6_init_55 : decode cX6_init 55 = .ok (.putfield 34, 3) := by decide +kernel
theorem dX6_init_58 : decode cX6_init 58 = .ok (.aload_n 0, 1) := by decide +kernel
theorem dX6_init_59 : decode cX6_init 59 = .ok (.new 38, 3) := by decide +kernel
theorem dX6_init_62 : decode cX6_init 62 = .ok (.dup, 1) := by decide +kernel
theorem dX6_init_63 : decode cX6_init 63 = .ok (.invokespecial 40, 3) := by decide +kernel
theorem dX6_init_66 : decode cX6_init 66 = .ok (.putfield 41, 3) := by decide +kernel
theorem dX6_init_69 : decode cX6_init 69 = .ok (.aload_n 0, 1) := by decide +kernel
theorem dX6_init_70 : decode cX6_init 70 = .ok (.getfield 41, 3) := by decide +kernel
theorem dX6_init_73 : decode cX6_init 73 = .ok (.aload_n 0, 1) := by decide +kernel
theorem dX6_init_74 : decode cX6_init 74 = .ok (.getfield 13, 3) := by decide +kernel
theorem dX6_init_77 : decode cX6_init 77 = .ok (.invokevirtual 45, 3) := by decide +kernel
theorem dX6_init_80 : decode cX6_init 80 = .ok (.aload_n 0, 1) := by decide +kernel
theorem dX6_init_81 : decode cX6_init 81 = .ok (.sipush 1546, 3) := by decide +kernel
theorem dX6_init_84 : decode cX6_init 84 = .ok (.newarray .int, 2) := by decide +kernel
theorem dX6_init_86 : decode cX6_init 86 = .ok (.putfield 48, 3) := by decide +kernel
theorem dX6_init_89 : decode cX6_init 89 = .ok (.aload_n 0, 1) := by decide +kernel
theorem dX6_init_90 : decode cX6_init 90 = .ok (.iconst 0, 1) := by decide +kernel
theorem dX6_init_91 : decode cX6_init 91 = .ok (.putfield 51, 3) := by decide +kernel
theorem dX6_init_94 : decode cX6_init 94 = .ok (.return_, 1) := by decide +kernel
theorem dX6_emptyCells_0 : decode cX6_emptyCells 0 = .ok (.sipush 773, 3) := by decide +kernel
theorem dX6_emptyCells_3 : decode cX6_emptyCells 3 = .ok (.newarray .int, 2) := by decide +kernel
theorem dX6_emptyCells_5 : decode cX6_emptyCells 5 = .ok (.astore_n 0, 1) := by decide +kernel
theorem dX6_emptyCells_6 : decode cX6_emptyCells 6 = .ok (.aload_n 0, 1) := by decide +kernel
theorem dX6_emptyCells_7 : decode cX6_emptyCells 7 = .ok (.iconst 3, 1) := by decide +kernel
theorem dX6_emptyCells_8 : decode cX6_emptyCells 8 = .ok (.bipush 16, 2) := by decide +kernel
theorem dX6_emptyCells_10 : decode cX6_emptyCells 10 = .ok (.invokestatic 55, 3) := by decide +kernel
theorem dX6_emptyCells_13 : decode cX6_emptyCells 13 = .ok (.aload_n 0, 1) := by decide +kernel
theorem dX6_emptyCells_14 : decode cX6_emptyCells 14 = .ok (.bipush 19, 2) := by decide +kernel
theorem dX6_emptyCells_16 : decode cX6_emptyCells 16 = .ok (.bipush 28, 2) := by decide +kernel
theorem dX6_emptyCells_18 : decode cX6_emptyCells 18 = .ok (.invokestatic 55, 3) := by decide +kernel
theorem dX6_emptyCells_21 : decode cX6_emptyCells 21 = .ok (.aload_n 0, 1) := by decide +kernel
theorem dX6_emptyCells_22 : decode cX6_emptyCells 22 = .ok (.sipush 243, 3) := by decide +kernel
theorem dX6_emptyCells_25 : decode cX6_emptyCells 25 = .ok (.bipush 28, 2) := by decide +kernel
theorem dX6_emptyCells_27 : decode cX6_emptyCells 27 = .ok (.invokestatic 55, 3) := by decide +kernel
theorem dX6_emptyCells_30 : decode cX6_emptyCells 30 = .ok (.aload_n 0, 1) := by decide +kernel
theorem dX6_emptyCells_31 : decode cX6_emptyCells 31 = .ok (.sipush 539, 3) := by decide +kernel
theorem dX6_emptyCells_34 : decode cX6_emptyCells 34 = .ok (.bipush 6, 2) := by decide +kernel
theorem dX6_emptyCells_36 : decode cX6_emptyCells 36 = .ok (.invokestatic 55, 3) := by decide +kernel
theorem dX6_emptyCells_39 : decode cX6_emptyCells 39 = .ok (.aload_n 0, 1) := by decide +kernel
theorem dX6_emptyCells_40 : decode cX6_emptyCells 40 = .ok (.sipush 557, 3) := by decide +kernel
theorem dX6_emptyCells_43 : decode cX6_emptyCells 43 = .ok (.bipush 6, 2) := by decide +kernel
theorem dX6_emptyCells_45 : decode cX6_emptyCells 45 = .ok (.invokestatic 55, 3) := by decide +kernel
theorem dX6_emptyCells_48 : decode cX6_emptyCells 48 = .ok (.aload_n 0, 1) := by decide +kernel
theorem dX6_emptyCells_49 : decode cX6_emptyCells 49 = .ok (.areturn, 1) := by decide +kernel
theorem dX6_fillWithNone_0 : decode cX6_fillWithNone 0 = .ok (.iload_n 1, 1) := by decide +kernel
theorem dX6_fillWithNone_1 : decode cX6_fillWithNone 1 = .ok (.istore_n 3, 1) := by decide +kernel
theorem dX6_fillWithNone_2 : decode cX6_fillWithNone 2 = .ok (.iload_n 3, 1) := by decide +kernel
theorem dX6_fillWithNone_3 : decode cX6_fillWithNone 3 = .ok (.iload_n 1, 1) := by decide +kernel
theorem dX6_fillWithNone_4 : decode cX6_fillWithNone 4 = .ok (.iload_n 2, 1) := by decide +kernel
theorem dX6_fillWithNone_5 : decode cX6_fillWithNone 5 = .ok (.iadd, 1) := by decide +kernel
theorem dX6_fillWithNone_6 : decode cX6_fillWithNone 6 = .ok (.if_icmp .ge 13, 3) := by decide +kernel
theorem dX6_fillWithNone_9 : decode cX6_fillWithNone 9 = .ok (.aload_n 0, 1) := by decide +kernel
theorem dX6_fillWithNone_10 : decode cX6_fillWithNone 10 = .ok (.iload_n 3, 1) := by decide +kernel
theorem dX6_fillWithNone_11 : decode cX6_fillWithNone 11 = .ok (.iconst (-1), 1) := by decide +kernel
theorem dX6_fillWithNone_12 : decode cX6_fillWithNone 12 = .ok (.iastore, 1) := by decide +kernel
theorem dX6_fillWithNone_13 : decode cX6_fillWithNone 13 = .ok (.iinc 3 1, 3) := by decide +kernel
theorem dX6_fillWithNone_16 : decode cX6_fillWithNone 16 = .ok (.goto (-14), 3) := by decide +kernel
theorem dX6_fillWithNone_19 : decode cX6_fillWithNone 19 = .ok (.return_, 1) := by decide +kernel
theorem dX6_between_0 : decode cX6_between 0 = .ok (.iload_n 0, 1) := by decide +kernel
theorem dX6_between_1 : decode cX6_between 1 = .ok (.iload_n 1, 1) := by decide +kernel
theorem dX6_between_2 : decode cX6_between 2 = .ok (.if_icmp .lt 12, 3) := by decide +kernel
theorem dX6_between_5 : decode cX6_between 5 = .ok (.iload_n 0, 1) := by decide +kernel
theorem dX6_between_6 : decode cX6_between 6 = .ok (.iload_n 2, 1) := by decide +kernel
theorem dX6_between_7 : decode cX6_between 7 = .ok (.if_icmp .gt 7, 3) := by decide +kernel
theorem dX6_between_10 : decode cX6_between 10 = .ok (.iconst 1, 1) := by decide +kernel
theorem dX6_between_11 : decode cX6_between 11 = .ok (.goto 4, 3) := by decide +kernel
theorem dX6_between_14 : decode cX6_between 14 = .ok (.iconst 0, 1) := by decide +kernel
theorem dX6_between_15 : decode cX6_between 15 = .ok (.ireturn, 1) := by decide +kernel
theorem dX6_isTask_0 : decode cX6_isTask 0 = .ok (.iload_n 0, 1) := by decide +kernel
theorem dX6_isTask_1 : decode cX6_isTask 1 = .ok (.ifCond .lt 13, 3) := by decide +kernel
theorem dX6_isTask_4 : decode cX6_isTask 4 = .ok (.iload_n 0, 1) := by decide +kernel
theorem dX6_isTask_5 : decode cX6_isTask 5 = .ok (.bipush 6, 2) := by decide +kernel
theorem dX6_isTask_7 : decode cX6_isTask 7 = .ok (.if_icmp .ge 7, 3) := by decide +kernel
theorem dX6_isTask_10 : decode cX6_isTask 10 = .ok (.iconst 1, 1) := by decide +kernel
theorem dX6_isTask_11 : decode cX6_isTask 11 = .ok (.goto 4, 3) := by decide +kernel
theorem dX6_isTask_14 : decode cX6_isTask 14 = .ok (.iconst 0, 1) := by decide +kernel
theorem dX6_isTask_15 : decode cX6_isTask 15 = .ok (.ireturn, 1) := by decide +kernel
theorem dX6_keptFrom_0 : decode cX6_keptFrom 0 = .ok (.iload_n 2, 1) := by decide +kernel
theorem dX6_keptFrom_1 : decode cX6_keptFrom 1 = .ok (.iload_n 1, 1) := by decide +kernel
theorem dX6_keptFrom_2 : decode cX6_keptFrom 2 = .ok (.if_icmp .lt 14, 3) := by decide +kernel
theorem dX6_keptFrom_5 : decode cX6_keptFrom 5 = .ok (.aload_n 0, 1) := by decide +kernel
theorem dX6_keptFrom_6 : decode cX6_keptFrom 6 = .ok (.getfield 41, 3) := by decide +kernel
theorem dX6_keptFrom_9 : decode cX6_keptFrom 9 = .ok (.aload_n 0, 1) := by decide +kernel
theorem dX6_keptFrom_10 : decode cX6_keptFrom 10 = .ok (.getfield 13, 3) := by decide +kernel
theorem dX6_keptFrom_13 : decode cX6_keptFrom 13 = .ok (.invokevirtual 59, 3) := by decide +kernel
theorem dX6_keptFrom_16 : decode cX6_keptFrom 16 = .ok (.iload_n 2, 1) := by decide +kernel
theorem dX6_keptFrom_17 : decode cX6_keptFrom 17 = .ok (.ireturn, 1) := by decide +kernel
theorem dX6_keptIf_0 : decode cX6_keptIf 0 = .ok (.iload_n 1, 1) := by decide +kernel
theorem dX6_keptIf_1 : decode cX6_keptIf 1 = .ok (.ifCond .eq 14, 3) := by decide +kernel
theorem dX6_keptIf_4 : decode cX6_keptIf 4 = .ok (.aload_n 0, 1) := by decide +kernel
theorem dX6_keptIf_5 : decode cX6_keptIf 5 = .ok (.getfield 41, 3) := by decide +kernel
theorem dX6_keptIf_8 : decode cX6_keptIf 8 = .ok (.aload_n 0, 1) := by decide +kernel
theorem dX6_keptIf_9 : decode cX6_keptIf 9 = .ok (.getfield 13, 3) := by decide +kernel
theorem dX6_keptIf_12 : decode cX6_keptIf 12 = .ok (.invokevirtual 59, 3) := by decide +kernel
theorem dX6_keptIf_15 : decode cX6_keptIf 15 = .ok (.iload_n 1, 1) := by decide +kernel
theorem dX6_keptIf_16 : decode cX6_keptIf 16 = .ok (.ireturn, 1) := by decide +kernel
theorem dX6_rehearse_0 : decode cX6_rehearse 0 = .ok (.aload_n 0, 1) := by decide +kernel
theorem dX6_rehearse_1 : decode cX6_rehearse 1 = .ok (.getfield 26, 3) := by decide +kernel
theorem dX6_rehearse_4 : decode cX6_rehearse 4 = .ok (.aload_n 0, 1) := by decide +kernel
theorem dX6_rehearse_5 : decode cX6_rehearse 5 = .ok (.getfield 13, 3) := by decide +kernel
theorem dX6_rehearse_8 : decode cX6_rehearse 8 = .ok (.invokevirtual 62, 3) := by decide +kernel
theorem dX6_rehearse_11 : decode cX6_rehearse 11 = .ok (.return_, 1) := by decide +kernel
theorem dX6_setOf_0 : decode cX6_setOf 0 = .ok (.aload_n 0, 1) := by decide +kernel
theorem dX6_setOf_1 : decode cX6_setOf 1 = .ok (.getfield 22, 3) := by decide +kernel
theorem dX6_setOf_4 : decode cX6_setOf 4 = .ok (.getfield 65, 3) := by decide +kernel
theorem dX6_setOf_7 : decode cX6_setOf 7 = .ok (.iload_n 1, 1) := by decide +kernel
theorem dX6_setOf_8 : decode cX6_setOf 8 = .ok (.iconst 4, 1) := by decide +kernel
theorem dX6_setOf_9 : decode cX6_setOf 9 = .ok (.invokevirtual 69, 3) := by decide +kernel
theorem dX6_setOf_12 : decode cX6_setOf 12 = .ok (.ireturn, 1) := by decide +kernel
theorem dX6_pipe_0 : decode cX6_pipe 0 = .ok (.aload_n 0, 1) := by decide +kernel
theorem dX6_pipe_1 : decode cX6_pipe 1 = .ok (.iconst 0, 1) := by decide +kernel
theorem dX6_pipe_2 : decode cX6_pipe 2 = .ok (.aload_n 0, 1) := by decide +kernel
theorem dX6_pipe_3 : decode cX6_pipe 3 = .ok (.getfield 22, 3) := by decide +kernel
theorem dX6_pipe_6 : decode cX6_pipe 6 = .ok (.iload_n 1, 1) := by decide +kernel
theorem dX6_pipe_7 : decode cX6_pipe 7 = .ok (.invokevirtual 75, 3) := by decide +kernel
theorem dX6_pipe_10 : decode cX6_pipe 10 = .ok (.invokevirtual 79, 3) := by decide +kernel
theorem dX6_pipe_13 : decode cX6_pipe 13 = .ok (.ireturn, 1) := by decide +kernel
theorem dX6_counter_0 : decode cX6_counter 0 = .ok (.iload_n 1, 1) := by decide +kernel
theorem dX6_counter_1 : decode cX6_counter 1 = .ok (.iconst 0, 1) := by decide +kernel
theorem dX6_counter_2 : decode cX6_counter 2 = .ok (.sipush 1000, 3) := by decide +kernel
theorem dX6_counter_5 : decode cX6_counter 5 = .ok (.invokestatic 82, 3) := by decide +kernel
theorem dX6_counter_8 : decode cX6_counter 8 = .ok (.ifCond .ne 5, 3) := by decide +kernel
theorem dX6_counter_11 : decode cX6_counter 11 = .ok (.iconst (-1), 1) := by decide +kernel
theorem dX6_counter_12 : decode cX6_counter 12 = .ok (.ireturn, 1) := by decide +kernel
theorem dX6_counter_13 : decode cX6_counter 13 = .ok (.aload_n 0, 1) := by decide +kernel
theorem dX6_counter_14 : decode cX6_counter 14 = .ok (.getfield 22, 3) := by decide +kernel
theorem dX6_counter_17 : decode cX6_counter 17 = .ok (.iconst 2, 1) := by decide +kernel
theorem dX6_counter_18 : decode cX6_counter 18 = .ok (.invokevirtual 86, 3) := by decide +kernel
theorem dX6_counter_21 : decode cX6_counter 21 = .ok (.istore_n 3, 1) := by decide +kernel
theorem dX6_counter_22 : decode cX6_counter 22 = .ok (.aload_n 0, 1) := by decide +kernel
theorem dX6_counter_23 : decode cX6_counter 23 = .ok (.getfield 22, 3) := by decide +kernel
theorem dX6_counter_26 : decode cX6_counter 26 = .ok (.getfield 65, 3) := by decide +kernel
theorem dX6_counter_29 : decode cX6_counter 29 = .ok (.iload_n 3, 1) := by decide +kernel
theorem dX6_counter_30 : decode cX6_counter 30 = .ok (.invokevirtual 89, 3) := by decide +kernel
theorem dX6_counter_33 : decode cX6_counter 33 = .ok (.istore 4, 2) := by decide +kernel
theorem dX6_counter_35 : decode cX6_counter 35 = .ok (.iload 4, 2) := by decide +kernel
theorem dX6_counter_37 : decode cX6_counter 37 = .ok (.ifCond .ge 5, 3) := by decide +kernel
theorem dX6_counter_40 : decode cX6_counter 40 = .ok (.iconst (-1), 1) := by decide +kernel
theorem dX6_counter_41 : decode cX6_counter 41 = .ok (.ireturn, 1) := by decide +kernel
theorem dX6_counter_42 : decode cX6_counter 42 = .ok (.aload_n 0, 1) := by decide +kernel
theorem dX6_counter_43 : decode cX6_counter 43 = .ok (.getfield 13, 3) := by decide +kernel
theorem dX6_counter_46 : decode cX6_counter 46 = .ok (.bipush 47, 2) := by decide +kernel
theorem dX6_counter_48 : decode cX6_counter 48 = .ok (.iload 4, 2) := by decide +kernel
theorem dX6_counter_50 : decode cX6_counter 50 = .ok (.iadd, 1) := by decide +kernel
theorem dX6_counter_51 : decode cX6_counter 51 = .ok (.iload_n 1, 1) := by decide +kernel
theorem dX6_counter_52 : decode cX6_counter 52 = .ok (.iastore, 1) := by decide +kernel
theorem dX6_counter_53 : decode cX6_counter 53 = .ok (.aload_n 0, 1) := by decide +kernel
theorem dX6_counter_54 : decode cX6_counter 54 = .ok (.getfield 13, 3) := by decide +kernel
theorem dX6_counter_57 : decode cX6_counter 57 = .ok (.bipush 103, 2) := by decide +kernel
theorem dX6_counter_59 : decode cX6_counter 59 = .ok (.iload 4, 2) := by decide +kernel
theorem dX6_counter_61 : decode cX6_counter 61 = .ok (.iadd, 1) := by decide +kernel
theorem dX6_counter_62 : decode cX6_counter 62 = .ok (.iload_n 2, 1) := by decide +kernel
theorem dX6_counter_63 : decode cX6_counter 63 = .ok (.ifCond .eq 7, 3) := by decide +kernel
theorem dX6_counter_66 : decode cX6_counter 66 = .ok (.iconst 1, 1) := by decide +kernel
theorem dX6_counter_67 : decode cX6_counter 67 = .ok (.goto 4, 3) := by decide +kernel
theorem dX6_counter_70 : decode cX6_counter 70 = .ok (.iconst 0, 1) := by decide +kernel
theorem dX6_counter_71 : decode cX6_counter 71 = .ok (.iastore, 1) := by decide +kernel
theorem dX6_counter_72 : decode cX6_counter 72 = .ok (.aload_n 0, 1) := by decide +kernel
theorem dX6_counter_73 : decode cX6_counter 73 = .ok (.iconst 0, 1) := by decide +kernel
theorem dX6_counter_74 : decode cX6_counter 74 = .ok (.iload_n 3, 1) := by decide +kernel
theorem dX6_counter_75 : decode cX6_counter 75 = .ok (.invokevirtual 79, 3) := by decide +kernel
theorem dX6_counter_78 : decode cX6_counter 78 = .ok (.ireturn, 1) := by decide +kernel
theorem dX6_timer_0 : decode cX6_timer 0 = .ok (.aload_n 0, 1) := by decide +kernel
theorem dX6_timer_1 : decode cX6_timer 1 = .ok (.iconst 0, 1) := by decide +kernel
theorem dX6_timer_2 : decode cX6_timer 2 = .ok (.aload_n 0, 1) := by decide +kernel
theorem dX6_timer_3 : decode cX6_timer 3 = .ok (.getfield 22, 3) := by decide +kernel
theorem dX6_timer_6 : decode cX6_timer 6 = .ok (.iconst 3, 1) := by decide +kernel
theorem dX6_timer_7 : decode cX6_timer 7 = .ok (.invokevirtual 86, 3) := by decide +kernel
theorem dX6_timer_10 : decode cX6_timer 10 = .ok (.invokevirtual 79, 3) := by decide +kernel
theorem dX6_timer_13 : decode cX6_timer 13 = .ok (.ireturn, 1) := by decide +kernel
theorem dX6_set_0 : decode cX6_set 0 = .ok (.aload_n 0, 1) := by decide +kernel
theorem dX6_set_1 : decode cX6_set 1 = .ok (.iconst 0, 1) := by decide +kernel
theorem dX6_set_2 : decode cX6_set 2 = .ok (.aload_n 0, 1) := by decide +kernel
theorem dX6_set_3 : decode cX6_set 3 = .ok (.getfield 22, 3) := by decide +kernel
theorem dX6_set_6 : decode cX6_set 6 = .ok (.iconst 4, 1) := by decide +kernel
theorem dX6_set_7 : decode cX6_set 7 = .ok (.invokevirtual 86, 3) := by decide +kernel
theorem dX6_set_10 : decode cX6_set 10 = .ok (.invokevirtual 79, 3) := by decide +kernel
theorem dX6_set_13 : decode cX6_set 13 = .ok (.ireturn, 1) := by decide +kernel
theorem dX6_listener_0 : decode cX6_listener 0 = .ok (.iload_n 1, 1) := by decide +kernel
theorem dX6_listener_1 : decode cX6_listener 1 = .ok (.iconst 1, 1) := by decide +kernel
theorem dX6_listener_2 : decode cX6_listener 2 = .ok (.bipush 12, 2) := by decide +kernel
theorem dX6_listener_4 : decode cX6_listener 4 = .ok (.invokestatic 82, 3) := by decide +kernel
theorem dX6_listener_7 : decode cX6_listener 7 = .ok (.ifCond .eq 13, 3) := by decide +kernel
theorem dX6_listener_10 : decode cX6_listener 10 = .ok (.iload_n 2, 1) := by decide +kernel
theorem dX6_listener_11 : decode cX6_listener 11 = .ok (.iconst 1, 1) := by decide +kernel
theorem dX6_listener_12 : decode cX6_listener 12 = .ok (.bipush 100, 2) := by decide +kernel
theorem dX6_listener_14 : decode cX6_listener 14 = .ok (.invokestatic 82, 3) := by decide +kernel
theorem dX6_listener_17 : decode cX6_listener 17 = .ok (.ifCond .ne 5, 3) := by decide +kernel
theorem dX6_listener_20 : decode cX6_listener 20 = .ok (.iconst (-1), 1) := by decide +kernel
theorem dX6_listener_21 : decode cX6_listener 21 = .ok (.ireturn, 1) := by decide +kernel
theorem dX6_listener_22 : decode cX6_listener 22 = .ok (.aload_n 0, 1) := by decide +kernel
theorem dX6_listener_23 : decode cX6_listener 23 = .ok (.getfield 22, 3) := by decide +kernel
theorem dX6_listener_26 : decode cX6_listener 26 = .ok (.iconst 5, 1) := by decide +kernel
theorem dX6_listener_27 : decode cX6_listener 27 = .ok (.invokevirtual 86, 3) := by decide +kernel
theorem dX6_listener_30 : decode cX6_listener 30 = .ok (.istore_n 3, 1) := by decide +kernel
theorem dX6_listener_31 : decode cX6_listener 31 = .ok (.aload_n 0, 1) := by decide +kernel
theorem dX6_listener_32 : decode cX6_listener 32 = .ok (.getfield 22, 3) := by decide +kernel
theorem dX6_listener_35 : decode cX6_listener 35 = .ok (.getfield 65, 3) := by decide +kernel
theorem dX6_listener_38 : decode cX6_listener 38 = .ok (.iload_n 3, 1) := by decide +kernel
theorem dX6_listener_39 : decode cX6_listener 39 = .ok (.invokevirtual 89, 3) := by decide +kernel
theorem dX6_listener_42 : decode cX6_listener 42 = .ok (.istore 4, 2) := by decide +kernel
theorem dX6_listener_44 : decode cX6_listener 44 = .ok (.iload 4, 2) := by decide +kernel
theorem dX6_listener_46 : decode cX6_listener 46 = .ok (.ifCond .ge 5, 3) := by decide +kernel
theorem dX6_listener_49 : decode cX6_listener 49 = .ok (.iconst (-1), 1) := by decide +kernel
theorem dX6_listener_50 : decode cX6_listener 50 = .ok (.ireturn, 1) := by decide +kernel
theorem dX6_listener_51 : decode cX6_listener 51 = .ok (.aload_n 0, 1) := by decide +kernel
theorem dX6_listener_52 : decode cX6_listener 52 = .ok (.getfield 13, 3) := by decide +kernel
theorem dX6_listener_55 : decode cX6_listener 55 = .ok (.sipush 215, 3) := by decide +kernel
theorem dX6_listener_58 : decode cX6_listener 58 = .ok (.iload 4, 2) := by decide +kernel
theorem dX6_listener_60 : decode cX6_listener 60 = .ok (.iadd, 1) := by decide +kernel
theorem dX6_listener_61 : decode cX6_listener 61 = .ok (.iload_n 1, 1) := by decide +kernel
theorem dX6_listener_62 : decode cX6_listener 62 = .ok (.iastore, 1) := by decide +kernel
theorem dX6_listener_63 : decode cX6_listener 63 = .ok (.aload_n 0, 1) := by decide +kernel
theorem dX6_listener_64 : decode cX6_listener 64 = .ok (.getfield 13, 3) := by decide +kernel
theorem dX6_listener_67 : decode cX6_listener 67 = .ok (.bipush 75, 2) := by decide +kernel
theorem dX6_listener_69 : decode cX6_listener 69 = .ok (.iload 4, 2) := by decide +kernel
theorem dX6_listener_71 : decode cX6_listener 71 = .ok (.iadd, 1) := by decide +kernel
theorem dX6_listener_72 : decode cX6_listener 72 = .ok (.iload_n 2, 1) := by decide +kernel
theorem dX6_listener_73 : decode cX6_listener 73 = .ok (.iastore, 1) := by decide +kernel
theorem dX6_listener_74 : decode cX6_listener 74 = .ok (.aload_n 0, 1) := by decide +kernel
theorem dX6_listener_75 : decode cX6_listener 75 = .ok (.iconst 0, 1) := by decide +kernel
theorem dX6_listener_76 : decode cX6_listener 76 = .ok (.iload_n 3, 1) := by decide +kernel
theorem dX6_listener_77 : decode cX6_listener 77 = .ok (.invokevirtual 79, 3) := by decide +kernel
theorem dX6_listener_80 : decode cX6_listener 80 = .ok (.ireturn, 1) := by decide +kernel
theorem dX6_connect_0 : decode cX6_connect 0 = .ok (.aload_n 0, 1) := by decide +kernel
theorem dX6_connect_1 : decode cX6_connect 1 = .ok (.iconst 0, 1) := by decide +kernel
theorem dX6_connect_2 : decode cX6_connect 2 = .ok (.aload_n 0, 1) := by decide +kernel
theorem dX6_connect_3 : decode cX6_connect 3 = .ok (.getfield 22, 3) := by decide +kernel
theorem dX6_connect_6 : decode cX6_connect 6 = .ok (.iload_n 1, 1) := by decide +kernel
theorem dX6_connect_7 : decode cX6_connect 7 = .ok (.invokevirtual 92, 3) := by decide +kernel
theorem dX6_connect_10 : decode cX6_connect 10 = .ok (.invokevirtual 79, 3) := by decide +kernel
theorem dX6_connect_13 : decode cX6_connect 13 = .ok (.ireturn, 1) := by decide +kernel
theorem dX6_accept_0 : decode cX6_accept 0 = .ok (.aload_n 0, 1) := by decide +kernel
theorem dX6_accept_1 : decode cX6_accept 1 = .ok (.iconst 0, 1) := by decide +kernel
theorem dX6_accept_2 : decode cX6_accept 2 = .ok (.aload_n 0, 1) := by decide +kernel
theorem dX6_accept_3 : decode cX6_accept 3 = .ok (.getfield 22, 3) := by decide +kernel
theorem dX6_accept_6 : decode cX6_accept 6 = .ok (.iload_n 1, 1) := by decide +kernel
theorem dX6_accept_7 : decode cX6_accept 7 = .ok (.invokevirtual 95, 3) := by decide +kernel
theorem dX6_accept_10 : decode cX6_accept 10 = .ok (.invokevirtual 79, 3) := by decide +kernel
theorem dX6_accept_13 : decode cX6_accept 13 = .ok (.ireturn, 1) := by decide +kernel
theorem dX6_twin_0 : decode cX6_twin 0 = .ok (.aload_n 0, 1) := by decide +kernel
theorem dX6_twin_1 : decode cX6_twin 1 = .ok (.getfield 22, 3) := by decide +kernel
theorem dX6_twin_4 : decode cX6_twin 4 = .ok (.getfield 65, 3) := by decide +kernel
theorem dX6_twin_7 : decode cX6_twin 7 = .ok (.iload_n 1, 1) := by decide +kernel
theorem dX6_twin_8 : decode cX6_twin 8 = .ok (.invokevirtual 89, 3) := by decide +kernel
theorem dX6_twin_11 : decode cX6_twin 11 = .ok (.istore_n 2, 1) := by decide +kernel
theorem dX6_twin_12 : decode cX6_twin 12 = .ok (.aload_n 0, 1) := by decide +kernel
theorem dX6_twin_13 : decode cX6_twin 13 = .ok (.getfield 22, 3) := by decide +kernel
theorem dX6_twin_16 : decode cX6_twin 16 = .ok (.getfield 65, 3) := by decide +kernel
theorem dX6_twin_19 : decode cX6_twin 19 = .ok (.invokevirtual 98, 3) := by decide +kernel
theorem dX6_twin_22 : decode cX6_twin 22 = .ok (.istore_n 3, 1) := by decide +kernel
theorem dX6_twin_23 : decode cX6_twin 23 = .ok (.iload_n 2, 1) := by decide +kernel
theorem dX6_twin_24 : decode cX6_twin 24 = .ok (.ifCond .lt 7, 3) := by decide +kernel
theorem dX6_twin_27 : decode cX6_twin 27 = .ok (.iload_n 3, 1) := by decide +kernel
theorem dX6_twin_28 : decode cX6_twin 28 = .ok (.ifCond .ge 5, 3) := by decide +kernel
theorem dX6_twin_31 : decode cX6_twin 31 = .ok (.iconst (-1), 1) := by decide +kernel
theorem dX6_twin_32 : decode cX6_twin 32 = .ok (.ireturn, 1) := by decide +kernel
theorem dX6_twin_33 : decode cX6_twin 33 = .ok (.aload_n 0, 1) := by decide +kernel
theorem dX6_twin_34 : decode cX6_twin 34 = .ok (.getfield 22, 3) := by decide +kernel
theorem dX6_twin_37 : decode cX6_twin 37 = .ok (.getfield 65, 3) := by decide +kernel
theorem dX6_twin_40 : decode cX6_twin 40 = .ok (.iload_n 3, 1) := by decide +kernel
theorem dX6_twin_41 : decode cX6_twin 41 = .ok (.iload_n 2, 1) := by decide +kernel
theorem dX6_twin_42 : decode cX6_twin 42 = .ok (.invokevirtual 102, 3) := by decide +kernel
theorem dX6_twin_45 : decode cX6_twin 45 = .ok (.aload_n 0, 1) := by decide +kernel
theorem dX6_twin_46 : decode cX6_twin 46 = .ok (.iconst 0, 1) := by decide +kernel
theorem dX6_twin_47 : decode cX6_twin 47 = .ok (.iload_n 3, 1) := by decide +kernel
theorem dX6_twin_48 : decode cX6_twin 48 = .ok (.invokevirtual 79, 3) := by decide +kernel
theorem dX6_twin_51 : decode cX6_twin 51 = .ok (.ireturn, 1) := by decide +kernel
theorem dX6_close_0 : decode cX6_close 0 = .ok (.aload_n 0, 1) := by decide +kernel
theorem dX6_close_1 : decode cX6_close 1 = .ok (.aload_n 0, 1) := by decide +kernel
theorem dX6_close_2 : decode cX6_close 2 = .ok (.getfield 22, 3) := by decide +kernel
theorem dX6_close_5 : decode cX6_close 5 = .ok (.iload_n 1, 1) := by decide +kernel
theorem dX6_close_6 : decode cX6_close 6 = .ok (.invokevirtual 106, 3) := by decide +kernel
theorem dX6_close_9 : decode cX6_close 9 = .ok (.invokevirtual 110, 3) := by decide +kernel
theorem dX6_close_12 : decode cX6_close 12 = .ok (.ireturn, 1) := by decide +kernel
theorem dX6_write_0 : decode cX6_write 0 = .ok (.aload_n 0, 1) := by decide +kernel
theorem dX6_write_1 : decode cX6_write 1 = .ok (.iconst 1, 1) := by decide +kernel
theorem dX6_write_2 : decode cX6_write 2 = .ok (.aload_n 0, 1) := by decide +kernel
theorem dX6_write_3 : decode cX6_write 3 = .ok (.getfield 22, 3) := by decide +kernel
theorem dX6_write_6 : decode cX6_write 6 = .ok (.iload_n 1, 1) := by decide +kernel
theorem dX6_write_7 : decode cX6_write 7 = .ok (.iload_n 2, 1) := by decide +kernel
theorem dX6_write_8 : decode cX6_write 8 = .ok (.invokevirtual 114, 3) := by decide +kernel
theorem dX6_write_11 : decode cX6_write 11 = .ok (.invokevirtual 79, 3) := by decide +kernel
theorem dX6_write_14 : decode cX6_write 14 = .ok (.ireturn, 1) := by decide +kernel
theorem dX6_read_0 : decode cX6_read 0 = .ok (.aload_n 0, 1) := by decide +kernel
theorem dX6_read_1 : decode cX6_read 1 = .ok (.iconst 1, 1) := by decide +kernel
theorem dX6_read_2 : decode cX6_read 2 = .ok (.aload_n 0, 1) := by decide +kernel
theorem dX6_read_3 : decode cX6_read 3 = .ok (.getfield 22, 3) := by decide +kernel
theorem dX6_read_6 : decode cX6_read 6 = .ok (.iload_n 1, 1) := by decide +kernel
theorem dX6_read_7 : decode cX6_read 7 = .ok (.iload_n 2, 1) := by decide +kernel
theorem dX6_read_8 : decode cX6_read 8 = .ok (.invokevirtual 117, 3) := by decide +kernel
theorem dX6_read_11 : decode cX6_read 11 = .ok (.invokevirtual 79, 3) := by decide +kernel
theorem dX6_read_14 : decode cX6_read 14 = .ok (.ireturn, 1) := by decide +kernel
theorem dX6_arm_0 : decode cX6_arm 0 = .ok (.aload_n 0, 1) := by decide +kernel
theorem dX6_arm_1 : decode cX6_arm 1 = .ok (.aload_n 0, 1) := by decide +kernel
theorem dX6_arm_2 : decode cX6_arm 2 = .ok (.getfield 22, 3) := by decide +kernel
theorem dX6_arm_5 : decode cX6_arm 5 = .ok (.iload_n 1, 1) := by decide +kernel
theorem dX6_arm_6 : decode cX6_arm 6 = .ok (.iload_n 2, 1) := by decide +kernel
theorem dX6_arm_7 : decode cX6_arm 7 = .ok (.iload_n 3, 1) := by decide +kernel
theorem dX6_arm_8 : decode cX6_arm 8 = .ok (.invokevirtual 120, 3) := by decide +kernel
theorem dX6_arm_11 : decode cX6_arm 11 = .ok (.invokevirtual 110, 3) := by decide +kernel
theorem dX6_arm_14 : decode cX6_arm 14 = .ok (.ireturn, 1) := by decide +kernel
theorem dX6_tick_0 : decode cX6_tick 0 = .ok (.iload_n 1, 1) := by decide +kernel
theorem dX6_tick_1 : decode cX6_tick 1 = .ok (.iconst 1, 1) := by decide +kernel
theorem dX6_tick_2 : decode cX6_tick 2 = .ok (.bipush 100, 2) := by decide +kernel
theorem dX6_tick_4 : decode cX6_tick 4 = .ok (.invokestatic 82, 3) := by decide +kernel
theorem dX6_tick_7 : decode cX6_tick 7 = .ok (.ifCond .eq 16, 3) := by decide +kernel
theorem dX6_tick_10 : decode cX6_tick 10 = .ok (.aload_n 0, 1) := by decide +kernel
theorem dX6_tick_11 : decode cX6_tick 11 = .ok (.getfield 13, 3) := by decide +kernel
theorem dX6_tick_14 : decode cX6_tick 14 = .ok (.iconst 0, 1) := by decide +kernel
theorem dX6_tick_15 : decode cX6_tick 15 = .ok (.iaload, 1) := by decide +kernel
theorem dX6_tick_16 : decode cX6_tick 16 = .ok (.iload_n 1, 1) := by decide +kernel
theorem dX6_tick_17 : decode cX6_tick 17 = .ok (.iadd, 1) := by decide +kernel
theorem dX6_tick_18 : decode cX6_tick 18 = .ok (.ldc 123, 2) := by decide +kernel
theorem dX6_tick_20 : decode cX6_tick 20 = .ok (.if_icmp .le 5, 3) := by decide +kernel
theorem dX6_tick_23 : decode cX6_tick 23 = .ok (.iconst (-1), 1) := by decide +kernel
theorem dX6_tick_24 : decode cX6_tick 24 = .ok (.ireturn, 1) := by decide +kernel
theorem dX6_tick_25 : decode cX6_tick 25 = .ok (.iconst 0, 1) := by decide +kernel
theorem dX6_tick_26 : decode cX6_tick 26 = .ok (.istore_n 2, 1) := by decide +kernel
theorem dX6_tick_27 : decode cX6_tick 27 = .ok (.iload_n 2, 1) := by decide +kernel
theorem dX6_tick_28 : decode cX6_tick 28 = .ok (.iload_n 1, 1) := by decide +kernel
theorem dX6_tick_29 : decode cX6_tick 29 = .ok (.if_icmp .ge 16, 3) := by decide +kernel
theorem dX6_tick_32 : decode cX6_tick 32 = .ok (.aload_n 0, 1) := by decide +kernel
theorem dX6_tick_33 : decode cX6_tick 33 = .ok (.getfield 22, 3) := by decide +kernel
theorem dX6_tick_36 : decode cX6_tick 36 = .ok (.invokevirtual 124, 3) := by decide +kernel
theorem dX6_tick_39 : decode cX6_tick 39 = .ok (.iinc 2 1, 3) := by decide +kernel
theorem dX6_tick_42 : decode cX6_tick 42 = .ok (.goto (-15), 3) := by decide +kernel
theorem dX6_tick_45 : decode cX6_tick 45 = .ok (.aload_n 0, 1) := by decide +kernel
theorem dX6_tick_46 : decode cX6_tick 46 = .ok (.iconst 0, 1) := by decide +kernel
theorem dX6_tick_47 : decode cX6_tick 47 = .ok (.aload_n 0, 1) := by decide +kernel
theorem dX6_tick_48 : decode cX6_tick 48 = .ok (.getfield 13, 3) := by decide +kernel
theorem dX6_tick_51 : decode cX6_tick 51 = .ok (.iconst 0, 1) := by decide +kernel
theorem dX6_tick_52 : decode cX6_tick 52 = .ok (.iaload, 1) := by decide +kernel
theorem dX6_tick_53 : decode cX6_tick 53 = .ok (.invokevirtual 79, 3) := by decide +kernel
theorem dX6_tick_56 : decode cX6_tick 56 = .ok (.ireturn, 1) := by decide +kernel
theorem dX6_add_0 : decode cX6_add 0 = .ok (.aload_n 0, 1) := by decide +kernel
theorem dX6_add_1 : decode cX6_add 1 = .ok (.iconst 1, 1) := by decide +kernel
theorem dX6_add_2 : decode cX6_add 2 = .ok (.aload_n 0, 1) := by decide +kernel
theorem dX6_add_3 : decode cX6_add 3 = .ok (.getfield 22, 3) := by decide +kernel
theorem dX6_add_6 : decode cX6_add 6 = .ok (.iload_n 1, 1) := by decide +kernel
theorem dX6_add_7 : decode cX6_add 7 = .ok (.iload_n 2, 1) := by decide +kernel
theorem dX6_add_8 : decode cX6_add 8 = .ok (.iload_n 3, 1) := by decide +kernel
theorem dX6_add_9 : decode cX6_add 9 = .ok (.iload 4, 2) := by decide +kernel
theorem dX6_add_11 : decode cX6_add 11 = .ok (.invokevirtual 127, 3) := by decide +kernel
theorem dX6_add_14 : decode cX6_add 14 = .ok (.invokevirtual 79, 3) := by decide +kernel
theorem dX6_add_17 : decode cX6_add 17 = .ok (.ireturn, 1) := by decide +kernel
theorem dX6_change_0 : decode cX6_change 0 = .ok (.aload_n 0, 1) := by decide +kernel
theorem dX6_change_1 : decode cX6_change 1 = .ok (.getfield 22, 3) := by decide +kernel
theorem dX6_change_4 : decode cX6_change 4 = .ok (.iload_n 1, 1) := by decide +kernel
theorem dX6_change_5 : decode cX6_change 5 = .ok (.iload_n 2, 1) := by decide +kernel
theorem dX6_change_6 : decode cX6_change 6 = .ok (.invokevirtual 131, 3) := by decide +kernel
theorem dX6_change_9 : decode cX6_change 9 = .ok (.istore 5, 2) := by decide +kernel
theorem dX6_change_11 : decode cX6_change 11 = .ok (.iload 5, 2) := by decide +kernel
theorem dX6_change_13 : decode cX6_change 13 = .ok (.ifCond .lt 23, 3) := by decide +kernel
theorem dX6_change_16 : decode cX6_change 16 = .ok (.iload_n 3, 1) := by decide +kernel
theorem dX6_change_17 : decode cX6_change 17 = .ok (.iconst 0, 1) := by decide +kernel
theorem dX6_change_18 : decode cX6_change 18 = .ok (.iconst 3, 1) := by decide +kernel
theorem dX6_change_19 : decode cX6_change 19 = .ok (.invokestatic 82, 3) := by decide +kernel
theorem dX6_change_22 : decode cX6_change 22 = .ok (.ifCond .eq 14, 3) := by decide +kernel
theorem dX6_change_25 : decode cX6_change 25 = .ok (.iload 4, 2) := by decide +kernel
theorem dX6_change_27 : decode cX6_change 27 = .ok (.iconst 0, 1) := by decide +kernel
theorem dX6_change_28 : decode cX6_change 28 = .ok (.bipush 7, 2) := by decide +kernel
theorem dX6_change_30 : decode cX6_change 30 = .ok (.invokestatic 82, 3) := by decide +kernel
theorem dX6_change_33 : decode cX6_change 33 = .ok (.ifCond .ne 5, 3) := by decide +kernel
theorem dX6_change_36 : decode cX6_change 36 = .ok (.iconst 0, 1) := by decide +kernel
theorem dX6_change_37 : decode cX6_change 37 = .ok (.ireturn, 1) := by decide +kernel
theorem dX6_change_38 : decode cX6_change 38 = .ok (.aload_n 0, 1) := by decide +kernel
theorem dX6_change_39 : decode cX6_change 39 = .ok (.getfield 13, 3) := by decide +kernel
theorem dX6_change_42 : decode cX6_change 42 = .ok (.sipush 371, 3) := by decide +kernel
theorem dX6_change_45 : decode cX6_change 45 = .ok (.iload 5, 2) := by decide +kernel
theorem dX6_change_47 : decode cX6_change 47 = .ok (.iadd, 1) := by decide +kernel
theorem dX6_change_48 : decode cX6_change 48 = .ok (.iload_n 3, 1) := by decide +kernel
theorem dX6_change_49 : decode cX6_change 49 = .ok (.iastore, 1) := by decide +kernel
theorem dX6_change_50 : decode cX6_change 50 = .ok (.aload_n 0, 1) := by decide +kernel
theorem dX6_change_51 : decode cX6_change 51 = .ok (.getfield 13, 3) := by decide +kernel
theorem dX6_change_54 : decode cX6_change 54 = .ok (.sipush 395, 3) := by decide +kernel
theorem dX6_change_57 : decode cX6_change 57 = .ok (.iload 5, 2) := by decide +kernel
theorem dX6_change_59 : decode cX6_change 59 = .ok (.iadd, 1) := by decide +kernel
theorem dX6_change_60 : decode cX6_change 60 = .ok (.iload 4, 2) := by decide +kernel
theorem dX6_change_62 : decode cX6_change 62 = .ok (.iastore, 1) := by decide +kernel
theorem dX6_change_63 : decode cX6_change 63 = .ok (.aload_n 0, 1) := by decide +kernel
theorem dX6_change_64 : decode cX6_change 64 = .ok (.aload_n 0, 1) := by decide +kernel
theorem dX6_change_65 : decode cX6_change 65 = .ok (.getfield 22, 3) := by decide +kernel
theorem dX6_change_68 : decode cX6_change 68 = .ok (.iload 5, 2) := by decide +kernel
theorem dX6_change_70 : decode cX6_change 70 = .ok (.invokevirtual 134, 3) := by decide +kernel
theorem dX6_change_73 : decode cX6_change 73 = .ok (.invokevirtual 110, 3) := by decide +kernel
theorem dX6_change_76 : decode cX6_change 76 = .ok (.ireturn, 1) := by decide +kernel
theorem dX6_drop_0 : decode cX6_drop 0 = .ok (.aload_n 0, 1) := by decide +kernel
theorem dX6_drop_1 : decode cX6_drop 1 = .ok (.getfield 22, 3) := by decide +kernel
theorem dX6_drop_4 : decode cX6_drop 4 = .ok (.iload_n 1, 1) := by decide +kernel
theorem dX6_drop_5 : decode cX6_drop 5 = .ok (.iload_n 2, 1) := by decide +kernel
theorem dX6_drop_6 : decode cX6_drop 6 = .ok (.invokevirtual 131, 3) := by decide +kernel
theorem dX6_drop_9 : decode cX6_drop 9 = .ok (.istore_n 3, 1) := by decide +kernel
theorem dX6_drop_10 : decode cX6_drop 10 = .ok (.iload_n 3, 1) := by decide +kernel
theorem dX6_drop_11 : decode cX6_drop 11 = .ok (.ifCond .ge 5, 3) := by decide +kernel
theorem dX6_drop_14 : decode cX6_drop 14 = .ok (.iconst 0, 1) := by decide +kernel
theorem dX6_drop_15 : decode cX6_drop 15 = .ok (.ireturn, 1) := by decide +kernel
theorem dX6_drop_16 : decode cX6_drop 16 = .ok (.aload_n 0, 1) := by decide +kernel
theorem dX6_drop_17 : decode cX6_drop 17 = .ok (.getfield 22, 3) := by decide +kernel
theorem dX6_drop_20 : decode cX6_drop 20 = .ok (.getfield 137, 3) := by decide +kernel
theorem dX6_drop_23 : decode cX6_drop 23 = .ok (.iload_n 3, 1) := by decide +kernel
theorem dX6_drop_24 : decode cX6_drop 24 = .ok (.invokevirtual 141, 3) := by decide +kernel
theorem dX6_drop_27 : decode cX6_drop 27 = .ok (.aload_n 0, 1) := by decide +kernel
theorem dX6_drop_28 : decode cX6_drop 28 = .ok (.iconst 1, 1) := by decide +kernel
theorem dX6_drop_29 : decode cX6_drop 29 = .ok (.invokevirtual 110, 3) := by decide +kernel
theorem dX6_drop_32 : decode cX6_drop 32 = .ok (.ireturn, 1) := by decide +kernel
theorem dX6_collect_0 : decode cX6_collect 0 = .ok (.aload_n 0, 1) := by decide +kernel
theorem dX6_collect_1 : decode cX6_collect 1 = .ok (.iconst 0, 1) := by decide +kernel
theorem dX6_collect_2 : decode cX6_collect 2 = .ok (.aload_n 0, 1) := by decide +kernel
theorem dX6_collect_3 : decode cX6_collect 3 = .ok (.getfield 22, 3) := by decide +kernel
theorem dX6_collect_6 : decode cX6_collect 6 = .ok (.iload_n 1, 1) := by decide +kernel
theorem dX6_collect_7 : decode cX6_collect 7 = .ok (.iload_n 2, 1) := by decide +kernel
theorem dX6_collect_8 : decode cX6_collect 8 = .ok (.iload_n 3, 1) := by decide +kernel
theorem dX6_collect_9 : decode cX6_collect 9 = .ok (.invokevirtual 147, 3) := by decide +kernel
theorem dX6_collect_12 : decode cX6_collect 12 = .ok (.invokevirtual 79, 3) := by decide +kernel
theorem dX6_collect_15 : decode cX6_collect 15 = .ok (.ireturn, 1) := by decide +kernel
theorem dX6_await_0 : decode cX6_await 0 = .ok (.aload_n 0, 1) := by decide +kernel
theorem dX6_await_1 : decode cX6_await 1 = .ok (.getfield 22, 3) := by decide +kernel
theorem dX6_await_4 : decode cX6_await 4 = .ok (.iload_n 1, 1) := by decide +kernel
theorem dX6_await_5 : decode cX6_await 5 = .ok (.iload_n 2, 1) := by decide +kernel
theorem dX6_await_6 : decode cX6_await 6 = .ok (.iload_n 3, 1) := by decide +kernel
theorem dX6_await_7 : decode cX6_await 7 = .ok (.iload 4, 2) := by decide +kernel
theorem dX6_await_9 : decode cX6_await 9 = .ok (.invokevirtual 151, 3) := by decide +kernel
theorem dX6_await_12 : decode cX6_await 12 = .ok (.istore 5, 2) := by decide +kernel
theorem dX6_await_14 : decode cX6_await 14 = .ok (.aload_n 0, 1) := by decide +kernel
theorem dX6_await_15 : decode cX6_await 15 = .ok (.iload 5, 2) := by decide +kernel
theorem dX6_await_17 : decode cX6_await 17 = .ok (.iconst (-1), 1) := by decide +kernel
theorem dX6_await_18 : decode cX6_await 18 = .ok (.if_icmp .eq 7, 3) := by decide +kernel
theorem dX6_await_21 : decode cX6_await 21 = .ok (.iconst 1, 1) := by decide +kernel
theorem dX6_await_22 : decode cX6_await 22 = .ok (.goto 4, 3) := by decide +kernel
theorem dX6_await_25 : decode cX6_await 25 = .ok (.iconst 0, 1) := by decide +kernel
theorem dX6_await_26 : decode cX6_await 26 = .ok (.invokevirtual 110, 3) := by decide +kernel
theorem dX6_await_29 : decode cX6_await 29 = .ok (.pop, 1) := by decide +kernel
theorem dX6_await_30 : decode cX6_await 30 = .ok (.iload 5, 2) := by decide +kernel
theorem dX6_await_32 : decode cX6_await 32 = .ok (.ireturn, 1) := by decide +kernel
theorem dX6_handle_0 : decode cX6_handle 0 = .ok (.aload_n 0, 1) := by decide +kernel
theorem dX6_handle_1 : decode cX6_handle 1 = .ok (.getfield 22, 3) := by decide +kernel
theorem dX6_handle_4 : decode cX6_handle 4 = .ok (.getfield 65, 3) := by decide +kernel
theorem dX6_handle_7 : decode cX6_handle 7 = .ok (.iload_n 1, 1) := by decide +kernel
theorem dX6_handle_8 : decode cX6_handle 8 = .ok (.invokevirtual 89, 3) := by decide +kernel
theorem dX6_handle_11 : decode cX6_handle 11 = .ok (.istore_n 3, 1) := by decide +kernel
theorem dX6_handle_12 : decode cX6_handle 12 = .ok (.iload_n 3, 1) := by decide +kernel
theorem dX6_handle_13 : decode cX6_handle 13 = .ok (.ifCond .ge 5, 3) := by decide +kernel
theorem dX6_handle_16 : decode cX6_handle 16 = .ok (.iconst (-1), 1) := by decide +kernel
theorem dX6_handle_17 : decode cX6_handle 17 = .ok (.ireturn, 1) := by decide +kernel
theorem dX6_handle_18 : decode cX6_handle 18 = .ok (.iload_n 2, 1) := by decide +kernel
theorem dX6_handle_19 : decode cX6_handle 19 = .ok (.tableswitch 127 0 5 #[37, 47, 84, 97, 109, 121], 37) := by decide +kernel
theorem dX6_handle_56 : decode cX6_handle 56 = .ok (.aload_n 0, 1) := by decide +kernel
theorem dX6_handle_57 : decode cX6_handle 57 = .ok (.getfield 13, 3) := by decide +kernel
theorem dX6_handle_60 : decode cX6_handle 60 = .ok (.bipush 19, 2) := by decide +kernel
theorem dX6_handle_62 : decode cX6_handle 62 = .ok (.iload_n 3, 1) := by decide +kernel
theorem dX6_handle_63 : decode cX6_handle 63 = .ok (.iadd, 1) := by decide +kernel
theorem dX6_handle_64 : decode cX6_handle 64 = .ok (.iaload, 1) := by decide +kernel
theorem dX6_handle_65 : decode cX6_handle 65 = .ok (.ireturn, 1) := by decide +kernel
theorem dX6_handle_66 : decode cX6_handle 66 = .ok (.aload_n 0, 1) := by decide +kernel
theorem dX6_handle_67 : decode cX6_handle 67 = .ok (.getfield 13, 3) := by decide +kernel
theorem dX6_handle_70 : decode cX6_handle 70 = .ok (.bipush 19, 2) := by decide +kernel
theorem dX6_handle_72 : decode cX6_handle 72 = .ok (.iload_n 3, 1) := by decide +kernel
theorem dX6_handle_73 : decode cX6_handle 73 = .ok (.iadd, 1) := by decide +kernel
theorem dX6_handle_74 : decode cX6_handle 74 = .ok (.iaload, 1) := by decide +kernel
theorem dX6_handle_75 : decode cX6_handle 75 = .ok (.iconst 4, 1) := by decide +kernel
theorem dX6_handle_76 : decode cX6_handle 76 = .ok (.if_icmp .ne 17, 3) := by decide +kernel
theorem dX6_handle_79 : decode cX6_handle 79 = .ok (.aload_n 0, 1) := by decide +kernel
theorem dX6_handle_80 : decode cX6_handle 80 = .ok (.getfield 22, 3) := by decide +kernel
theorem dX6_handle_83 : decode cX6_handle 83 = .ok (.getfield 137, 3) := by decide +kernel
theorem dX6_handle_86 : decode cX6_handle 86 = .ok (.iload_n 3, 1) := by decide +kernel
theorem dX6_handle_87 : decode cX6_handle 87 = .ok (.invokevirtual 154, 3) := by decide +kernel
theorem dX6_handle_90 : decode cX6_handle 90 = .ok (.goto 12, 3) := by decide +kernel
theorem dX6_handle_93 : decode cX6_handle 93 = .ok (.aload_n 0, 1) := by decide +kernel
theorem dX6_handle_94 : decode cX6_handle 94 = .ok (.getfield 13, 3) := by decide +kernel
theorem dX6_handle_97 : decode cX6_handle 97 = .ok (.bipush 47, 2) := by decide +kernel
theorem dX6_handle_99 : decode cX6_handle 99 = .ok (.iload_n 3, 1) := by decide +kernel
theorem dX6_handle_100 : decode cX6_handle 100 = .ok (.iadd, 1) := by decide +kernel
theorem dX6_handle_101 : decode cX6_handle 101 = .ok (.iaload, 1) := by decide +kernel
theorem dX6_handle_102 : decode cX6_handle 102 = .ok (.ireturn, 1) := by decide +kernel
theorem dX6_handle_103 : decode cX6_handle 103 = .ok (.aload_n 0, 1) := by decide +kernel
theorem dX6_handle_104 : decode cX6_handle 104 = .ok (.getfield 22, 3) := by decide +kernel
theorem dX6_handle_107 : decode cX6_handle 107 = .ok (.getfield 137, 3) := by decide +kernel
theorem dX6_handle_110 : decode cX6_handle 110 = .ok (.iload_n 3, 1) := by decide +kernel
theorem dX6_handle_111 : decode cX6_handle 111 = .ok (.iconst 0, 1) := by decide +kernel
theorem dX6_handle_112 : decode cX6_handle 112 = .ok (.invokevirtual 157, 3) := by decide +kernel
theorem dX6_handle_115 : decode cX6_handle 115 = .ok (.ireturn, 1) := by decide +kernel
theorem dX6_handle_116 : decode cX6_handle 116 = .ok (.aload_n 0, 1) := by decide +kernel
theorem dX6_handle_117 : decode cX6_handle 117 = .ok (.getfield 22, 3) := by decide +kernel
theorem dX6_handle_120 : decode cX6_handle 120 = .ok (.getfield 65, 3) := by decide +kernel
theorem dX6_handle_123 : decode cX6_handle 123 = .ok (.iload_n 3, 1) := by decide +kernel
theorem dX6_handle_124 : decode cX6_handle 124 = .ok (.invokevirtual 160, 3) := by decide +kernel
theorem dX6_handle_127 : decode cX6_handle 127 = .ok (.ireturn, 1) := by decide +kernel
theorem dX6_handle_128 : decode cX6_handle 128 = .ok (.aload_n 0, 1) := by decide +kernel
theorem dX6_handle_129 : decode cX6_handle 129 = .ok (.getfield 22, 3) := by decide +kernel
theorem dX6_handle_132 : decode cX6_handle 132 = .ok (.getfield 137, 3) := by decide +kernel
theorem dX6_handle_135 : decode cX6_handle 135 = .ok (.iload_n 3, 1) := by decide +kernel
theorem dX6_handle_136 : decode cX6_handle 136 = .ok (.invokevirtual 163, 3) := by decide +kernel
theorem dX6_handle_139 : decode cX6_handle 139 = .ok (.ireturn, 1) := by decide +kernel
theorem dX6_handle_140 : decode cX6_handle 140 = .ok (.aload_n 0, 1) := by decide +kernel
theorem dX6_handle_141 : decode cX6_handle 141 = .ok (.iload_n 3, 1) := by decide +kernel
theorem dX6_handle_142 : decode cX6_handle 142 = .ok (.invokevirtual 166, 3) := by decide +kernel
theorem dX6_handle_145 : decode cX6_handle 145 = .ok (.ireturn, 1) := by decide +kernel
theorem dX6_handle_146 : decode cX6_handle 146 = .ok (.iconst (-1), 1) := by decide +kernel
theorem dX6_handle_147 : decode cX6_handle 147 = .ok (.ireturn, 1) := by decide +kernel
theorem dX6_measureOf_0 : decode cX6_measureOf 0 = .ok (.aload_n 0, 1) := by decide +kernel
theorem dX6_measureOf_1 : decode cX6_measureOf 1 = .ok (.getfield 13, 3) := by decide +kernel
theorem dX6_measureOf_4 : decode cX6_measureOf 4 = .ok (.bipush 19, 2) := by decide +kernel
theorem dX6_measureOf_6 : decode cX6_measureOf 6 = .ok (.iload_n 1, 1) := by decide +kernel
theorem dX6_measureOf_7 : decode cX6_measureOf 7 = .ok (.iadd, 1) := by decide +kernel
theorem dX6_measureOf_8 : decode cX6_measureOf 8 = .ok (.iaload, 1) := by decide +kernel
theorem dX6_measureOf_9 : decode cX6_measureOf 9 = .ok (.tableswitch 93 0 5 #[39, 39, 49, 59, 70, 82], 39) := by decide +kernel
theorem dX6_measureOf_48 : decode cX6_measureOf 48 = .ok (.aload_n 0, 1) := by decide +kernel
theorem dX6_measureOf_49 : decode cX6_measureOf 49 = .ok (.getfield 13, 3) := by decide +kernel
theorem dX6_measureOf_52 : decode cX6_measureOf 52 = .ok (.bipush 75, 2) := by decide +kernel
theorem dX6_measureOf_54 : decode cX6_measureOf 54 = .ok (.iload_n 1, 1) := by decide +kernel
theorem dX6_measureOf_55 : decode cX6_measureOf 55 = .ok (.iadd, 1) := by decide +kernel
theorem dX6_measureOf_56 : decode cX6_measureOf 56 = .ok (.iaload, 1) := by decide +kernel
theorem dX6_measureOf_57 : decode cX6_measureOf 57 = .ok (.ireturn, 1) := by decide +kernel
theorem dX6_measureOf_58 : decode cX6_measureOf 58 = .ok (.aload_n 0, 1) := by decide +kernel
theorem dX6_measureOf_59 : decode cX6_measureOf 59 = .ok (.getfield 13, 3) := by decide +kernel
theorem dX6_measureOf_62 : decode cX6_measureOf 62 = .ok (.bipush 103, 2) := by decide +kernel
theorem dX6_measureOf_64 : decode cX6_measureOf 64 = .ok (.iload_n 1, 1) := by decide +kernel
theorem dX6_measureOf_65 : decode cX6_measureOf 65 = .ok (.iadd, 1) := by decide +kernel
theorem dX6_measureOf_66 : decode cX6_measureOf 66 = .ok (.iaload, 1) := by decide +kernel
theorem dX6_measureOf_67 : decode cX6_measureOf 67 = .ok (.ireturn, 1) := by decide +kernel
theorem dX6_measureOf_68 : decode cX6_measureOf 68 = .ok (.aload_n 0, 1) := by decide +kernel
theorem dX6_measureOf_69 : decode cX6_measureOf 69 = .ok (.getfield 13, 3) := by decide +kernel
theorem dX6_measureOf_72 : decode cX6_measureOf 72 = .ok (.sipush 159, 3) := by decide +kernel
theorem dX6_measureOf_75 : decode cX6_measureOf 75 = .ok (.iload_n 1, 1) := by decide +kernel
theorem dX6_measureOf_76 : decode cX6_measureOf 76 = .ok (.iadd, 1) := by decide +kernel
theorem dX6_measureOf_77 : decode cX6_measureOf 77 = .ok (.iaload, 1) := by decide +kernel
theorem dX6_measureOf_78 : decode cX6_measureOf 78 = .ok (.ireturn, 1) := by decide +kernel
theorem dX6_measureOf_79 : decode cX6_measureOf 79 = .ok (.aload_n 0, 1) := by decide +kernel
theorem dX6_measureOf_80 : decode cX6_measureOf 80 = .ok (.getfield 22, 3) := by decide +kernel
theorem dX6_measureOf_83 : decode cX6_measureOf 83 = .ok (.getfield 169, 3) := by decide +kernel
theorem dX6_measureOf_86 : decode cX6_measureOf 86 = .ok (.iload_n 1, 1) := by decide +kernel
theorem dX6_measureOf_87 : decode cX6_measureOf 87 = .ok (.invokevirtual 173, 3) := by decide +kernel
theorem dX6_measureOf_90 : decode cX6_measureOf 90 = .ok (.ireturn, 1) := by decide +kernel
theorem dX6_measureOf_91 : decode cX6_measureOf 91 = .ok (.aload_n 0, 1) := by decide +kernel
theorem dX6_measureOf_92 : decode cX6_measureOf 92 = .ok (.getfield 13, 3) := by decide +kernel
theorem dX6_measureOf_95 : decode cX6_measureOf 95 = .ok (.sipush 215, 3) := by decide +kernel
theorem dX6_measureOf_98 : decode cX6_measureOf 98 = .ok (.iload_n 1, 1) := by decide +kernel
theorem dX6_measureOf_99 : decode cX6_measureOf 99 = .ok (.iadd, 1) := by decide +kernel
theorem dX6_measureOf_100 : decode cX6_measureOf 100 = .ok (.iaload, 1) := by decide +kernel
theorem dX6_measureOf_101 : decode cX6_measureOf 101 = .ok (.ireturn, 1) := by decide +kernel
theorem dX6_measureOf_102 : decode cX6_measureOf 102 = .ok (.iconst (-1), 1) := by decide +kernel
theorem dX6_measureOf_103 : decode cX6_measureOf 103 = .ok (.ireturn, 1) := by decide +kernel
theorem dX6_other_0 : decode cX6_other 0 = .ok (.aload_n 0, 1) := by decide +kernel
theorem dX6_other_1 : decode cX6_other 1 = .ok (.getfield 22, 3) := by decide +kernel
theorem dX6_other_4 : decode cX6_other 4 = .ok (.getfield 65, 3) := by decide +kernel
theorem dX6_other_7 : decode cX6_other 7 = .ok (.iload_n 1, 1) := by decide +kernel
theorem dX6_other_8 : decode cX6_other 8 = .ok (.invokevirtual 89, 3) := by decide +kernel
theorem dX6_other_11 : decode cX6_other 11 = .ok (.istore_n 2, 1) := by decide +kernel
theorem dX6_other_12 : decode cX6_other 12 = .ok (.iload_n 2, 1) := by decide +kernel
theorem dX6_other_13 : decode cX6_other 13 = .ok (.ifCond .ge 7, 3) := by decide +kernel
theorem dX6_other_16 : decode cX6_other 16 = .ok (.iconst (-1), 1) := by decide +kernel
theorem dX6_other_17 : decode cX6_other 17 = .ok (.goto 23, 3) := by decide +kernel
theorem dX6_other_20 : decode cX6_other 20 = .ok (.aload_n 0, 1) := by decide +kernel
theorem dX6_other_21 : decode cX6_other 21 = .ok (.getfield 22, 3) := by decide +kernel
theorem dX6_other_24 : decode cX6_other 24 = .ok (.getfield 65, 3) := by decide +kernel
theorem dX6_other_27 : decode cX6_other 27 = .ok (.aload_n 0, 1) := by decide +kernel
theorem dX6_other_28 : decode cX6_other 28 = .ok (.getfield 13, 3) := by decide +kernel
theorem dX6_other_31 : decode cX6_other 31 = .ok (.sipush 131, 3) := by decide +kernel
theorem dX6_other_34 : decode cX6_other 34 = .ok (.iload_n 2, 1) := by decide +kernel
theorem dX6_other_35 : decode cX6_other 35 = .ok (.iadd, 1) := by decide +kernel
theorem dX6_other_36 : decode cX6_other 36 = .ok (.iaload, 1) := by decide +kernel
theorem dX6_other_37 : decode cX6_other 37 = .ok (.invokevirtual 178, 3) := by decide +kernel
theorem dX6_other_40 : decode cX6_other 40 = .ok (.ireturn, 1) := by decide +kernel
theorem dX6_interest_0 : decode cX6_interest 0 = .ok (.aload_n 0, 1) := by decide +kernel
theorem dX6_interest_1 : decode cX6_interest 1 = .ok (.iload_n 1, 1) := by decide +kernel
theorem dX6_interest_2 : decode cX6_interest 2 = .ok (.invokevirtual 181, 3) := by decide +kernel
theorem dX6_interest_5 : decode cX6_interest 5 = .ok (.istore 4, 2) := by decide +kernel
theorem dX6_interest_7 : decode cX6_interest 7 = .ok (.iload 4, 2) := by decide +kernel
theorem dX6_interest_9 : decode cX6_interest 9 = .ok (.ifCond .ge 7, 3) := by decide +kernel
theorem dX6_interest_12 : decode cX6_interest 12 = .ok (.iconst (-1), 1) := by decide +kernel
theorem dX6_interest_13 : decode cX6_interest 13 = .ok (.goto 16, 3) := by decide +kernel
theorem dX6_interest_16 : decode cX6_interest 16 = .ok (.aload_n 0, 1) := by decide +kernel
theorem dX6_interest_17 : decode cX6_interest 17 = .ok (.getfield 22, 3) := by decide +kernel
theorem dX6_interest_20 : decode cX6_interest 20 = .ok (.getfield 137, 3) := by decide +kernel
theorem dX6_interest_23 : decode cX6_interest 23 = .ok (.iload 4, 2) := by decide +kernel
theorem dX6_interest_25 : decode cX6_interest 25 = .ok (.iload_n 2, 1) := by decide +kernel
theorem dX6_interest_26 : decode cX6_interest 26 = .ok (.invokevirtual 184, 3) := by decide +kernel
theorem dX6_interest_29 : decode cX6_interest 29 = .ok (.istore 5, 2) := by decide +kernel
theorem dX6_interest_31 : decode cX6_interest 31 = .ok (.iload 5, 2) := by decide +kernel
theorem dX6_interest_33 : decode cX6_interest 33 = .ok (.ifCond .ge 5, 3) := by decide +kernel
theorem dX6_interest_36 : decode cX6_interest 36 = .ok (.iconst (-1), 1) := by decide +kernel
theorem dX6_interest_37 : decode cX6_interest 37 = .ok (.ireturn, 1) := by decide +kernel
theorem dX6_interest_38 : decode cX6_interest 38 = .ok (.iload_n 3, 1) := by decide +kernel
theorem dX6_interest_39 : decode cX6_interest 39 = .ok (.tableswitch 212 0 9 #[53, 65, 77, 89, 101, 114, 135, 176, 188, 200], 53) := by decide +kernel
theorem dX6_interest_92 : decode cX6_interest 92 = .ok (.aload_n 0, 1) := by decide +kernel
theorem dX6_interest_93 : decode cX6_interest 93 = .ok (.getfield 13, 3) := by decide +kernel
theorem dX6_interest_96 : decode cX6_interest 96 = .ok (.sipush 347, 3) := by decide +kernel
theorem dX6_interest_99 : decode cX6_interest 99 = .ok (.iload 5, 2) := by decide +kernel
theorem dX6_interest_101 : decode cX6_interest 101 = .ok (.iadd, 1) := by decide +kernel
theorem dX6_interest_102 : decode cX6_interest 102 = .ok (.iaload, 1) := by decide +kernel
theorem dX6_interest_103 : decode cX6_interest 103 = .ok (.ireturn, 1) := by decide +kernel
theorem dX6_interest_104 : decode cX6_interest 104 = .ok (.aload_n 0, 1) := by decide +kernel
theorem dX6_interest_105 : decode cX6_interest 105 = .ok (.getfield 13, 3) := by decide +kernel
theorem dX6_interest_108 : decode cX6_interest 108 = .ok (.sipush 371, 3) := by decide +kernel
theorem dX6_interest_111 : decode cX6_interest 111 = .ok (.iload 5, 2) := by decide +kernel
theorem dX6_interest_113 : decode cX6_interest 113 = .ok (.iadd, 1) := by decide +kernel
theorem dX6_interest_114 : decode cX6_interest 114 = .ok (.iaload, 1) := by decide +kernel
theorem dX6_interest_115 : decode cX6_interest 115 = .ok (.ireturn, 1) := by decide +kernel
theorem dX6_interest_116 : decode cX6_interest 116 = .ok (.aload_n 0, 1) := by decide +kernel
theorem dX6_interest_117 : decode cX6_interest 117 = .ok (.getfield 13, 3) := by decide +kernel
theorem dX6_interest_120 : decode cX6_interest 120 = .ok (.sipush 395, 3) := by decide +kernel
theorem dX6_interest_123 : decode cX6_interest 123 = .ok (.iload 5, 2) := by decide +kernel
theorem dX6_interest_125 : decode cX6_interest 125 = .ok (.iadd, 1) := by decide +kernel
theorem dX6_interest_126 : decode cX6_interest 126 = .ok (.iaload, 1) := by decide +kernel
theorem dX6_interest_127 : decode cX6_interest 127 = .ok (.ireturn, 1) := by decide +kernel
theorem dX6_interest_128 : decode cX6_interest 128 = .ok (.aload_n 0, 1) := by decide +kernel
theorem dX6_interest_129 : decode cX6_interest 129 = .ok (.getfield 13, 3) := by decide +kernel
theorem dX6_interest_132 : decode cX6_interest 132 = .ok (.sipush 419, 3) := by decide +kernel
theorem dX6_interest_135 : decode cX6_interest 135 = .ok (.iload 5, 2) := by decide +kernel
theorem dX6_interest_137 : decode cX6_interest 137 = .ok (.iadd, 1) := by decide +kernel
theorem dX6_interest_138 : decode cX6_interest 138 = .ok (.iaload, 1) := by decide +kernel
theorem dX6_interest_139 : decode cX6_interest 139 = .ok (.ireturn, 1) := by decide +kernel
theorem dX6_interest_140 : decode cX6_interest 140 = .ok (.aload_n 0, 1) := by decide +kernel
theorem dX6_interest_141 : decode cX6_interest 141 = .ok (.getfield 22, 3) := by decide +kernel
theorem dX6_interest_144 : decode cX6_interest 144 = .ok (.getfield 137, 3) := by decide +kernel
theorem dX6_interest_147 : decode cX6_interest 147 = .ok (.iload 5, 2) := by decide +kernel
theorem dX6_interest_149 : decode cX6_interest 149 = .ok (.invokevirtual 187, 3) := by decide +kernel
theorem dX6_interest_152 : decode cX6_interest 152 = .ok (.ireturn, 1) := by decide +kernel
theorem dX6_interest_153 : decode cX6_interest 153 = .ok (.aload_n 0, 1) := by decide +kernel
theorem dX6_interest_154 : decode cX6_interest 154 = .ok (.getfield 22, 3) := by decide +kernel
theorem dX6_interest_157 : decode cX6_interest 157 = .ok (.getfield 137, 3) := by decide +kernel
theorem dX6_interest_160 : decode cX6_interest 160 = .ok (.iload 5, 2) := by decide +kernel
theorem dX6_interest_162 : decode cX6_interest 162 = .ok (.invokevirtual 190, 3) := by decide +kernel
theorem dX6_interest_165 : decode cX6_interest 165 = .ok (.ifCond .eq 7, 3) := by decide +kernel
theorem dX6_interest_168 : decode cX6_interest 168 = .ok (.iconst 1, 1) := by decide +kernel
theorem dX6_interest_169 : decode cX6_interest 169 = .ok (.goto 4, 3) := by decide +kernel
theorem dX6_interest_172 : decode cX6_interest 172 = .ok (.iconst 0, 1) := by decide +kernel
theorem dX6_interest_173 : decode cX6_interest 173 = .ok (.ireturn, 1) := by decide +kernel
theorem dX6_interest_174 : decode cX6_interest 174 = .ok (.aload_n 0, 1) := by decide +kernel
theorem dX6_interest_175 : decode cX6_interest 175 = .ok (.getfield 22, 3) := by decide +kernel
theorem dX6_interest_178 : decode cX6_interest 178 = .ok (.getfield 65, 3) := by decide +kernel
theorem dX6_interest_181 : decode cX6_interest 181 = .ok (.aload_n 0, 1) := by decide +kernel
theorem dX6_interest_182 : decode cX6_interest 182 = .ok (.getfield 13, 3) := by decide +kernel
theorem dX6_interest_185 : decode cX6_interest 185 = .ok (.sipush 347, 3) := by decide +kernel
theorem dX6_interest_188 : decode cX6_interest 188 = .ok (.iload 5, 2) := by decide +kernel
theorem dX6_interest_190 : decode cX6_interest 190 = .ok (.iadd, 1) := by decide +kernel
theorem dX6_interest_191 : decode cX6_interest 191 = .ok (.iaload, 1) := by decide +kernel
theorem dX6_interest_192 : decode cX6_interest 192 = .ok (.invokevirtual 89, 3) := by decide +kernel
theorem dX6_interest_195 : decode cX6_interest 195 = .ok (.aload_n 0, 1) := by decide +kernel
theorem dX6_interest_196 : decode cX6_interest 196 = .ok (.getfield 13, 3) := by decide +kernel
theorem dX6_interest_199 : decode cX6_interest 199 = .ok (.sipush 323, 3) := by decide +kernel
theorem dX6_interest_202 : decode cX6_interest 202 = .ok (.iload 5, 2) := by decide +kernel
theorem dX6_interest_204 : decode cX6_interest 204 = .ok (.iadd, 1) := by decide +kernel
theorem dX6_interest_205 : decode cX6_interest 205 = .ok (.iaload, 1) := by decide +kernel
theorem dX6_interest_206 : decode cX6_interest 206 = .ok (.if_icmp .ne 7, 3) := by decide +kernel
theorem dX6_interest_209 : decode cX6_interest 209 = .ok (.iconst 1, 1) := by decide +kernel
theorem dX6_interest_210 : decode cX6_interest 210 = .ok (.goto 4, 3) := by decide +kernel
theorem dX6_interest_213 : decode cX6_interest 213 = .ok (.iconst 0, 1) := by decide +kernel
theorem dX6_interest_214 : decode cX6_interest 214 = .ok (.ireturn, 1) := by decide +kernel
theorem dX6_interest_215 : decode cX6_interest 215 = .ok (.aload_n 0, 1) := by decide +kernel
theorem dX6_interest_216 : decode cX6_interest 216 = .ok (.getfield 13, 3) := by decide +kernel
theorem dX6_interest_219 : decode cX6_interest 219 = .ok (.sipush 467, 3) := by decide +kernel
theorem dX6_interest_222 : decode cX6_interest 222 = .ok (.iload 5, 2) := by decide +kernel
theorem dX6_interest_224 : decode cX6_interest 224 = .ok (.iadd, 1) := by decide +kernel
theorem dX6_interest_225 : decode cX6_interest 225 = .ok (.iaload, 1) := by decide +kernel
theorem dX6_interest_226 : decode cX6_interest 226 = .ok (.ireturn, 1) := by decide +kernel
theorem dX6_interest_227 : decode cX6_interest 227 = .ok (.aload_n 0, 1) := by decide +kernel
theorem dX6_interest_228 : decode cX6_interest 228 = .ok (.getfield 13, 3) := by decide +kernel
theorem dX6_interest_231 : decode cX6_interest 231 = .ok (.sipush 491, 3) := by decide +kernel
theorem dX6_interest_234 : decode cX6_interest 234 = .ok (.iload 5, 2) := by decide +kernel
theorem dX6_interest_236 : decode cX6_interest 236 = .ok (.iadd, 1) := by decide +kernel
theorem dX6_interest_237 : decode cX6_interest 237 = .ok (.iaload, 1) := by decide +kernel
theorem dX6_interest_238 : decode cX6_interest 238 = .ok (.ireturn, 1) := by decide +kernel
theorem dX6_interest_239 : decode cX6_interest 239 = .ok (.aload_n 0, 1) := by decide +kernel
theorem dX6_interest_240 : decode cX6_interest 240 = .ok (.getfield 13, 3) := by decide +kernel
theorem dX6_interest_243 : decode cX6_interest 243 = .ok (.sipush 515, 3) := by decide +kernel
theorem dX6_interest_246 : decode cX6_interest 246 = .ok (.iload 5, 2) := by decide +kernel
theorem dX6_interest_248 : decode cX6_interest 248 = .ok (.iadd, 1) := by decide +kernel
theorem dX6_interest_249 : decode cX6_interest 249 = .ok (.iaload, 1) := by decide +kernel
theorem dX6_interest_250 : decode cX6_interest 250 = .ok (.ireturn, 1) := by decide +kernel
theorem dX6_interest_251 : decode cX6_interest 251 = .ok (.iconst (-1), 1) := by decide +kernel
theorem dX6_interest_252 : decode cX6_interest 252 = .ok (.ireturn, 1) := by decide +kernel
theorem dX6_listed_0 : decode cX6_listed 0 = .ok (.aload_n 0, 1) := by decide +kernel
theorem dX6_listed_1 : decode cX6_listed 1 = .ok (.iload_n 1, 1) := by decide +kernel
theorem dX6_listed_2 : decode cX6_listed 2 = .ok (.invokevirtual 181, 3) := by decide +kernel
theorem dX6_listed_5 : decode cX6_listed 5 = .ok (.istore_n 2, 1) := by decide +kernel
theorem dX6_listed_6 : decode cX6_listed 6 = .ok (.iload_n 2, 1) := by decide +kernel
theorem dX6_listed_7 : decode cX6_listed 7 = .ok (.ifCond .ge 7, 3) := by decide +kernel
theorem dX6_listed_10 : decode cX6_listed 10 = .ok (.iconst (-1), 1) := by decide +kernel
theorem dX6_listed_11 : decode cX6_listed 11 = .ok (.goto 14, 3) := by decide +kernel
theorem dX6_listed_14 : decode cX6_listed 14 = .ok (.aload_n 0, 1) := by decide +kernel
theorem dX6_listed_15 : decode cX6_listed 15 = .ok (.getfield 22, 3) := by decide +kernel
theorem dX6_listed_18 : decode cX6_listed 18 = .ok (.getfield 137, 3) := by decide +kernel
theorem dX6_listed_21 : decode cX6_listed 21 = .ok (.iload_n 2, 1) := by decide +kernel
theorem dX6_listed_22 : decode cX6_listed 22 = .ok (.invokevirtual 193, 3) := by decide +kernel
theorem dX6_listed_25 : decode cX6_listed 25 = .ok (.ireturn, 1) := by decide +kernel
theorem dX6_shows_0 : decode cX6_shows 0 = .ok (.aload_n 0, 1) := by decide +kernel
theorem dX6_shows_1 : decode cX6_shows 1 = .ok (.iload_n 1, 1) := by decide +kernel
theorem dX6_shows_2 : decode cX6_shows 2 = .ok (.invokevirtual 181, 3) := by decide +kernel
theorem dX6_shows_5 : decode cX6_shows 5 = .ok (.istore_n 2, 1) := by decide +kernel
theorem dX6_shows_6 : decode cX6_shows 6 = .ok (.iload_n 2, 1) := by decide +kernel
theorem dX6_shows_7 : decode cX6_shows 7 = .ok (.ifCond .ge 7, 3) := by decide +kernel
theorem dX6_shows_10 : decode cX6_shows 10 = .ok (.iconst (-1), 1) := by decide +kernel
theorem dX6_shows_11 : decode cX6_shows 11 = .ok (.goto 14, 3) := by decide +kernel
theorem dX6_shows_14 : decode cX6_shows 14 = .ok (.aload_n 0, 1) := by decide +kernel
theorem dX6_shows_15 : decode cX6_shows 15 = .ok (.getfield 22, 3) := by decide +kernel
theorem dX6_shows_18 : decode cX6_shows 18 = .ok (.getfield 137, 3) := by decide +kernel
theorem dX6_shows_21 : decode cX6_shows 21 = .ok (.iload_n 2, 1) := by decide +kernel
theorem dX6_shows_22 : decode cX6_shows 22 = .ok (.invokevirtual 196, 3) := by decide +kernel
theorem dX6_shows_25 : decode cX6_shows 25 = .ok (.ireturn, 1) := by decide +kernel
theorem dX6_shown_0 : decode cX6_shown 0 = .ok (.aload_n 0, 1) := by decide +kernel
theorem dX6_shown_1 : decode cX6_shown 1 = .ok (.iload_n 1, 1) := by decide +kernel
theorem dX6_shown_2 : decode cX6_shown 2 = .ok (.invokevirtual 181, 3) := by decide +kernel
theorem dX6_shown_5 : decode cX6_shown 5 = .ok (.istore_n 3, 1) := by decide +kernel
theorem dX6_shown_6 : decode cX6_shown 6 = .ok (.iload_n 3, 1) := by decide +kernel
theorem dX6_shown_7 : decode cX6_shown 7 = .ok (.ifCond .ge 7, 3) := by decide +kernel
theorem dX6_shown_10 : decode cX6_shown 10 = .ok (.iconst (-1), 1) := by decide +kernel
theorem dX6_shown_11 : decode cX6_shown 11 = .ok (.goto 15, 3) := by decide +kernel
theorem dX6_shown_14 : decode cX6_shown 14 = .ok (.aload_n 0, 1) := by decide +kernel
theorem dX6_shown_15 : decode cX6_shown 15 = .ok (.getfield 22, 3) := by decide +kernel
theorem dX6_shown_18 : decode cX6_shown 18 = .ok (.getfield 137, 3) := by decide +kernel
theorem dX6_shown_21 : decode cX6_shown 21 = .ok (.iload_n 3, 1) := by decide +kernel
theorem dX6_shown_22 : decode cX6_shown 22 = .ok (.iload_n 2, 1) := by decide +kernel
theorem dX6_shown_23 : decode cX6_shown 23 = .ok (.invokevirtual 199, 3) := by decide +kernel
theorem dX6_shown_26 : decode cX6_shown 26 = .ok (.istore 4, 2) := by decide +kernel
theorem dX6_shown_28 : decode cX6_shown 28 = .ok (.iload 4, 2) := by decide +kernel
theorem dX6_shown_30 : decode cX6_shown 30 = .ok (.ifCond .ge 7, 3) := by decide +kernel
theorem dX6_shown_33 : decode cX6_shown 33 = .ok (.iconst (-1), 1) := by decide +kernel
theorem dX6_shown_34 : decode cX6_shown 34 = .ok (.goto 14, 3) := by decide +kernel
theorem dX6_shown_37 : decode cX6_shown 37 = .ok (.aload_n 0, 1) := by decide +kernel
theorem dX6_shown_38 : decode cX6_shown 38 = .ok (.getfield 13, 3) := by decide +kernel
theorem dX6_shown_41 : decode cX6_shown 41 = .ok (.sipush 347, 3) := by decide +kernel
theorem dX6_shown_44 : decode cX6_shown 44 = .ok (.iload 4, 2) := by decide +kernel
theorem dX6_shown_46 : decode cX6_shown 46 = .ok (.iadd, 1) := by decide +kernel
theorem dX6_shown_47 : decode cX6_shown 47 = .ok (.iaload, 1) := by decide +kernel
theorem dX6_shown_48 : decode cX6_shown 48 = .ok (.ireturn, 1) := by decide +kernel
theorem dX6_depth_0 : decode cX6_depth 0 = .ok (.aload_n 0, 1) := by decide +kernel
theorem dX6_depth_1 : decode cX6_depth 1 = .ok (.iload_n 1, 1) := by decide +kernel
theorem dX6_depth_2 : decode cX6_depth 2 = .ok (.invokevirtual 181, 3) := by decide +kernel
theorem dX6_depth_5 : decode cX6_depth 5 = .ok (.istore_n 2, 1) := by decide +kernel
theorem dX6_depth_6 : decode cX6_depth 6 = .ok (.iload_n 2, 1) := by decide +kernel
theorem dX6_depth_7 : decode cX6_depth 7 = .ok (.ifCond .ge 7, 3) := by decide +kernel
theorem dX6_depth_10 : decode cX6_depth 10 = .ok (.iconst (-1), 1) := by decide +kernel
theorem dX6_depth_11 : decode cX6_depth 11 = .ok (.goto 15, 3) := by decide +kernel
theorem dX6_depth_14 : decode cX6_depth 14 = .ok (.aload_n 0, 1) := by decide +kernel
theorem dX6_depth_15 : decode cX6_depth 15 = .ok (.getfield 22, 3) := by decide +kernel
theorem dX6_depth_18 : decode cX6_depth 18 = .ok (.getfield 137, 3) := by decide +kernel
theorem dX6_depth_21 : decode cX6_depth 21 = .ok (.iload_n 2, 1) := by decide +kernel
theorem dX6_depth_22 : decode cX6_depth 22 = .ok (.iconst 1, 1) := by decide +kernel
theorem dX6_depth_23 : decode cX6_depth 23 = .ok (.invokevirtual 202, 3) := by decide +kernel
theorem dX6_depth_26 : decode cX6_depth 26 = .ok (.ireturn, 1) := by decide +kernel
theorem dX6_sleeper_0 : decode cX6_sleeper 0 = .ok (.aload_n 0, 1) := by decide +kernel
theorem dX6_sleeper_1 : decode cX6_sleeper 1 = .ok (.iload_n 1, 1) := by decide +kernel
theorem dX6_sleeper_2 : decode cX6_sleeper 2 = .ok (.invokevirtual 181, 3) := by decide +kernel
theorem dX6_sleeper_5 : decode cX6_sleeper 5 = .ok (.istore_n 3, 1) := by decide +kernel
theorem dX6_sleeper_6 : decode cX6_sleeper 6 = .ok (.iload_n 3, 1) := by decide +kernel
theorem dX6_sleeper_7 : decode cX6_sleeper 7 = .ok (.ifCond .ge 7, 3) := by decide +kernel
theorem dX6_sleeper_10 : decode cX6_sleeper 10 = .ok (.iconst (-1), 1) := by decide +kernel
theorem dX6_sleeper_11 : decode cX6_sleeper 11 = .ok (.goto 15, 3) := by decide +kernel
theorem dX6_sleeper_14 : decode cX6_sleeper 14 = .ok (.aload_n 0, 1) := by decide +kernel
theorem dX6_sleeper_15 : decode cX6_sleeper 15 = .ok (.getfield 22, 3) := by decide +kernel
theorem dX6_sleeper_18 : decode cX6_sleeper 18 = .ok (.getfield 169, 3) := by decide +kernel
theorem dX6_sleeper_21 : decode cX6_sleeper 21 = .ok (.iload_n 3, 1) := by decide +kernel
theorem dX6_sleeper_22 : decode cX6_sleeper 22 = .ok (.iload_n 2, 1) := by decide +kernel
theorem dX6_sleeper_23 : decode cX6_sleeper 23 = .ok (.invokevirtual 205, 3) := by decide +kernel
theorem dX6_sleeper_26 : decode cX6_sleeper 26 = .ok (.ireturn, 1) := by decide +kernel
theorem dX6_task_0 : decode cX6_task 0 = .ok (.iload_n 1, 1) := by decide +kernel
theorem dX6_task_1 : decode cX6_task 1 = .ok (.invokestatic 208, 3) := by decide +kernel
theorem dX6_task_4 : decode cX6_task 4 = .ok (.ifCond .ne 5, 3) := by decide +kernel
theorem dX6_task_7 : decode cX6_task 7 = .ok (.iconst (-1), 1) := by decide +kernel
theorem dX6_task_8 : decode cX6_task 8 = .ok (.ireturn, 1) := by decide +kernel
theorem dX6_task_9 : decode cX6_task 9 = .ok (.iload_n 2, 1) := by decide +kernel
theorem dX6_task_10 : decode cX6_task 10 = .ok (.tableswitch 182 0 9 #[54, 73, 94, 105, 116, 127, 138, 149, 160, 171], 54) := by decide +kernel
theorem dX6_task_64 : decode cX6_task 64 = .ok (.aload_n 0, 1) := by decide +kernel
theorem dX6_task_65 : decode cX6_task 65 = .ok (.getfield 13, 3) := by decide +kernel
theorem dX6_task_68 : decode cX6_task 68 = .ok (.sipush 539, 3) := by decide +kernel
theorem dX6_task_71 : decode cX6_task 71 = .ok (.iload_n 1, 1) := by decide +kernel
theorem dX6_task_72 : decode cX6_task 72 = .ok (.iadd, 1) := by decide +kernel
theorem dX6_task_73 : decode cX6_task 73 = .ok (.iaload, 1) := by decide +kernel
theorem dX6_task_74 : decode cX6_task 74 = .ok (.ifCond .lt 7, 3) := by decide +kernel
theorem dX6_task_77 : decode cX6_task 77 = .ok (.iconst 1, 1) := by decide +kernel
theorem dX6_task_78 : decode cX6_task 78 = .ok (.goto 4, 3) := by decide +kernel
theorem dX6_task_81 : decode cX6_task 81 = .ok (.iconst 0, 1) := by decide +kernel
theorem dX6_task_82 : decode cX6_task 82 = .ok (.ireturn, 1) := by decide +kernel
theorem dX6_task_83 : decode cX6_task 83 = .ok (.aload_n 0, 1) := by decide +kernel
theorem dX6_task_84 : decode cX6_task 84 = .ok (.getfield 22, 3) := by decide +kernel
theorem dX6_task_87 : decode cX6_task 87 = .ok (.getfield 65, 3) := by decide +kernel
theorem dX6_task_90 : decode cX6_task 90 = .ok (.aload_n 0, 1) := by decide +kernel
theorem dX6_task_91 : decode cX6_task 91 = .ok (.getfield 13, 3) := by decide +kernel
theorem dX6_task_94 : decode cX6_task 94 = .ok (.sipush 539, 3) := by decide +kernel
theorem dX6_task_97 : decode cX6_task 97 = .ok (.iload_n 1, 1) := by decide +kernel
theorem dX6_task_98 : decode cX6_task 98 = .ok (.iadd, 1) := by decide +kernel
theorem dX6_task_99 : decode cX6_task 99 = .ok (.iaload, 1) := by decide +kernel
theorem dX6_task_100 : decode cX6_task 100 = .ok (.invokevirtual 178, 3) := by decide +kernel
theorem dX6_task_103 : decode cX6_task 103 = .ok (.ireturn, 1) := by decide +kernel
theorem dX6_task_104 : decode cX6_task 104 = .ok (.aload_n 0, 1) := by decide +kernel
theorem dX6_task_105 : decode cX6_task 105 = .ok (.getfield 13, 3) := by decide +kernel
theorem dX6_task_108 : decode cX6_task 108 = .ok (.sipush 563, 3) := by decide +kernel
theorem dX6_task_111 : decode cX6_task 111 = .ok (.iload_n 1, 1) := by decide +kernel
theorem dX6_task_112 : decode cX6_task 112 = .ok (.iadd, 1) := by decide +kernel
theorem dX6_task_113 : decode cX6_task 113 = .ok (.iaload, 1) := by decide +kernel
theorem dX6_task_114 : decode cX6_task 114 = .ok (.ireturn, 1) := by decide +kernel
theorem dX6_task_115 : decode cX6_task 115 = .ok (.aload_n 0, 1) := by decide +kernel
theorem dX6_task_116 : decode cX6_task 116 = .ok (.getfield 13, 3) := by decide +kernel
theorem dX6_task_119 : decode cX6_task 119 = .ok (.sipush 569, 3) := by decide +kernel
theorem dX6_task_122 : decode cX6_task 122 = .ok (.iload_n 1, 1) := by decide +kernel
theorem dX6_task_123 : decode cX6_task 123 = .ok (.iadd, 1) := by decide +kernel
theorem dX6_task_124 : decode cX6_task 124 = .ok (.iaload, 1) := by decide +kernel
theorem dX6_task_125 : decode cX6_task 125 = .ok (.ireturn, 1) := by decide +kernel
theorem dX6_task_126 : decode cX6_task 126 = .ok (.aload_n 0, 1) := by decide +kernel
theorem dX6_task_127 : decode cX6_task 127 = .ok (.getfield 13, 3) := by decide +kernel
theorem dX6_task_130 : decode cX6_task 130 = .ok (.sipush 575, 3) := by decide +kernel
theorem dX6_task_133 : decode cX6_task 133 = .ok (.iload_n 1, 1) := by decide +kernel
theorem dX6_task_134 : decode cX6_task 134 = .ok (.iadd, 1) := by decide +kernel
theorem dX6_task_135 : decode cX6_task 135 = .ok (.iaload, 1) := by decide +kernel
theorem dX6_task_136 : decode cX6_task 136 = .ok (.ireturn, 1) := by decide +kernel
theorem dX6_task_137 : decode cX6_task 137 = .ok (.aload_n 0, 1) := by decide +kernel
theorem dX6_task_138 : decode cX6_task 138 = .ok (.getfield 13, 3) := by decide +kernel
theorem dX6_task_141 : decode cX6_task 141 = .ok (.sipush 581, 3) := by decide +kernel
theorem dX6_task_144 : decode cX6_task 144 = .ok (.iload_n 1, 1) := by decide +kernel
theorem dX6_task_145 : decode cX6_task 145 = .ok (.iadd, 1) := by decide +kernel
theorem dX6_task_146 : decode cX6_task 146 = .ok (.iaload, 1) := by decide +kernel
theorem dX6_task_147 : decode cX6_task 147 = .ok (.ireturn, 1) := by decide +kernel
theorem dX6_task_148 : decode cX6_task 148 = .ok (.aload_n 0, 1) := by decide +kernel
theorem dX6_task_149 : decode cX6_task 149 = .ok (.getfield 13, 3) := by decide +kernel
theorem dX6_task_152 : decode cX6_task 152 = .ok (.sipush 587, 3) := by decide +kernel
theorem dX6_task_155 : decode cX6_task 155 = .ok (.iload_n 1, 1) := by decide +kernel
theorem dX6_task_156 : decode cX6_task 156 = .ok (.iadd, 1) := by decide +kernel
theorem dX6_task_157 : decode cX6_task 157 = .ok (.iaload, 1) := by decide +kernel
theorem dX6_task_158 : decode cX6_task 158 = .ok (.ireturn, 1) := by decide +kernel
theorem dX6_task_159 : decode cX6_task 159 = .ok (.aload_n 0, 1) := by decide +kernel
theorem dX6_task_160 : decode cX6_task 160 = .ok (.getfield 13, 3) := by decide +kernel
theorem dX6_task_163 : decode cX6_task 163 = .ok (.sipush 557, 3) := by decide +kernel
theorem dX6_task_166 : decode cX6_task 166 = .ok (.iload_n 1, 1) := by decide +kernel
theorem dX6_task_167 : decode cX6_task 167 = .ok (.iadd, 1) := by decide +kernel
theorem dX6_task_168 : decode cX6_task 168 = .ok (.iaload, 1) := by decide +kernel
theorem dX6_task_169 : decode cX6_task 169 = .ok (.ireturn, 1) := by decide +kernel
theorem dX6_task_170 : decode cX6_task 170 = .ok (.aload_n 0, 1) := by decide +kernel
theorem dX6_task_171 : decode cX6_task 171 = .ok (.getfield 13, 3) := by decide +kernel
theorem dX6_task_174 : decode cX6_task 174 = .ok (.sipush 599, 3) := by decide +kernel
theorem dX6_task_177 : decode cX6_task 177 = .ok (.iload_n 1, 1) := by decide +kernel
theorem dX6_task_178 : decode cX6_task 178 = .ok (.iadd, 1) := by decide +kernel
theorem dX6_task_179 : decode cX6_task 179 = .ok (.iaload, 1) := by decide +kernel
theorem dX6_task_180 : decode cX6_task 180 = .ok (.ireturn, 1) := by decide +kernel
theorem dX6_task_181 : decode cX6_task 181 = .ok (.aload_n 0, 1) := by decide +kernel
theorem dX6_task_182 : decode cX6_task 182 = .ok (.getfield 13, 3) := by decide +kernel
theorem dX6_task_185 : decode cX6_task 185 = .ok (.sipush 593, 3) := by decide +kernel
theorem dX6_task_188 : decode cX6_task 188 = .ok (.iload_n 1, 1) := by decide +kernel
theorem dX6_task_189 : decode cX6_task 189 = .ok (.iadd, 1) := by decide +kernel
theorem dX6_task_190 : decode cX6_task 190 = .ok (.iaload, 1) := by decide +kernel
theorem dX6_task_191 : decode cX6_task 191 = .ok (.ireturn, 1) := by decide +kernel
theorem dX6_task_192 : decode cX6_task 192 = .ok (.iconst (-1), 1) := by decide +kernel
theorem dX6_task_193 : decode cX6_task 193 = .ok (.ireturn, 1) := by decide +kernel
theorem dX6_got_0 : decode cX6_got 0 = .ok (.iload_n 1, 1) := by decide +kernel
theorem dX6_got_1 : decode cX6_got 1 = .ok (.invokestatic 208, 3) := by decide +kernel
theorem dX6_got_4 : decode cX6_got 4 = .ok (.ifCond .eq 21, 3) := by decide +kernel
theorem dX6_got_7 : decode cX6_got 7 = .ok (.iload_n 2, 1) := by decide +kernel
theorem dX6_got_8 : decode cX6_got 8 = .ok (.ifCond .lt 17, 3) := by decide +kernel
theorem dX6_got_11 : decode cX6_got 11 = .ok (.iload_n 2, 1) := by decide +kernel
theorem dX6_got_12 : decode cX6_got 12 = .ok (.aload_n 0, 1) := by decide +kernel
theorem dX6_got_13 : decode cX6_got 13 = .ok (.getfield 13, 3) := by decide +kernel
theorem dX6_got_16 : decode cX6_got 16 = .ok (.sipush 563, 3) := by decide +kernel
theorem dX6_got_19 : decode cX6_got 19 = .ok (.iload_n 1, 1) := by decide +kernel
theorem dX6_got_20 : decode cX6_got 20 = .ok (.iadd, 1) := by decide +kernel
theorem dX6_got_21 : decode cX6_got 21 = .ok (.iaload, 1) := by decide +kernel
theorem dX6_got_22 : decode cX6_got 22 = .ok (.if_icmp .lt 5, 3) := by decide +kernel
theorem dX6_got_25 : decode cX6_got 25 = .ok (.iconst (-1), 1) := by decide +kernel
theorem dX6_got_26 : decode cX6_got 26 = .ok (.ireturn, 1) := by decide +kernel
theorem dX6_got_27 : decode cX6_got 27 = .ok (.iload_n 3, 1) := by decide +kernel
theorem dX6_got_28 : decode cX6_got 28 = .ok (.lookupswitch 60 #[(0, 28), (1, 44)], 28) := by decide +kernel
theorem dX6_got_56 : decode cX6_got 56 = .ok (.aload_n 0, 1) := by decide +kernel
theorem dX6_got_57 : decode cX6_got 57 = .ok (.getfield 13, 3) := by decide +kernel
theorem dX6_got_60 : decode cX6_got 60 = .ok (.sipush 677, 3) := by decide +kernel
theorem dX6_got_63 : decode cX6_got 63 = .ok (.iload_n 1, 1) := by decide +kernel
theorem dX6_got_64 : decode cX6_got 64 = .ok (.bipush 8, 2) := by decide +kernel
theorem dX6_got_66 : decode cX6_got 66 = .ok (.imul, 1) := by decide +kernel
theorem dX6_got_67 : decode cX6_got 67 = .ok (.iadd, 1) := by decide +kernel
theorem dX6_got_68 : decode cX6_got 68 = .ok (.iload_n 2, 1) := by decide +kernel
theorem dX6_got_69 : decode cX6_got 69 = .ok (.iadd, 1) := by decide +kernel
theorem dX6_got_70 : decode cX6_got 70 = .ok (.iaload, 1) := by decide +kernel
theorem dX6_got_71 : decode cX6_got 71 = .ok (.ireturn, 1) := by decide +kernel
theorem dX6_got_72 : decode cX6_got 72 = .ok (.aload_n 0, 1) := by decide +kernel
theorem dX6_got_73 : decode cX6_got 73 = .ok (.getfield 13, 3) := by decide +kernel
theorem dX6_got_76 : decode cX6_got 76 = .ok (.sipush 725, 3) := by decide +kernel
theorem dX6_got_79 : decode cX6_got 79 = .ok (.iload_n 1, 1) := by decide +kernel
theorem dX6_got_80 : decode cX6_got 80 = .ok (.bipush 8, 2) := by decide +kernel
theorem dX6_got_82 : decode cX6_got 82 = .ok (.imul, 1) := by decide +kernel
theorem dX6_got_83 : decode cX6_got 83 = .ok (.iadd, 1) := by decide +kernel
theorem dX6_got_84 : decode cX6_got 84 = .ok (.iload_n 2, 1) := by decide +kernel
theorem dX6_got_85 : decode cX6_got 85 = .ok (.iadd, 1) := by decide +kernel
theorem dX6_got_86 : decode cX6_got 86 = .ok (.iaload, 1) := by decide +kernel
theorem dX6_got_87 : decode cX6_got 87 = .ok (.ireturn, 1) := by decide +kernel
theorem dX6_got_88 : decode cX6_got 88 = .ok (.iconst (-1), 1) := by decide +kernel
theorem dX6_got_89 : decode cX6_got 89 = .ok (.ireturn, 1) := by decide +kernel
theorem dX6_wakes_0 : decode cX6_wakes 0 = .ok (.aload_n 0, 1) := by decide +kernel
theorem dX6_wakes_1 : decode cX6_wakes 1 = .ok (.getfield 22, 3) := by decide +kernel
theorem dX6_wakes_4 : decode cX6_wakes 4 = .ok (.getfield 65, 3) := by decide +kernel
theorem dX6_wakes_7 : decode cX6_wakes 7 = .ok (.iload_n 1, 1) := by decide +kernel
theorem dX6_wakes_8 : decode cX6_wakes 8 = .ok (.invokevirtual 89, 3) := by decide +kernel
theorem dX6_wakes_11 : decode cX6_wakes 11 = .ok (.ifCond .ge 5, 3) := by decide +kernel
theorem dX6_wakes_14 : decode cX6_wakes 14 = .ok (.iconst (-1), 1) := by decide +kernel
theorem dX6_wakes_15 : decode cX6_wakes 15 = .ok (.ireturn, 1) := by decide +kernel
theorem dX6_wakes_16 : decode cX6_wakes 16 = .ok (.aload_n 0, 1) := by decide +kernel
theorem dX6_wakes_17 : decode cX6_wakes 17 = .ok (.invokevirtual 211, 3) := by decide +kernel
theorem dX6_wakes_20 : decode cX6_wakes 20 = .ok (.aload_n 0, 1) := by decide +kernel
theorem dX6_wakes_21 : decode cX6_wakes 21 = .ok (.getfield 26, 3) := by decide +kernel
theorem dX6_wakes_24 : decode cX6_wakes 24 = .ok (.iload_n 1, 1) := by decide +kernel
theorem dX6_wakes_25 : decode cX6_wakes 25 = .ok (.iconst 1, 1) := by decide +kernel
theorem dX6_wakes_26 : decode cX6_wakes 26 = .ok (.invokevirtual 114, 3) := by decide +kernel
theorem dX6_wakes_29 : decode cX6_wakes 29 = .ok (.pop, 1) := by decide +kernel
theorem dX6_wakes_30 : decode cX6_wakes 30 = .ok (.aload_n 0, 1) := by decide +kernel
theorem dX6_wakes_31 : decode cX6_wakes 31 = .ok (.getfield 26, 3) := by decide +kernel
theorem dX6_wakes_34 : decode cX6_wakes 34 = .ok (.getfield 214, 3) := by decide +kernel
theorem dX6_wakes_37 : decode cX6_wakes 37 = .ok (.ireturn, 1) := by decide +kernel
theorem dX6_plan_0 : decode cX6_plan 0 = .ok (.iload_n 1, 1) := by decide +kernel
theorem dX6_plan_1 : decode cX6_plan 1 = .ok (.invokestatic 208, 3) := by decide +kernel
theorem dX6_plan_4 : decode cX6_plan 4 = .ok (.ifCond .eq 13, 3) := by decide +kernel
theorem dX6_plan_7 : decode cX6_plan 7 = .ok (.iload_n 2, 1) := by decide +kernel
theorem dX6_plan_8 : decode cX6_plan 8 = .ok (.iconst 0, 1) := by decide +kernel
theorem dX6_plan_9 : decode cX6_plan 9 = .ok (.bipush 7, 2) := by decide +kernel
theorem dX6_plan_11 : decode cX6_plan 11 = .ok (.invokestatic 82, 3) := by decide +kernel
theorem dX6_plan_14 : decode cX6_plan 14 = .ok (.ifCond .ne 5, 3) := by decide +kernel
theorem dX6_plan_17 : decode cX6_plan 17 = .ok (.iconst (-1), 1) := by decide +kernel
theorem dX6_plan_18 : decode cX6_plan 18 = .ok (.ireturn, 1) := by decide +kernel
theorem dX6_plan_19 : decode cX6_plan 19 = .ok (.aload_n 0, 1) := by decide +kernel
theorem dX6_plan_20 : decode cX6_plan 20 = .ok (.iconst 0, 1) := by decide +kernel
theorem dX6_plan_21 : decode cX6_plan 21 = .ok (.aload_n 0, 1) := by decide +kernel
theorem dX6_plan_22 : decode cX6_plan 22 = .ok (.getfield 22, 3) := by decide +kernel
theorem dX6_plan_25 : decode cX6_plan 25 = .ok (.getfield 169, 3) := by decide +kernel
theorem dX6_plan_28 : decode cX6_plan 28 = .ok (.iload_n 1, 1) := by decide +kernel
theorem dX6_plan_29 : decode cX6_plan 29 = .ok (.iload_n 2, 1) := by decide +kernel
theorem dX6_plan_30 : decode cX6_plan 30 = .ok (.iload_n 3, 1) := by decide +kernel
theorem dX6_plan_31 : decode cX6_plan 31 = .ok (.iload 4, 2) := by decide +kernel
theorem dX6_plan_33 : decode cX6_plan 33 = .ok (.invokevirtual 217, 3) := by decide +kernel
theorem dX6_plan_36 : decode cX6_plan 36 = .ok (.invokevirtual 79, 3) := by decide +kernel
theorem dX6_plan_39 : decode cX6_plan 39 = .ok (.ireturn, 1) := by decide +kernel
theorem dX6_round_0 : decode cX6_round 0 = .ok (.iload_n 2, 1) := by decide +kernel
theorem dX6_round_1 : decode cX6_round 1 = .ok (.ifCond .eq 7, 3) := by decide +kernel
theorem dX6_round_4 : decode cX6_round 4 = .ok (.iconst 1, 1) := by decide +kernel
theorem dX6_round_5 : decode cX6_round 5 = .ok (.goto 4, 3) := by decide +kernel
theorem dX6_round_8 : decode cX6_round 8 = .ok (.iconst 0, 1) := by decide +kernel
theorem dX6_round_9 : decode cX6_round 9 = .ok (.istore_n 3, 1) := by decide +kernel
theorem dX6_round_10 : decode cX6_round 10 = .ok (.iload_n 1, 1) := by decide +kernel
theorem dX6_round_11 : decode cX6_round 11 = .ok (.invokestatic 208, 3) := by decide +kernel
theorem dX6_round_14 : decode cX6_round 14 = .ok (.ifCond .eq 17, 3) := by decide +kernel
theorem dX6_round_17 : decode cX6_round 17 = .ok (.aload_n 0, 1) := by decide +kernel
theorem dX6_round_18 : decode cX6_round 18 = .ok (.getfield 13, 3) := by decide +kernel
theorem dX6_round_21 : decode cX6_round 21 = .ok (.sipush 593, 3) := by decide +kernel
theorem dX6_round_24 : decode cX6_round 24 = .ok (.iload_n 1, 1) := by decide +kernel
theorem dX6_round_25 : decode cX6_round 25 = .ok (.iadd, 1) := by decide +kernel
theorem dX6_round_26 : decode cX6_round 26 = .ok (.iaload, 1) := by decide +kernel
theorem dX6_round_27 : decode cX6_round 27 = .ok (.iload_n 3, 1) := by decide +kernel
theorem dX6_round_28 : decode cX6_round 28 = .ok (.if_icmp .ne 5, 3) := by decide +kernel
theorem dX6_round_31 : decode cX6_round 31 = .ok (.iconst 0, 1) := by decide +kernel
theorem dX6_round_32 : decode cX6_round 32 = .ok (.ireturn, 1) := by decide +kernel
theorem dX6_round_33 : decode cX6_round 33 = .ok (.aload_n 0, 1) := by decide +kernel
theorem dX6_round_34 : decode cX6_round 34 = .ok (.getfield 13, 3) := by decide +kernel
theorem dX6_round_37 : decode cX6_round 37 = .ok (.sipush 593, 3) := by decide +kernel
theorem dX6_round_40 : decode cX6_round 40 = .ok (.iload_n 1, 1) := by decide +kernel
theorem dX6_round_41 : decode cX6_round 41 = .ok (.iadd, 1) := by decide +kernel
theorem dX6_round_42 : decode cX6_round 42 = .ok (.iload_n 3, 1) := by decide +kernel
theorem dX6_round_43 : decode cX6_round 43 = .ok (.iastore, 1) := by decide +kernel
theorem dX6_round_44 : decode cX6_round 44 = .ok (.aload_n 0, 1) := by decide +kernel
theorem dX6_round_45 : decode cX6_round 45 = .ok (.iconst 1, 1) := by decide +kernel
theorem dX6_round_46 : decode cX6_round 46 = .ok (.invokevirtual 110, 3) := by decide +kernel
theorem dX6_round_49 : decode cX6_round 49 = .ok (.ireturn, 1) := by decide +kernel
theorem dX6_rounds_0 : decode cX6_rounds 0 = .ok (.iload_n 1, 1) := by decide +kernel
theorem dX6_rounds_1 : decode cX6_rounds 1 = .ok (.iconst 1, 1) := by decide +kernel
theorem dX6_rounds_2 : decode cX6_rounds 2 = .ok (.bipush 50, 2) := by decide +kernel
theorem dX6_rounds_4 : decode cX6_rounds 4 = .ok (.invokestatic 82, 3) := by decide +kernel
theorem dX6_rounds_7 : decode cX6_rounds 7 = .ok (.ifCond .ne 5, 3) := by decide +kernel
theorem dX6_rounds_10 : decode cX6_rounds 10 = .ok (.iconst (-1), 1) := by decide +kernel
theorem dX6_rounds_11 : decode cX6_rounds 11 = .ok (.ireturn, 1) := by decide +kernel
theorem dX6_rounds_12 : decode cX6_rounds 12 = .ok (.iconst 0, 1) := by decide +kernel
theorem dX6_rounds_13 : decode cX6_rounds 13 = .ok (.istore_n 2, 1) := by decide +kernel
theorem dX6_rounds_14 : decode cX6_rounds 14 = .ok (.iconst 0, 1) := by decide +kernel
theorem dX6_rounds_15 : decode cX6_rounds 15 = .ok (.istore_n 3, 1) := by decide +kernel
theorem dX6_rounds_16 : decode cX6_rounds 16 = .ok (.iload_n 3, 1) := by decide +kernel
theorem dX6_rounds_17 : decode cX6_rounds 17 = .ok (.iload_n 1, 1) := by decide +kernel
theorem dX6_rounds_18 : decode cX6_rounds 18 = .ok (.if_icmp .ge 19, 3) := by decide +kernel
theorem dX6_rounds_21 : decode cX6_rounds 21 = .ok (.iload_n 2, 1) := by decide +kernel
theorem dX6_rounds_22 : decode cX6_rounds 22 = .ok (.aload_n 0, 1) := by decide +kernel
theorem dX6_rounds_23 : decode cX6_rounds 23 = .ok (.getfield 22, 3) := by decide +kernel
theorem dX6_rounds_26 : decode cX6_rounds 26 = .ok (.invokevirtual 220, 3) := by decide +kernel
theorem dX6_rounds_29 : decode cX6_rounds 29 = .ok (.iadd, 1) := by decide +kernel
theorem dX6_rounds_30 : decode cX6_rounds 30 = .ok (.istore_n 2, 1) := by decide +kernel
theorem dX6_rounds_31 : decode cX6_rounds 31 = .ok (.iinc 3 1, 3) := by decide +kernel
theorem dX6_rounds_34 : decode cX6_rounds 34 = .ok (.goto (-18), 3) := by decide +kernel
theorem dX6_rounds_37 : decode cX6_rounds 37 = .ok (.aload_n 0, 1) := by decide +kernel
theorem dX6_rounds_38 : decode cX6_rounds 38 = .ok (.iconst 0, 1) := by decide +kernel
theorem dX6_rounds_39 : decode cX6_rounds 39 = .ok (.iload_n 2, 1) := by decide +kernel
theorem dX6_rounds_40 : decode cX6_rounds 40 = .ok (.invokevirtual 79, 3) := by decide +kernel
theorem dX6_rounds_43 : decode cX6_rounds 43 = .ok (.ireturn, 1) := by decide +kernel
theorem dX6_stuck_0 : decode cX6_stuck 0 = .ok (.aload_n 0, 1) := by decide +kernel
theorem dX6_stuck_1 : decode cX6_stuck 1 = .ok (.invokevirtual 211, 3) := by decide +kernel
theorem dX6_stuck_4 : decode cX6_stuck 4 = .ok (.iconst 0, 1) := by decide +kernel
theorem dX6_stuck_5 : decode cX6_stuck 5 = .ok (.istore_n 1, 1) := by decide +kernel
theorem dX6_stuck_6 : decode cX6_stuck 6 = .ok (.iload_n 1, 1) := by decide +kernel
theorem dX6_stuck_7 : decode cX6_stuck 7 = .ok (.bipush 60, 2) := by decide +kernel
theorem dX6_stuck_9 : decode cX6_stuck 9 = .ok (.if_icmp .ge 36, 3) := by decide +kernel
theorem dX6_stuck_12 : decode cX6_stuck 12 = .ok (.aload_n 0, 1) := by decide +kernel
theorem dX6_stuck_13 : decode cX6_stuck 13 = .ok (.getfield 26, 3) := by decide +kernel
theorem dX6_stuck_16 : decode cX6_stuck 16 = .ok (.invokevirtual 220, 3) := by decide +kernel
theorem dX6_stuck_19 : decode cX6_stuck 19 = .ok (.pop, 1) := by decide +kernel
theorem dX6_stuck_20 : decode cX6_stuck 20 = .ok (.aload_n 0, 1) := by decide +kernel
theorem dX6_stuck_21 : decode cX6_stuck 21 = .ok (.getfield 26, 3) := by decide +kernel
theorem dX6_stuck_24 : decode cX6_stuck 24 = .ok (.invokevirtual 223, 3) := by decide +kernel
theorem dX6_stuck_27 : decode cX6_stuck 27 = .ok (.ldc 123, 2) := by decide +kernel
theorem dX6_stuck_29 : decode cX6_stuck 29 = .ok (.if_icmp .ge 10, 3) := by decide +kernel
theorem dX6_stuck_32 : decode cX6_stuck 32 = .ok (.aload_n 0, 1) := by decide +kernel
theorem dX6_stuck_33 : decode cX6_stuck 33 = .ok (.getfield 26, 3) := by decide +kernel
theorem dX6_stuck_36 : decode cX6_stuck 36 = .ok (.invokevirtual 124, 3) := by decide +kernel
theorem dX6_stuck_39 : decode cX6_stuck 39 = .ok (.iinc 1 1, 3) := by decide +kernel
theorem dX6_stuck_42 : decode cX6_stuck 42 = .ok (.goto (-36), 3) := by decide +kernel
theorem dX6_stuck_45 : decode cX6_stuck 45 = .ok (.aload_n 0, 1) := by decide +kernel
theorem dX6_stuck_46 : decode cX6_stuck 46 = .ok (.getfield 26, 3) := by decide +kernel
theorem dX6_stuck_49 : decode cX6_stuck 49 = .ok (.getfield 169, 3) := by decide +kernel
theorem dX6_stuck_52 : decode cX6_stuck 52 = .ok (.invokevirtual 226, 3) := by decide +kernel
theorem dX6_stuck_55 : decode cX6_stuck 55 = .ok (.ireturn, 1) := by decide +kernel
theorem dX6_soon_0 : decode cX6_soon 0 = .ok (.aload_n 0, 1) := by decide +kernel
theorem dX6_soon_1 : decode cX6_soon 1 = .ok (.iload_n 1, 1) := by decide +kernel
theorem dX6_soon_2 : decode cX6_soon 2 = .ok (.invokevirtual 181, 3) := by decide +kernel
theorem dX6_soon_5 : decode cX6_soon 5 = .ok (.istore_n 2, 1) := by decide +kernel
theorem dX6_soon_6 : decode cX6_soon 6 = .ok (.iload_n 2, 1) := by decide +kernel
theorem dX6_soon_7 : decode cX6_soon 7 = .ok (.ifCond .ge 5, 3) := by decide +kernel
theorem dX6_soon_10 : decode cX6_soon 10 = .ok (.iconst (-1), 1) := by decide +kernel
theorem dX6_soon_11 : decode cX6_soon 11 = .ok (.ireturn, 1) := by decide +kernel
theorem dX6_soon_12 : decode cX6_soon 12 = .ok (.aload_n 0, 1) := by decide +kernel
theorem dX6_soon_13 : decode cX6_soon 13 = .ok (.getfield 22, 3) := by decide +kernel
theorem dX6_soon_16 : decode cX6_soon 16 = .ok (.getfield 137, 3) := by decide +kernel
theorem dX6_soon_19 : decode cX6_soon 19 = .ok (.iload_n 2, 1) := by decide +kernel
theorem dX6_soon_20 : decode cX6_soon 20 = .ok (.iconst 0, 1) := by decide +kernel
theorem dX6_soon_21 : decode cX6_soon 21 = .ok (.invokevirtual 157, 3) := by decide +kernel
theorem dX6_soon_24 : decode cX6_soon 24 = .ok (.ifCond .eq 10, 3) := by decide +kernel
theorem dX6_soon_27 : decode cX6_soon 27 = .ok (.aload_n 0, 1) := by decide +kernel
theorem dX6_soon_28 : decode cX6_soon 28 = .ok (.getfield 13, 3) := by decide +kernel
theorem dX6_soon_31 : decode cX6_soon 31 = .ok (.iconst 0, 1) := by decide +kernel
theorem dX6_soon_32 : decode cX6_soon 32 = .ok (.iaload, 1) := by decide +kernel
theorem dX6_soon_33 : decode cX6_soon 33 = .ok (.ireturn, 1) := by decide +kernel
theorem dX6_soon_34 : decode cX6_soon 34 = .ok (.aload_n 0, 1) := by decide +kernel
theorem dX6_soon_35 : decode cX6_soon 35 = .ok (.invokevirtual 211, 3) := by decide +kernel
theorem dX6_soon_38 : decode cX6_soon 38 = .ok (.iconst 0, 1) := by decide +kernel
theorem dX6_soon_39 : decode cX6_soon 39 = .ok (.istore_n 3, 1) := by decide +kernel
theorem dX6_soon_40 : decode cX6_soon 40 = .ok (.iload_n 3, 1) := by decide +kernel
theorem dX6_soon_41 : decode cX6_soon 41 = .ok (.bipush 100, 2) := by decide +kernel
theorem dX6_soon_43 : decode cX6_soon 43 = .ok (.if_icmp .ge 62, 3) := by decide +kernel
theorem dX6_soon_46 : decode cX6_soon 46 = .ok (.aload_n 0, 1) := by decide +kernel
theorem dX6_soon_47 : decode cX6_soon 47 = .ok (.getfield 26, 3) := by decide +kernel
theorem dX6_soon_50 : decode cX6_soon 50 = .ok (.invokevirtual 223, 3) := by decide +kernel
theorem dX6_soon_53 : decode cX6_soon 53 = .ok (.ldc 123, 2) := by decide +kernel
theorem dX6_soon_55 : decode cX6_soon 55 = .ok (.if_icmp .ge 50, 3) := by decide +kernel
theorem dX6_soon_58 : decode cX6_soon 58 = .ok (.aload_n 0, 1) := by decide +kernel
theorem dX6_soon_59 : decode cX6_soon 59 = .ok (.getfield 26, 3) := by decide +kernel
theorem dX6_soon_62 : decode cX6_soon 62 = .ok (.invokevirtual 124, 3) := by decide +kernel
theorem dX6_soon_65 : decode cX6_soon 65 = .ok (.aload_n 0, 1) := by decide +kernel
theorem dX6_soon_66 : decode cX6_soon 66 = .ok (.getfield 26, 3) := by decide +kernel
theorem dX6_soon_69 : decode cX6_soon 69 = .ok (.iload_n 2, 1) := by decide +kernel
theorem dX6_soon_70 : decode cX6_soon 70 = .ok (.invokevirtual 229, 3) := by decide +kernel
theorem dX6_soon_73 : decode cX6_soon 73 = .ok (.ifCond .ne 18, 3) := by decide +kernel
theorem dX6_soon_76 : decode cX6_soon 76 = .ok (.aload_n 0, 1) := by decide +kernel
theorem dX6_soon_77 : decode cX6_soon 77 = .ok (.getfield 26, 3) := by decide +kernel
theorem dX6_soon_80 : decode cX6_soon 80 = .ok (.getfield 137, 3) := by decide +kernel
theorem dX6_soon_83 : decode cX6_soon 83 = .ok (.iload_n 2, 1) := by decide +kernel
theorem dX6_soon_84 : decode cX6_soon 84 = .ok (.iconst 0, 1) := by decide +kernel
theorem dX6_soon_85 : decode cX6_soon 85 = .ok (.invokevirtual 157, 3) := by decide +kernel
theorem dX6_soon_88 : decode cX6_soon 88 = .ok (.ifCond .eq 11, 3) := by decide +kernel
theorem dX6_soon_91 : decode cX6_soon 91 = .ok (.aload_n 0, 1) := by decide +kernel
theorem dX6_soon_92 : decode cX6_soon 92 = .ok (.getfield 26, 3) := by decide +kernel
theorem dX6_soon_95 : decode cX6_soon 95 = .ok (.invokevirtual 223, 3) := by decide +kernel
theorem dX6_soon_98 : decode cX6_soon 98 = .ok (.ireturn, 1) := by decide +kernel
theorem dX6_soon_99 : decode cX6_soon 99 = .ok (.iinc 3 1, 3) := by decide +kernel
theorem dX6_soon_102 : decode cX6_soon 102 = .ok (.goto (-62), 3) := by decide +kernel
theorem dX6_soon_105 : decode cX6_soon 105 = .ok (.iconst (-1), 1) := by decide +kernel
theorem dX6_soon_106 : decode cX6_soon 106 = .ok (.ireturn, 1) := by decide +kernel
theorem dX6_calls_0 : decode cX6_calls 0 = .ok (.aload_n 0, 1) := by decide +kernel
theorem dX6_calls_1 : decode cX6_calls 1 = .ok (.getfield 22, 3) := by decide +kernel
theorem dX6_calls_4 : decode cX6_calls 4 = .ok (.getfield 65, 3) := by decide +kernel
theorem dX6_calls_7 : decode cX6_calls 7 = .ok (.iload_n 1, 1) := by decide +kernel
theorem dX6_calls_8 : decode cX6_calls 8 = .ok (.invokevirtual 89, 3) := by decide +kernel
theorem dX6_calls_11 : decode cX6_calls 11 = .ok (.istore_n 3, 1) := by decide +kernel
theorem dX6_calls_12 : decode cX6_calls 12 = .ok (.iload_n 2, 1) := by decide +kernel
theorem dX6_calls_13 : decode cX6_calls 13 = .ok (.iconst 1, 1) := by decide +kernel
theorem dX6_calls_14 : decode cX6_calls 14 = .ok (.if_icmp .eq 19, 3) := by decide +kernel
theorem dX6_calls_17 : decode cX6_calls 17 = .ok (.iload_n 2, 1) := by decide +kernel
theorem dX6_calls_18 : decode cX6_calls 18 = .ok (.iconst 2, 1) := by decide +kernel
theorem dX6_calls_19 : decode cX6_calls 19 = .ok (.if_icmp .eq 14, 3) := by decide +kernel
theorem dX6_calls_22 : decode cX6_calls 22 = .ok (.iload_n 2, 1) := by decide +kernel
theorem dX6_calls_23 : decode cX6_calls 23 = .ok (.iconst 4, 1) := by decide +kernel
theorem dX6_calls_24 : decode cX6_calls 24 = .ok (.if_icmp .eq 9, 3) := by decide +kernel
theorem dX6_calls_27 : decode cX6_calls 27 = .ok (.iload_n 2, 1) := by decide +kernel
theorem dX6_calls_28 : decode cX6_calls 28 = .ok (.bipush 8, 2) := by decide +kernel
theorem dX6_calls_30 : decode cX6_calls 30 = .ok (.if_icmp .ne 7, 3) := by decide +kernel
theorem dX6_calls_33 : decode cX6_calls 33 = .ok (.iconst 1, 1) := by decide +kernel
theorem dX6_calls_34 : decode cX6_calls 34 = .ok (.goto 4, 3) := by decide +kernel
theorem dX6_calls_37 : decode cX6_calls 37 = .ok (.iconst 0, 1) := by decide +kernel
theorem dX6_calls_38 : decode cX6_calls 38 = .ok (.istore 4, 2) := by decide +kernel
theorem dX6_calls_40 : decode cX6_calls 40 = .ok (.iload_n 3, 1) := by decide +kernel
theorem dX6_calls_41 : decode cX6_calls 41 = .ok (.ifCond .lt 8, 3) := by decide +kernel
theorem dX6_calls_44 : decode cX6_calls 44 = .ok (.iload 4, 2) := by decide +kernel
theorem dX6_calls_46 : decode cX6_calls 46 = .ok (.ifCond .ne 5, 3) := by decide +kernel
theorem dX6_calls_49 : decode cX6_calls 49 = .ok (.iconst (-1), 1) := by decide +kernel
theorem dX6_calls_50 : decode cX6_calls 50 = .ok (.ireturn, 1) := by decide +kernel
theorem dX6_calls_51 : decode cX6_calls 51 = .ok (.aload_n 0, 1) := by decide +kernel
theorem dX6_calls_52 : decode cX6_calls 52 = .ok (.invokevirtual 211, 3) := by decide +kernel
theorem dX6_calls_55 : decode cX6_calls 55 = .ok (.aload_n 0, 1) := by decide +kernel
theorem dX6_calls_56 : decode cX6_calls 56 = .ok (.getfield 26, 3) := by decide +kernel
theorem dX6_calls_59 : decode cX6_calls 59 = .ok (.iload_n 3, 1) := by decide +kernel
theorem dX6_calls_60 : decode cX6_calls 60 = .ok (.iload_n 2, 1) := by decide +kernel
theorem dX6_calls_61 : decode cX6_calls 61 = .ok (.iconst 0, 1) := by decide +kernel
theorem dX6_calls_62 : decode cX6_calls 62 = .ok (.invokevirtual 232, 3) := by decide +kernel
theorem dX6_calls_65 : decode cX6_calls 65 = .ok (.aload_n 0, 1) := by decide +kernel
theorem dX6_calls_66 : decode cX6_calls 66 = .ok (.getfield 26, 3) := by decide +kernel
theorem dX6_calls_69 : decode cX6_calls 69 = .ok (.invokevirtual 236, 3) := by decide +kernel
theorem dX6_calls_72 : decode cX6_calls 72 = .ok (.ireturn, 1) := by decide +kernel
theorem dX6_image_0 : decode cX6_image 0 = .ok (.iload_n 1, 1) := by decide +kernel
theorem dX6_image_1 : decode cX6_image 1 = .ok (.ifCond .lt 8, 3) := by decide +kernel
theorem dX6_image_4 : decode cX6_image 4 = .ok (.iload_n 1, 1) := by decide +kernel
theorem dX6_image_5 : decode cX6_image 5 = .ok (.iconst 2, 1) := by decide +kernel
theorem dX6_image_6 : decode cX6_image 6 = .ok (.if_icmp .lt 5, 3) := by decide +kernel
theorem dX6_image_9 : decode cX6_image 9 = .ok (.iconst (-1), 1) := by decide +kernel
theorem dX6_image_10 : decode cX6_image 10 = .ok (.ireturn, 1) := by decide +kernel
theorem dX6_image_11 : decode cX6_image 11 = .ok (.aload_n 0, 1) := by decide +kernel
theorem dX6_image_12 : decode cX6_image 12 = .ok (.getfield 13, 3) := by decide +kernel
theorem dX6_image_15 : decode cX6_image 15 = .ok (.iconst 0, 1) := by decide +kernel
theorem dX6_image_16 : decode cX6_image 16 = .ok (.aload_n 0, 1) := by decide +kernel
theorem dX6_image_17 : decode cX6_image 17 = .ok (.getfield 48, 3) := by decide +kernel
theorem dX6_image_20 : decode cX6_image 20 = .ok (.iload_n 1, 1) := by decide +kernel
theorem dX6_image_21 : decode cX6_image 21 = .ok (.sipush 773, 3) := by decide +kernel
theorem dX6_image_24 : decode cX6_image 24 = .ok (.imul, 1) := by decide +kernel
theorem dX6_image_25 : decode cX6_image 25 = .ok (.sipush 773, 3) := by decide +kernel
theorem dX6_image_28 : decode cX6_image 28 = .ok (.invokestatic 239, 3) := by decide +kernel
theorem dX6_image_31 : decode cX6_image 31 = .ok (.aload_n 0, 1) := by decide +kernel
theorem dX6_image_32 : decode cX6_image 32 = .ok (.dup, 1) := by decide +kernel
theorem dX6_image_33 : decode cX6_image 33 = .ok (.getfield 51, 3) := by decide +kernel
theorem dX6_image_36 : decode cX6_image 36 = .ok (.iconst 1, 1) := by decide +kernel
theorem dX6_image_37 : decode cX6_image 37 = .ok (.iload_n 1, 1) := by decide +kernel
theorem dX6_image_38 : decode cX6_image 38 = .ok (.ishl, 1) := by decide +kernel
theorem dX6_image_39 : decode cX6_image 39 = .ok (.ior, 1) := by decide +kernel
theorem dX6_image_40 : decode cX6_image 40 = .ok (.putfield 51, 3) := by decide +kernel
theorem dX6_image_43 : decode cX6_image 43 = .ok (.aload_n 0, 1) := by decide +kernel
theorem dX6_image_44 : decode cX6_image 44 = .ok (.getfield 22, 3) := by decide +kernel
theorem dX6_image_47 : decode cX6_image 47 = .ok (.getfield 65, 3) := by decide +kernel
theorem dX6_image_50 : decode cX6_image 50 = .ok (.invokevirtual 245, 3) := by decide +kernel
theorem dX6_image_53 : decode cX6_image 53 = .ok (.ireturn, 1) := by decide +kernel
theorem dX6_back_0 : decode cX6_back 0 = .ok (.iload_n 1, 1) := by decide +kernel
theorem dX6_back_1 : decode cX6_back 1 = .ok (.ifCond .lt 19, 3) := by decide +kernel
theorem dX6_back_4 : decode cX6_back 4 = .ok (.iload_n 1, 1) := by decide +kernel
theorem dX6_back_5 : decode cX6_back 5 = .ok (.iconst 2, 1) := by decide +kernel
theorem dX6_back_6 : decode cX6_back 6 = .ok (.if_icmp .ge 14, 3) := by decide +kernel
theorem dX6_back_9 : decode cX6_back 9 = .ok (.aload_n 0, 1) := by decide +kernel
theorem dX6_back_10 : decode cX6_back 10 = .ok (.getfield 51, 3) := by decide +kernel
theorem dX6_back_13 : decode cX6_back 13 = .ok (.iconst 1, 1) := by decide +kernel
theorem dX6_back_14 : decode cX6_back 14 = .ok (.iload_n 1, 1) := by decide +kernel
theorem dX6_back_15 : decode cX6_back 15 = .ok (.ishl, 1) := by decide +kernel
theorem dX6_back_16 : decode cX6_back 16 = .ok (.iand, 1) := by decide +kernel
theorem dX6_back_17 : decode cX6_back 17 = .ok (.ifCond .ne 5, 3) := by decide +kernel
theorem dX6_back_20 : decode cX6_back 20 = .ok (.iconst (-1), 1) := by decide +kernel
theorem dX6_back_21 : decode cX6_back 21 = .ok (.ireturn, 1) := by decide +kernel
theorem dX6_back_22 : decode cX6_back 22 = .ok (.aload_n 0, 1) := by decide +kernel
theorem dX6_back_23 : decode cX6_back 23 = .ok (.getfield 48, 3) := by decide +kernel
theorem dX6_back_26 : decode cX6_back 26 = .ok (.iload_n 1, 1) := by decide +kernel
theorem dX6_back_27 : decode cX6_back 27 = .ok (.sipush 773, 3) := by decide +kernel
theorem dX6_back_30 : decode cX6_back 30 = .ok (.imul, 1) := by decide +kernel
theorem dX6_back_31 : decode cX6_back 31 = .ok (.aload_n 0, 1) := by decide +kernel
theorem dX6_back_32 : decode cX6_back 32 = .ok (.getfield 13, 3) := by decide +kernel
theorem dX6_back_35 : decode cX6_back 35 = .ok (.iconst 0, 1) := by decide +kernel
theorem dX6_back_36 : decode cX6_back 36 = .ok (.sipush 773, 3) := by decide +kernel
theorem dX6_back_39 : decode cX6_back 39 = .ok (.invokestatic 239, 3) := by decide +kernel
theorem dX6_back_42 : decode cX6_back 42 = .ok (.aload_n 0, 1) := by decide +kernel
theorem dX6_back_43 : decode cX6_back 43 = .ok (.getfield 41, 3) := by decide +kernel
theorem dX6_back_46 : decode cX6_back 46 = .ok (.aload_n 0, 1) := by decide +kernel
theorem dX6_back_47 : decode cX6_back 47 = .ok (.getfield 13, 3) := by decide +kernel
theorem dX6_back_50 : decode cX6_back 50 = .ok (.invokevirtual 45, 3) := by decide +kernel
theorem dX6_back_53 : decode cX6_back 53 = .ok (.aload_n 0, 1) := by decide +kernel
theorem dX6_back_54 : decode cX6_back 54 = .ok (.getfield 22, 3) := by decide +kernel
theorem dX6_back_57 : decode cX6_back 57 = .ok (.getfield 65, 3) := by decide +kernel
theorem dX6_back_60 : decode cX6_back 60 = .ok (.invokevirtual 245, 3) := by decide +kernel
theorem dX6_back_63 : decode cX6_back 63 = .ok (.ireturn, 1) := by decide +kernel
theorem dX6_forget_0 : decode cX6_forget 0 = .ok (.iload_n 1, 1) := by decide +kernel
theorem dX6_forget_1 : decode cX6_forget 1 = .ok (.invokestatic 208, 3) := by decide +kernel
theorem dX6_forget_4 : decode cX6_forget 4 = .ok (.ifCond .eq 16, 3) := by decide +kernel
theorem dX6_forget_7 : decode cX6_forget 7 = .ok (.aload_n 0, 1) := by decide +kernel
theorem dX6_forget_8 : decode cX6_forget 8 = .ok (.getfield 13, 3) := by decide +kernel
theorem dX6_forget_11 : decode cX6_forget 11 = .ok (.sipush 599, 3) := by decide +kernel
theorem dX6_forget_14 : decode cX6_forget 14 = .ok (.iload_n 1, 1) := by decide +kernel
theorem dX6_forget_15 : decode cX6_forget 15 = .ok (.iadd, 1) := by decide +kernel
theorem dX6_forget_16 : decode cX6_forget 16 = .ok (.iaload, 1) := by decide +kernel
theorem dX6_forget_17 : decode cX6_forget 17 = .ok (.ifCond .ne 5, 3) := by decide +kernel
theorem dX6_forget_20 : decode cX6_forget 20 = .ok (.iconst (-1), 1) := by decide +kernel
theorem dX6_forget_21 : decode cX6_forget 21 = .ok (.ireturn, 1) := by decide +kernel
theorem dX6_forget_22 : decode cX6_forget 22 = .ok (.aload_n 0, 1) := by decide +kernel
theorem dX6_forget_23 : decode cX6_forget 23 = .ok (.getfield 13, 3) := by decide +kernel
theorem dX6_forget_26 : decode cX6_forget 26 = .ok (.sipush 599, 3) := by decide +kernel
theorem dX6_forget_29 : decode cX6_forget 29 = .ok (.iload_n 1, 1) := by decide +kernel
theorem dX6_forget_30 : decode cX6_forget 30 = .ok (.iadd, 1) := by decide +kernel
theorem dX6_forget_31 : decode cX6_forget 31 = .ok (.iaload, 1) := by decide +kernel
theorem dX6_forget_32 : decode cX6_forget 32 = .ok (.istore_n 2, 1) := by decide +kernel
theorem dX6_forget_33 : decode cX6_forget 33 = .ok (.aload_n 0, 1) := by decide +kernel
theorem dX6_forget_34 : decode cX6_forget 34 = .ok (.getfield 13, 3) := by decide +kernel
theorem dX6_forget_37 : decode cX6_forget 37 = .ok (.sipush 599, 3) := by decide +kernel
theorem dX6_forget_40 : decode cX6_forget 40 = .ok (.iload_n 1, 1) := by decide +kernel
theorem dX6_forget_41 : decode cX6_forget 41 = .ok (.iadd, 1) := by decide +kernel
theorem dX6_forget_42 : decode cX6_forget 42 = .ok (.iconst 0, 1) := by decide +kernel
theorem dX6_forget_43 : decode cX6_forget 43 = .ok (.iastore, 1) := by decide +kernel
theorem dX6_forget_44 : decode cX6_forget 44 = .ok (.aload_n 0, 1) := by decide +kernel
theorem dX6_forget_45 : decode cX6_forget 45 = .ok (.iconst 0, 1) := by decide +kernel
theorem dX6_forget_46 : decode cX6_forget 46 = .ok (.iload_n 2, 1) := by decide +kernel
theorem dX6_forget_47 : decode cX6_forget 47 = .ok (.invokevirtual 79, 3) := by decide +kernel
theorem dX6_forget_50 : decode cX6_forget 50 = .ok (.ireturn, 1) := by decide +kernel
theorem dX6_step_0 : decode cX6_step 0 = .ok (.iload_n 1, 1) := by decide +kernel
theorem dX6_step_1 : decode cX6_step 1 = .ok (.invokestatic 208, 3) := by decide +kernel
theorem dX6_step_4 : decode cX6_step 4 = .ok (.ifCond .ne 6, 3) := by decide +kernel
theorem dX6_step_7 : decode cX6_step 7 = .ok (.bipush (-4), 2) := by decide +kernel
theorem dX6_step_9 : decode cX6_step 9 = .ok (.ireturn, 1) := by decide +kernel
theorem dX6_step_10 : decode cX6_step 10 = .ok (.aload_n 0, 1) := by decide +kernel
theorem dX6_step_11 : decode cX6_step 11 = .ok (.getfield 13, 3) := by decide +kernel
theorem dX6_step_14 : decode cX6_step 14 = .ok (.sipush 539, 3) := by decide +kernel
theorem dX6_step_17 : decode cX6_step 17 = .ok (.iload_n 1, 1) := by decide +kernel
theorem dX6_step_18 : decode cX6_step 18 = .ok (.iadd, 1) := by decide +kernel
theorem dX6_step_19 : decode cX6_step 19 = .ok (.iaload, 1) := by decide +kernel
theorem dX6_step_20 : decode cX6_step 20 = .ok (.ifCond .lt 6, 3) := by decide +kernel
theorem dX6_step_23 : decode cX6_step 23 = .ok (.bipush (-3), 2) := by decide +kernel
theorem dX6_step_25 : decode cX6_step 25 = .ok (.ireturn, 1) := by decide +kernel
theorem dX6_step_26 : decode cX6_step 26 = .ok (.aload_n 0, 1) := by decide +kernel
theorem dX6_step_27 : decode cX6_step 27 = .ok (.getfield 13, 3) := by decide +kernel
theorem dX6_step_30 : decode cX6_step 30 = .ok (.sipush 599, 3) := by decide +kernel
theorem dX6_step_33 : decode cX6_step 33 = .ok (.iload_n 1, 1) := by decide +kernel
theorem dX6_step_34 : decode cX6_step 34 = .ok (.iadd, 1) := by decide +kernel
theorem dX6_step_35 : decode cX6_step 35 = .ok (.iaload, 1) := by decide +kernel
theorem dX6_step_36 : decode cX6_step 36 = .ok (.ifCond .ne 6, 3) := by decide +kernel
theorem dX6_step_39 : decode cX6_step 39 = .ok (.bipush (-4), 2) := by decide +kernel
theorem dX6_step_41 : decode cX6_step 41 = .ok (.ireturn, 1) := by decide +kernel
theorem dX6_step_42 : decode cX6_step 42 = .ok (.aload_n 0, 1) := by decide +kernel
theorem dX6_step_43 : decode cX6_step 43 = .ok (.getfield 22, 3) := by decide +kernel
theorem dX6_step_46 : decode cX6_step 46 = .ok (.iload_n 1, 1) := by decide +kernel
theorem dX6_step_47 : decode cX6_step 47 = .ok (.invokevirtual 248, 3) := by decide +kernel
theorem dX6_step_50 : decode cX6_step 50 = .ok (.istore_n 2, 1) := by decide +kernel
theorem dX6_step_51 : decode cX6_step 51 = .ok (.aload_n 0, 1) := by decide +kernel
theorem dX6_step_52 : decode cX6_step 52 = .ok (.getfield 41, 3) := by decide +kernel
theorem dX6_step_55 : decode cX6_step 55 = .ok (.aload_n 0, 1) := by decide +kernel
theorem dX6_step_56 : decode cX6_step 56 = .ok (.getfield 13, 3) := by decide +kernel
theorem dX6_step_59 : decode cX6_step 59 = .ok (.invokevirtual 59, 3) := by decide +kernel
theorem dX6_step_62 : decode cX6_step 62 = .ok (.iload_n 2, 1) := by decide +kernel
theorem dX6_step_63 : decode cX6_step 63 = .ok (.ireturn, 1) := by decide +kernel
theorem dX6_orders_0 : decode cX6_orders 0 = .ok (.iload_n 1, 1) := by decide +kernel
theorem dX6_orders_1 : decode cX6_orders 1 = .ok (.invokestatic 208, 3) := by decide +kernel
theorem dX6_orders_4 : decode cX6_orders 4 = .ok (.ifCond .eq 15, 3) := by decide +kernel
theorem dX6_orders_7 : decode cX6_orders 7 = .ok (.iload_n 2, 1) := by decide +kernel
theorem dX6_orders_8 : decode cX6_orders 8 = .ok (.invokestatic 208, 3) := by decide +kernel
theorem dX6_orders_11 : decode cX6_orders 11 = .ok (.ifCond .eq 8, 3) := by decide +kernel
theorem dX6_orders_14 : decode cX6_orders 14 = .ok (.iload_n 1, 1) := by decide +kernel
theorem dX6_orders_15 : decode cX6_orders 15 = .ok (.iload_n 2, 1) := by decide +kernel
theorem dX6_orders_16 : decode cX6_orders 16 = .ok (.if_icmp .ne 5, 3) := by decide +kernel
theorem dX6_orders_19 : decode cX6_orders 19 = .ok (.iconst (-1), 1) := by decide +kernel
theorem dX6_orders_20 : decode cX6_orders 20 = .ok (.ireturn, 1) := by decide +kernel
theorem dX6_orders_21 : decode cX6_orders 21 = .ok (.aload_n 0, 1) := by decide +kernel
theorem dX6_orders_22 : decode cX6_orders 22 = .ok (.getfield 13, 3) := by decide +kernel
theorem dX6_orders_25 : decode cX6_orders 25 = .ok (.sipush 593, 3) := by decide +kernel
theorem dX6_orders_28 : decode cX6_orders 28 = .ok (.iload_n 1, 1) := by decide +kernel
theorem dX6_orders_29 : decode cX6_orders 29 = .ok (.iadd, 1) := by decide +kernel
theorem dX6_orders_30 : decode cX6_orders 30 = .ok (.iaload, 1) := by decide +kernel
theorem dX6_orders_31 : decode cX6_orders 31 = .ok (.ifCond .ne 16, 3) := by decide +kernel
theorem dX6_orders_34 : decode cX6_orders 34 = .ok (.aload_n 0, 1) := by decide +kernel
theorem dX6_orders_35 : decode cX6_orders 35 = .ok (.getfield 13, 3) := by decide +kernel
theorem dX6_orders_38 : decode cX6_orders 38 = .ok (.sipush 593, 3) := by decide +kernel
theorem dX6_orders_41 : decode cX6_orders 41 = .ok (.iload_n 2, 1) := by decide +kernel
theorem dX6_orders_42 : decode cX6_orders 42 = .ok (.iadd, 1) := by decide +kernel
theorem dX6_orders_43 : decode cX6_orders 43 = .ok (.iaload, 1) := by decide +kernel
theorem dX6_orders_44 : decode cX6_orders 44 = .ok (.ifCond .eq 5, 3) := by decide +kernel
theorem dX6_orders_47 : decode cX6_orders 47 = .ok (.iconst (-1), 1) := by decide +kernel
theorem dX6_orders_48 : decode cX6_orders 48 = .ok (.ireturn, 1) := by decide +kernel
theorem dX6_orders_49 : decode cX6_orders 49 = .ok (.aload_n 0, 1) := by decide +kernel
theorem dX6_orders_50 : decode cX6_orders 50 = .ok (.invokevirtual 211, 3) := by decide +kernel
theorem dX6_orders_53 : decode cX6_orders 53 = .ok (.aload_n 0, 1) := by decide +kernel
theorem dX6_orders_54 : decode cX6_orders 54 = .ok (.getfield 34, 3) := by decide +kernel
theorem dX6_orders_57 : decode cX6_orders 57 = .ok (.iload_n 1, 1) := by decide +kernel
theorem dX6_orders_58 : decode cX6_orders 58 = .ok (.iload_n 2, 1) := by decide +kernel
theorem dX6_orders_59 : decode cX6_orders 59 = .ok (.invokevirtual 251, 3) := by decide +kernel
theorem dX6_orders_62 : decode cX6_orders 62 = .ok (.aload_n 0, 1) := by decide +kernel
theorem dX6_orders_63 : decode cX6_orders 63 = .ok (.getfield 34, 3) := by decide +kernel
theorem dX6_orders_66 : decode cX6_orders 66 = .ok (.iconst 0, 1) := by decide +kernel
theorem dX6_orders_67 : decode cX6_orders 67 = .ok (.invokevirtual 254, 3) := by decide +kernel
theorem dX6_orders_70 : decode cX6_orders 70 = .ok (.aload_n 0, 1) := by decide +kernel
theorem dX6_orders_71 : decode cX6_orders 71 = .ok (.getfield 34, 3) := by decide +kernel
theorem dX6_orders_74 : decode cX6_orders 74 = .ok (.iload_n 3, 1) := by decide +kernel
theorem dX6_orders_75 : decode cX6_orders 75 = .ok (.invokevirtual 257, 3) := by decide +kernel
theorem dX6_orders_78 : decode cX6_orders 78 = .ok (.ireturn, 1) := by decide +kernel
theorem dX6_undo_0 : decode cX6_undo 0 = .ok (.aload_n 0, 1) := by decide +kernel
theorem dX6_undo_1 : decode cX6_undo 1 = .ok (.getfield 41, 3) := by decide +kernel
theorem dX6_undo_4 : decode cX6_undo 4 = .ok (.aload_n 0, 1) := by decide +kernel
theorem dX6_undo_5 : decode cX6_undo 5 = .ok (.getfield 13, 3) := by decide +kernel
theorem dX6_undo_8 : decode cX6_undo 8 = .ok (.invokevirtual 260, 3) := by decide +kernel
theorem dX6_undo_11 : decode cX6_undo 11 = .ok (.ireturn, 1) := by decide +kernel
theorem dX6_redo_0 : decode cX6_redo 0 = .ok (.aload_n 0, 1) := by decide +kernel
theorem dX6_redo_1 : decode cX6_redo 1 = .ok (.getfield 41, 3) := by decide +kernel
theorem dX6_redo_4 : decode cX6_redo 4 = .ok (.aload_n 0, 1) := by decide +kernel
theorem dX6_redo_5 : decode cX6_redo 5 = .ok (.getfield 13, 3) := by decide +kernel
theorem dX6_redo_8 : decode cX6_redo 8 = .ok (.invokevirtual 264, 3) := by decide +kernel
theorem dX6_redo_11 : decode cX6_redo 11 = .ok (.ireturn, 1) := by decide +kernel
theorem dX6_about_0 : decode cX6_about 0 = .ok (.iload_n 1, 1) := by decide +kernel
theorem dX6_about_1 : decode cX6_about 1 = .ok (.tableswitch 106 0 6 #[43, 54, 61, 68, 79, 87, 95], 43) := by decide +kernel
theorem dX6_about_44 : decode cX6_about 44 = .ok (.aload_n 0, 1) := by decide +kernel
theorem dX6_about_45 : decode cX6_about 45 = .ok (.getfield 22, 3) := by decide +kernel
theorem dX6_about_48 : decode cX6_about 48 = .ok (.getfield 65, 3) := by decide +kernel
theorem dX6_about_51 : decode cX6_about 51 = .ok (.invokevirtual 267, 3) := by decide +kernel
theorem dX6_about_54 : decode cX6_about 54 = .ok (.ireturn, 1) := by decide +kernel
theorem dX6_about_55 : decode cX6_about 55 = .ok (.aload_n 0, 1) := by decide +kernel
theorem dX6_about_56 : decode cX6_about 56 = .ok (.getfield 13, 3) := by decide +kernel
theorem dX6_about_59 : decode cX6_about 59 = .ok (.iconst 2, 1) := by decide +kernel
theorem dX6_about_60 : decode cX6_about 60 = .ok (.iaload, 1) := by decide +kernel
theorem dX6_about_61 : decode cX6_about 61 = .ok (.ireturn, 1) := by decide +kernel
theorem dX6_about_62 : decode cX6_about 62 = .ok (.aload_n 0, 1) := by decide +kernel
theorem dX6_about_63 : decode cX6_about 63 = .ok (.getfield 13, 3) := by decide +kernel
theorem dX6_about_66 : decode cX6_about 66 = .ok (.iconst 0, 1) := by decide +kernel
theorem dX6_about_67 : decode cX6_about 67 = .ok (.iaload, 1) := by decide +kernel
theorem dX6_about_68 : decode cX6_about 68 = .ok (.ireturn, 1) := by decide +kernel
theorem dX6_about_69 : decode cX6_about 69 = .ok (.aload_n 0, 1) := by decide +kernel
theorem dX6_about_70 : decode cX6_about 70 = .ok (.getfield 22, 3) := by decide +kernel
theorem dX6_about_73 : decode cX6_about 73 = .ok (.getfield 169, 3) := by decide +kernel
theorem dX6_about_76 : decode cX6_about 76 = .ok (.invokevirtual 226, 3) := by decide +kernel
theorem dX6_about_79 : decode cX6_about 79 = .ok (.ireturn, 1) := by decide +kernel
theorem dX6_about_80 : decode cX6_about 80 = .ok (.aload_n 0, 1) := by decide +kernel
theorem dX6_about_81 : decode cX6_about 81 = .ok (.getfield 41, 3) := by decide +kernel
theorem dX6_about_84 : decode cX6_about 84 = .ok (.getfield 270, 3) := by decide +kernel
theorem dX6_about_87 : decode cX6_about 87 = .ok (.ireturn, 1) := by decide +kernel
theorem dX6_about_88 : decode cX6_about 88 = .ok (.aload_n 0, 1) := by decide +kernel
theorem dX6_about_89 : decode cX6_about 89 = .ok (.getfield 41, 3) := by decide +kernel
theorem dX6_about_92 : decode cX6_about 92 = .ok (.getfield 273, 3) := by decide +kernel
theorem dX6_about_95 : decode cX6_about 95 = .ok (.ireturn, 1) := by decide +kernel
theorem dX6_about_96 : decode cX6_about 96 = .ok (.aload_n 0, 1) := by decide +kernel
theorem dX6_about_97 : decode cX6_about 97 = .ok (.getfield 22, 3) := by decide +kernel
theorem dX6_about_100 : decode cX6_about 100 = .ok (.getfield 65, 3) := by decide +kernel
theorem dX6_about_103 : decode cX6_about 103 = .ok (.invokevirtual 245, 3) := by decide +kernel
theorem dX6_about_106 : decode cX6_about 106 = .ok (.ireturn, 1) := by decide +kernel
theorem dX6_about_107 : decode cX6_about 107 = .ok (.iconst (-1), 1) := by decide +kernel
theorem dX6_about_108 : decode cX6_about 108 = .ok (.ireturn, 1) := by decide +kernel
